section
-- ===== PART A: goes FIRST, ahead of the names: the tables' words, and 'selects' of the private methods out of them =====
/-- a private method of a class that the tables say can be made, by its rows of tables_1 -/
def lw_okq (q : MethodName × Nat) : Prop := (q.1.cls ≠ "java/lang/invoke/MethodHandle" ∧ q.1.cls ≠ "java/lang/invoke/VarHandle") ∧ Cond.instantiable q.1.cls q.2 ∈ tables_1 ∧ Cond.privateMethod q.1 ∈ tables_1 ∧ Cond.instanceMethod q.1 ∈ tables_1
theorem lw_p0 : lw_okq (⟨"DriftingLevels$Grid", "put", "(II)V"⟩, 13) := ⟨⟨by decide +kernel, by decide +kernel⟩, List.mem_of_getElem? (i := 17) (by decide +kernel), List.mem_of_getElem? (i := 23) (by decide +kernel), List.mem_of_getElem? (i := 24) (by decide +kernel)⟩
theorem lw_p1 : lw_okq (⟨"DriftingLevels$Grid", "writeGuards", "(I)V"⟩, 13) := ⟨⟨by decide +kernel, by decide +kernel⟩, List.mem_of_getElem? (i := 17) (by decide +kernel), List.mem_of_getElem? (i := 30) (by decide +kernel), List.mem_of_getElem? (i := 31) (by decide +kernel)⟩
theorem lw_p2 : lw_okq (⟨"DriftingLevels", "recorded", "(I)I"⟩, 10) := ⟨⟨by decide +kernel, by decide +kernel⟩, List.mem_of_getElem? (i := 9) (by decide +kernel), List.mem_of_getElem? (i := 152) (by decide +kernel), List.mem_of_getElem? (i := 153) (by decide +kernel)⟩
theorem lw_p3 : lw_okq (⟨"DriftingLevels", "dropOldest", "()V"⟩, 10) := ⟨⟨by decide +kernel, by decide +kernel⟩, List.mem_of_getElem? (i := 9) (by decide +kernel), List.mem_of_getElem? (i := 156) (by decide +kernel), List.mem_of_getElem? (i := 157) (by decide +kernel)⟩
theorem lw_p4 : lw_okq (⟨"DriftingLevels$Grid", "toldWord", "(I)I"⟩, 13) := ⟨⟨by decide +kernel, by decide +kernel⟩, List.mem_of_getElem? (i := 17) (by decide +kernel), List.mem_of_getElem? (i := 168) (by decide +kernel), List.mem_of_getElem? (i := 169) (by decide +kernel)⟩
theorem lw_p5 : lw_okq (⟨"DriftingLevels$Grid", "threshold", "(II)I"⟩, 13) := ⟨⟨by decide +kernel, by decide +kernel⟩, List.mem_of_getElem? (i := 17) (by decide +kernel), List.mem_of_getElem? (i := 172) (by decide +kernel), List.mem_of_getElem? (i := 173) (by decide +kernel)⟩
theorem lw_p6 : lw_okq (⟨"DriftingLevels$Grid", "ownThreshold", "(II)I"⟩, 13) := ⟨⟨by decide +kernel, by decide +kernel⟩, List.mem_of_getElem? (i := 17) (by decide +kernel), List.mem_of_getElem? (i := 180) (by decide +kernel), List.mem_of_getElem? (i := 181) (by decide +kernel)⟩
theorem lw_p7 : lw_okq (⟨"DriftingLevels$Grid", "drift", "()V"⟩, 13) := ⟨⟨by decide +kernel, by decide +kernel⟩, List.mem_of_getElem? (i := 17) (by decide +kernel), List.mem_of_getElem? (i := 240) (by decide +kernel), List.mem_of_getElem? (i := 241) (by decide +kernel)⟩
theorem lw_p8 : lw_okq (⟨"DriftingLevels$Grid", "nearer", "(II)I"⟩, 13) := ⟨⟨by decide +kernel, by decide +kernel⟩, List.mem_of_getElem? (i := 17) (by decide +kernel), List.mem_of_getElem? (i := 244) (by decide +kernel), List.mem_of_getElem? (i := 245) (by decide +kernel)⟩
theorem lw_p9 : lw_okq (⟨"DriftingLevels$Grid", "age", "(I)I"⟩, 13) := ⟨⟨by decide +kernel, by decide +kernel⟩, List.mem_of_getElem? (i := 17) (by decide +kernel), List.mem_of_getElem? (i := 251) (by decide +kernel), List.mem_of_getElem? (i := 252) (by decide +kernel)⟩
theorem lw_p10 : lw_okq (⟨"DriftingLevels$Grid", "source", "(I)I"⟩, 13) := ⟨⟨by decide +kernel, by decide +kernel⟩, List.mem_of_getElem? (i := 17) (by decide +kernel), List.mem_of_getElem? (i := 297) (by decide +kernel), List.mem_of_getElem? (i := 298) (by decide +kernel)⟩
theorem lw_p11 : lw_okq (⟨"DriftingLevels$Grid", "wrongBy", "(III)I"⟩, 13) := ⟨⟨by decide +kernel, by decide +kernel⟩, List.mem_of_getElem? (i := 17) (by decide +kernel), List.mem_of_getElem? (i := 305) (by decide +kernel), List.mem_of_getElem? (i := 306) (by decide +kernel)⟩
theorem lw_p12 : lw_okq (⟨"DriftingLevels$Grid", "levelWord", "(I)I"⟩, 13) := ⟨⟨by decide +kernel, by decide +kernel⟩, List.mem_of_getElem? (i := 17) (by decide +kernel), List.mem_of_getElem? (i := 309) (by decide +kernel), List.mem_of_getElem? (i := 310) (by decide +kernel)⟩
theorem lw_p13 : lw_okq (⟨"DriftingLevels", "isSafe", "(I)Z"⟩, 10) := ⟨⟨by decide +kernel, by decide +kernel⟩, List.mem_of_getElem? (i := 9) (by decide +kernel), List.mem_of_getElem? (i := 339) (by decide +kernel), List.mem_of_getElem? (i := 340) (by decide +kernel)⟩
theorem lw_p14 : lw_okq (⟨"DriftingLevels$Grid", "allWrongCells", "()I"⟩, 13) := ⟨⟨by decide +kernel, by decide +kernel⟩, List.mem_of_getElem? (i := 17) (by decide +kernel), List.mem_of_getElem? (i := 391) (by decide +kernel), List.mem_of_getElem? (i := 392) (by decide +kernel)⟩
theorem lw_p15 : lw_okq (⟨"DriftingLevels$Grid", "rowsWithWrongCells", "()I"⟩, 13) := ⟨⟨by decide +kernel, by decide +kernel⟩, List.mem_of_getElem? (i := 17) (by decide +kernel), List.mem_of_getElem? (i := 395) (by decide +kernel), List.mem_of_getElem? (i := 396) (by decide +kernel)⟩
def lw_privs_1 : List (MethodName × Nat) := [(⟨"DriftingLevels$Grid", "put", "(II)V"⟩, 13), (⟨"DriftingLevels$Grid", "writeGuards", "(I)V"⟩, 13), (⟨"DriftingLevels", "recorded", "(I)I"⟩, 10), (⟨"DriftingLevels", "dropOldest", "()V"⟩, 10), (⟨"DriftingLevels$Grid", "toldWord", "(I)I"⟩, 13), (⟨"DriftingLevels$Grid", "threshold", "(II)I"⟩, 13), (⟨"DriftingLevels$Grid", "ownThreshold", "(II)I"⟩, 13), (⟨"DriftingLevels$Grid", "drift", "()V"⟩, 13), (⟨"DriftingLevels$Grid", "nearer", "(II)I"⟩, 13), (⟨"DriftingLevels$Grid", "age", "(I)I"⟩, 13), (⟨"DriftingLevels$Grid", "source", "(I)I"⟩, 13), (⟨"DriftingLevels$Grid", "wrongBy", "(III)I"⟩, 13), (⟨"DriftingLevels$Grid", "levelWord", "(I)I"⟩, 13), (⟨"DriftingLevels", "isSafe", "(I)Z"⟩, 10), (⟨"DriftingLevels$Grid", "allWrongCells", "()I"⟩, 13), (⟨"DriftingLevels$Grid", "rowsWithWrongCells", "()I"⟩, 13)]
theorem lw_r1 : ∀ q ∈ lw_privs_1, lw_okq q := List.forall_mem_cons.mpr ⟨lw_p0, List.forall_mem_cons.mpr ⟨lw_p1, List.forall_mem_cons.mpr ⟨lw_p2, List.forall_mem_cons.mpr ⟨lw_p3, List.forall_mem_cons.mpr ⟨lw_p4, List.forall_mem_cons.mpr ⟨lw_p5, List.forall_mem_cons.mpr ⟨lw_p6, List.forall_mem_cons.mpr ⟨lw_p7, List.forall_mem_cons.mpr ⟨lw_p8, List.forall_mem_cons.mpr ⟨lw_p9, List.forall_mem_cons.mpr ⟨lw_p10, List.forall_mem_cons.mpr ⟨lw_p11, List.forall_mem_cons.mpr ⟨lw_p12, List.forall_mem_cons.mpr ⟨lw_p13, List.forall_mem_cons.mpr ⟨lw_p14, List.forall_mem_cons.mpr ⟨lw_p15, fun _ h => absurd h List.not_mem_nil⟩⟩⟩⟩⟩⟩⟩⟩⟩⟩⟩⟩⟩⟩⟩⟩
theorem lw_p16 : lw_okq (⟨"DriftingLevels$Grid", "rowsToldBy", "(I)I"⟩, 13) := ⟨⟨by decide +kernel, by decide +kernel⟩, List.mem_of_getElem? (i := 17) (by decide +kernel), List.mem_of_getElem? (i := 399) (by decide +kernel), List.mem_of_getElem? (i := 400) (by decide +kernel)⟩
theorem lw_p17 : lw_okq (⟨"DriftingLevels$Grid", "pairsTold", "()I"⟩, 13) := ⟨⟨by decide +kernel, by decide +kernel⟩, List.mem_of_getElem? (i := 17) (by decide +kernel), List.mem_of_getElem? (i := 404) (by decide +kernel), List.mem_of_getElem? (i := 405) (by decide +kernel)⟩
theorem lw_p18 : lw_okq (⟨"DriftingLevels$Grid", "cellsOfLevel", "(I)I"⟩, 13) := ⟨⟨by decide +kernel, by decide +kernel⟩, List.mem_of_getElem? (i := 17) (by decide +kernel), List.mem_of_getElem? (i := 408) (by decide +kernel), List.mem_of_getElem? (i := 409) (by decide +kernel)⟩
theorem lw_p19 : lw_okq (⟨"DriftingLevels", "findFault", "()Z"⟩, 10) := ⟨⟨by decide +kernel, by decide +kernel⟩, List.mem_of_getElem? (i := 9) (by decide +kernel), List.mem_of_getElem? (i := 440) (by decide +kernel), List.mem_of_getElem? (i := 441) (by decide +kernel)⟩
theorem lw_p20 : lw_okq (⟨"DriftingLevels$OrderText", "signAt", "(I)C"⟩, 5) := ⟨⟨by decide +kernel, by decide +kernel⟩, List.mem_of_getElem? (i := 76) (by decide +kernel), List.mem_of_getElem? (i := 448) (by decide +kernel), List.mem_of_getElem? (i := 449) (by decide +kernel)⟩
theorem lw_p21 : lw_okq (⟨"DriftingLevels$OrderText", "readNumber", "(I)Z"⟩, 5) := ⟨⟨by decide +kernel, by decide +kernel⟩, List.mem_of_getElem? (i := 76) (by decide +kernel), List.mem_of_getElem? (i := 455) (by decide +kernel), List.mem_of_getElem? (i := 456) (by decide +kernel)⟩
theorem lw_p22 : lw_okq (⟨"DriftingLevels", "noteFault", "(III)Z"⟩, 10) := ⟨⟨by decide +kernel, by decide +kernel⟩, List.mem_of_getElem? (i := 9) (by decide +kernel), List.mem_of_getElem? (i := 466) (by decide +kernel), List.mem_of_getElem? (i := 467) (by decide +kernel)⟩
theorem lw_p23 : lw_okq (⟨"DriftingLevelsModel", "lays", "(III)V"⟩, 14) := ⟨⟨by decide +kernel, by decide +kernel⟩, List.mem_of_getElem? (i := 484) (by decide +kernel), List.mem_of_getElem? (i := 490) (by decide +kernel), List.mem_of_getElem? (i := 491) (by decide +kernel)⟩
theorem lw_p24 : lw_okq (⟨"DriftingLevelsModel", "writesGuards", "(I)V"⟩, 14) := ⟨⟨by decide +kernel, by decide +kernel⟩, List.mem_of_getElem? (i := 484) (by decide +kernel), List.mem_of_getElem? (i := 494) (by decide +kernel), List.mem_of_getElem? (i := 495) (by decide +kernel)⟩
theorem lw_p25 : lw_okq (⟨"DriftingLevelsModel", "of", "(II)I"⟩, 14) := ⟨⟨by decide +kernel, by decide +kernel⟩, List.mem_of_getElem? (i := 484) (by decide +kernel), List.mem_of_getElem? (i := 498) (by decide +kernel), List.mem_of_getElem? (i := 499) (by decide +kernel)⟩
theorem lw_p26 : lw_okq (⟨"DriftingLevelsModel", "writes", "(III)I"⟩, 14) := ⟨⟨by decide +kernel, by decide +kernel⟩, List.mem_of_getElem? (i := 484) (by decide +kernel), List.mem_of_getElem? (i := 505) (by decide +kernel), List.mem_of_getElem? (i := 506) (by decide +kernel)⟩
theorem lw_p27 : lw_okq (⟨"DriftingLevelsModel", "ofCell", "(III)I"⟩, 14) := ⟨⟨by decide +kernel, by decide +kernel⟩, List.mem_of_getElem? (i := 484) (by decide +kernel), List.mem_of_getElem? (i := 509) (by decide +kernel), List.mem_of_getElem? (i := 510) (by decide +kernel)⟩
theorem lw_p28 : lw_okq (⟨"DriftingLevelsModel", "laysCell", "(IIII)V"⟩, 14) := ⟨⟨by decide +kernel, by decide +kernel⟩, List.mem_of_getElem? (i := 484) (by decide +kernel), List.mem_of_getElem? (i := 513) (by decide +kernel), List.mem_of_getElem? (i := 514) (by decide +kernel)⟩
theorem lw_p29 : lw_okq (⟨"DriftingLevelsModel", "records", "()V"⟩, 14) := ⟨⟨by decide +kernel, by decide +kernel⟩, List.mem_of_getElem? (i := 484) (by decide +kernel), List.mem_of_getElem? (i := 580) (by decide +kernel), List.mem_of_getElem? (i := 581) (by decide +kernel)⟩
theorem lw_p30 : lw_okq (⟨"DriftingLevelsModel", "wordTold", "(I)I"⟩, 14) := ⟨⟨by decide +kernel, by decide +kernel⟩, List.mem_of_getElem? (i := 484) (by decide +kernel), List.mem_of_getElem? (i := 591) (by decide +kernel), List.mem_of_getElem? (i := 592) (by decide +kernel)⟩
theorem lw_p31 : lw_okq (⟨"DriftingLevelsModel", "told", "(II)I"⟩, 14) := ⟨⟨by decide +kernel, by decide +kernel⟩, List.mem_of_getElem? (i := 484) (by decide +kernel), List.mem_of_getElem? (i := 595) (by decide +kernel), List.mem_of_getElem? (i := 596) (by decide +kernel)⟩
def lw_privs_2 : List (MethodName × Nat) := [(⟨"DriftingLevels$Grid", "rowsToldBy", "(I)I"⟩, 13), (⟨"DriftingLevels$Grid", "pairsTold", "()I"⟩, 13), (⟨"DriftingLevels$Grid", "cellsOfLevel", "(I)I"⟩, 13), (⟨"DriftingLevels", "findFault", "()Z"⟩, 10), (⟨"DriftingLevels$OrderText", "signAt", "(I)C"⟩, 5), (⟨"DriftingLevels$OrderText", "readNumber", "(I)Z"⟩, 5), (⟨"DriftingLevels", "noteFault", "(III)Z"⟩, 10), (⟨"DriftingLevelsModel", "lays", "(III)V"⟩, 14), (⟨"DriftingLevelsModel", "writesGuards", "(I)V"⟩, 14), (⟨"DriftingLevelsModel", "of", "(II)I"⟩, 14), (⟨"DriftingLevelsModel", "writes", "(III)I"⟩, 14), (⟨"DriftingLevelsModel", "ofCell", "(III)I"⟩, 14), (⟨"DriftingLevelsModel", "laysCell", "(IIII)V"⟩, 14), (⟨"DriftingLevelsModel", "records", "()V"⟩, 14), (⟨"DriftingLevelsModel", "wordTold", "(I)I"⟩, 14), (⟨"DriftingLevelsModel", "told", "(II)I"⟩, 14)]
theorem lw_r2 : ∀ q ∈ lw_privs_2, lw_okq q := List.forall_mem_cons.mpr ⟨lw_p16, List.forall_mem_cons.mpr ⟨lw_p17, List.forall_mem_cons.mpr ⟨lw_p18, List.forall_mem_cons.mpr ⟨lw_p19, List.forall_mem_cons.mpr ⟨lw_p20, List.forall_mem_cons.mpr ⟨lw_p21, List.forall_mem_cons.mpr ⟨lw_p22, List.forall_mem_cons.mpr ⟨lw_p23, List.forall_mem_cons.mpr ⟨lw_p24, List.forall_mem_cons.mpr ⟨lw_p25, List.forall_mem_cons.mpr ⟨lw_p26, List.forall_mem_cons.mpr ⟨lw_p27, List.forall_mem_cons.mpr ⟨lw_p28, List.forall_mem_cons.mpr ⟨lw_p29, List.forall_mem_cons.mpr ⟨lw_p30, List.forall_mem_cons.mpr ⟨lw_p31, fun _ h => absurd h List.not_mem_nil⟩⟩⟩⟩⟩⟩⟩⟩⟩⟩⟩⟩⟩⟩⟩⟩
theorem lw_p32 : lw_okq (⟨"DriftingLevelsModel", "threshold", "(II)I"⟩, 14) := ⟨⟨by decide +kernel, by decide +kernel⟩, List.mem_of_getElem? (i := 484) (by decide +kernel), List.mem_of_getElem? (i := 599) (by decide +kernel), List.mem_of_getElem? (i := 600) (by decide +kernel)⟩
theorem lw_p33 : lw_okq (⟨"DriftingLevelsModel", "isRight", "(I)Z"⟩, 14) := ⟨⟨by decide +kernel, by decide +kernel⟩, List.mem_of_getElem? (i := 484) (by decide +kernel), List.mem_of_getElem? (i := 603) (by decide +kernel), List.mem_of_getElem? (i := 604) (by decide +kernel)⟩
theorem lw_p34 : lw_okq (⟨"DriftingLevelsModel", "own", "(II)I"⟩, 14) := ⟨⟨by decide +kernel, by decide +kernel⟩, List.mem_of_getElem? (i := 484) (by decide +kernel), List.mem_of_getElem? (i := 607) (by decide +kernel), List.mem_of_getElem? (i := 608) (by decide +kernel)⟩
theorem lw_p35 : lw_okq (⟨"DriftingLevelsModel", "helps", "(I)Z"⟩, 14) := ⟨⟨by decide +kernel, by decide +kernel⟩, List.mem_of_getElem? (i := 484) (by decide +kernel), List.mem_of_getElem? (i := 611) (by decide +kernel), List.mem_of_getElem? (i := 612) (by decide +kernel)⟩
theorem lw_p36 : lw_okq (⟨"DriftingLevelsModel", "writesWord", "(II)V"⟩, 14) := ⟨⟨by decide +kernel, by decide +kernel⟩, List.mem_of_getElem? (i := 484) (by decide +kernel), List.mem_of_getElem? (i := 618) (by decide +kernel), List.mem_of_getElem? (i := 619) (by decide +kernel)⟩
theorem lw_p37 : lw_okq (⟨"DriftingLevelsModel", "writesAnew", "(I)I"⟩, 14) := ⟨⟨by decide +kernel, by decide +kernel⟩, List.mem_of_getElem? (i := 484) (by decide +kernel), List.mem_of_getElem? (i := 626) (by decide +kernel), List.mem_of_getElem? (i := 627) (by decide +kernel)⟩
theorem lw_p38 : lw_okq (⟨"DriftingLevelsModel", "wrong", "(I)I"⟩, 14) := ⟨⟨by decide +kernel, by decide +kernel⟩, List.mem_of_getElem? (i := 484) (by decide +kernel), List.mem_of_getElem? (i := 630) (by decide +kernel), List.mem_of_getElem? (i := 631) (by decide +kernel)⟩
theorem lw_p39 : lw_okq (⟨"DriftingLevelsModel", "errorFail", "(III)I"⟩, 14) := ⟨⟨by decide +kernel, by decide +kernel⟩, List.mem_of_getElem? (i := 484) (by decide +kernel), List.mem_of_getElem? (i := 642) (by decide +kernel), List.mem_of_getElem? (i := 643) (by decide +kernel)⟩
theorem lw_p40 : lw_okq (⟨"DriftingLevelsModel", "goFail", "(III)V"⟩, 14) := ⟨⟨by decide +kernel, by decide +kernel⟩, List.mem_of_getElem? (i := 484) (by decide +kernel), List.mem_of_getElem? (i := 647) (by decide +kernel), List.mem_of_getElem? (i := 648) (by decide +kernel)⟩
theorem lw_p41 : lw_okq (⟨"DriftingLevelsModel", "errorMend", "(II)I"⟩, 14) := ⟨⟨by decide +kernel, by decide +kernel⟩, List.mem_of_getElem? (i := 484) (by decide +kernel), List.mem_of_getElem? (i := 655) (by decide +kernel), List.mem_of_getElem? (i := 656) (by decide +kernel)⟩
theorem lw_p42 : lw_okq (⟨"DriftingLevelsModel", "errorDays", "(I)I"⟩, 14) := ⟨⟨by decide +kernel, by decide +kernel⟩, List.mem_of_getElem? (i := 484) (by decide +kernel), List.mem_of_getElem? (i := 670) (by decide +kernel), List.mem_of_getElem? (i := 671) (by decide +kernel)⟩
theorem lw_p43 : lw_okq (⟨"DriftingLevelsModel", "endsDays", "(I)I"⟩, 14) := ⟨⟨by decide +kernel, by decide +kernel⟩, List.mem_of_getElem? (i := 484) (by decide +kernel), List.mem_of_getElem? (i := 675) (by decide +kernel), List.mem_of_getElem? (i := 676) (by decide +kernel)⟩
theorem lw_p44 : lw_okq (⟨"DriftingLevelsModel", "endsDay", "()I"⟩, 14) := ⟨⟨by decide +kernel, by decide +kernel⟩, List.mem_of_getElem? (i := 484) (by decide +kernel), List.mem_of_getElem? (i := 679) (by decide +kernel), List.mem_of_getElem? (i := 680) (by decide +kernel)⟩
theorem lw_p45 : lw_okq (⟨"DriftingLevelsModel", "drifts", "()V"⟩, 14) := ⟨⟨by decide +kernel, by decide +kernel⟩, List.mem_of_getElem? (i := 484) (by decide +kernel), List.mem_of_getElem? (i := 683) (by decide +kernel), List.mem_of_getElem? (i := 684) (by decide +kernel)⟩
theorem lw_p46 : lw_okq (⟨"DriftingLevelsModel", "drifted", "(II)I"⟩, 14) := ⟨⟨by decide +kernel, by decide +kernel⟩, List.mem_of_getElem? (i := 484) (by decide +kernel), List.mem_of_getElem? (i := 687) (by decide +kernel), List.mem_of_getElem? (i := 688) (by decide +kernel)⟩
theorem lw_p47 : lw_okq (⟨"DriftingLevelsModel", "ageOf", "(I)I"⟩, 14) := ⟨⟨by decide +kernel, by decide +kernel⟩, List.mem_of_getElem? (i := 484) (by decide +kernel), List.mem_of_getElem? (i := 694) (by decide +kernel), List.mem_of_getElem? (i := 695) (by decide +kernel)⟩
def lw_privs_3 : List (MethodName × Nat) := [(⟨"DriftingLevelsModel", "threshold", "(II)I"⟩, 14), (⟨"DriftingLevelsModel", "isRight", "(I)Z"⟩, 14), (⟨"DriftingLevelsModel", "own", "(II)I"⟩, 14), (⟨"DriftingLevelsModel", "helps", "(I)Z"⟩, 14), (⟨"DriftingLevelsModel", "writesWord", "(II)V"⟩, 14), (⟨"DriftingLevelsModel", "writesAnew", "(I)I"⟩, 14), (⟨"DriftingLevelsModel", "wrong", "(I)I"⟩, 14), (⟨"DriftingLevelsModel", "errorFail", "(III)I"⟩, 14), (⟨"DriftingLevelsModel", "goFail", "(III)V"⟩, 14), (⟨"DriftingLevelsModel", "errorMend", "(II)I"⟩, 14), (⟨"DriftingLevelsModel", "errorDays", "(I)I"⟩, 14), (⟨"DriftingLevelsModel", "endsDays", "(I)I"⟩, 14), (⟨"DriftingLevelsModel", "endsDay", "()I"⟩, 14), (⟨"DriftingLevelsModel", "drifts", "()V"⟩, 14), (⟨"DriftingLevelsModel", "drifted", "(II)I"⟩, 14), (⟨"DriftingLevelsModel", "ageOf", "(I)I"⟩, 14)]
theorem lw_r3 : ∀ q ∈ lw_privs_3, lw_okq q := List.forall_mem_cons.mpr ⟨lw_p32, List.forall_mem_cons.mpr ⟨lw_p33, List.forall_mem_cons.mpr ⟨lw_p34, List.forall_mem_cons.mpr ⟨lw_p35, List.forall_mem_cons.mpr ⟨lw_p36, List.forall_mem_cons.mpr ⟨lw_p37, List.forall_mem_cons.mpr ⟨lw_p38, List.forall_mem_cons.mpr ⟨lw_p39, List.forall_mem_cons.mpr ⟨lw_p40, List.forall_mem_cons.mpr ⟨lw_p41, List.forall_mem_cons.mpr ⟨lw_p42, List.forall_mem_cons.mpr ⟨lw_p43, List.forall_mem_cons.mpr ⟨lw_p44, List.forall_mem_cons.mpr ⟨lw_p45, List.forall_mem_cons.mpr ⟨lw_p46, List.forall_mem_cons.mpr ⟨lw_p47, fun _ h => absurd h List.not_mem_nil⟩⟩⟩⟩⟩⟩⟩⟩⟩⟩⟩⟩⟩⟩⟩⟩
theorem lw_p48 : lw_okq (⟨"DriftingLevelsModel", "nearer", "(II)I"⟩, 14) := ⟨⟨by decide +kernel, by decide +kernel⟩, List.mem_of_getElem? (i := 484) (by decide +kernel), List.mem_of_getElem? (i := 710) (by decide +kernel), List.mem_of_getElem? (i := 711) (by decide +kernel)⟩
theorem lw_p49 : lw_okq (⟨"DriftingLevelsModel", "source", "(I)I"⟩, 14) := ⟨⟨by decide +kernel, by decide +kernel⟩, List.mem_of_getElem? (i := 484) (by decide +kernel), List.mem_of_getElem? (i := 722) (by decide +kernel), List.mem_of_getElem? (i := 723) (by decide +kernel)⟩
theorem lw_p50 : lw_okq (⟨"DriftingLevelsModel", "wrongFixed", "(I)I"⟩, 14) := ⟨⟨by decide +kernel, by decide +kernel⟩, List.mem_of_getElem? (i := 484) (by decide +kernel), List.mem_of_getElem? (i := 726) (by decide +kernel), List.mem_of_getElem? (i := 727) (by decide +kernel)⟩
theorem lw_p51 : lw_okq (⟨"DriftingLevelsModel", "wordOf", "(I)I"⟩, 14) := ⟨⟨by decide +kernel, by decide +kernel⟩, List.mem_of_getElem? (i := 484) (by decide +kernel), List.mem_of_getElem? (i := 730) (by decide +kernel), List.mem_of_getElem? (i := 731) (by decide +kernel)⟩
theorem lw_p52 : lw_okq (⟨"DriftingLevelsModel", "lostBy", "(I)I"⟩, 14) := ⟨⟨by decide +kernel, by decide +kernel⟩, List.mem_of_getElem? (i := 484) (by decide +kernel), List.mem_of_getElem? (i := 751) (by decide +kernel), List.mem_of_getElem? (i := 752) (by decide +kernel)⟩
theorem lw_p53 : lw_okq (⟨"DriftingLevelsModel", "wrongAll", "()I"⟩, 14) := ⟨⟨by decide +kernel, by decide +kernel⟩, List.mem_of_getElem? (i := 484) (by decide +kernel), List.mem_of_getElem? (i := 782) (by decide +kernel), List.mem_of_getElem? (i := 783) (by decide +kernel)⟩
theorem lw_p54 : lw_okq (⟨"DriftingLevelsModel", "setOf", "(I)I"⟩, 14) := ⟨⟨by decide +kernel, by decide +kernel⟩, List.mem_of_getElem? (i := 484) (by decide +kernel), List.mem_of_getElem? (i := 786) (by decide +kernel), List.mem_of_getElem? (i := 787) (by decide +kernel)⟩
theorem lw_p55 : lw_okq (⟨"DriftingLevelsModel", "isOf", "(II)Z"⟩, 14) := ⟨⟨by decide +kernel, by decide +kernel⟩, List.mem_of_getElem? (i := 484) (by decide +kernel), List.mem_of_getElem? (i := 790) (by decide +kernel), List.mem_of_getElem? (i := 791) (by decide +kernel)⟩
theorem lw_p56 : lw_okq (⟨"DriftingLevelsModel", "failed", "()I"⟩, 14) := ⟨⟨by decide +kernel, by decide +kernel⟩, List.mem_of_getElem? (i := 484) (by decide +kernel), List.mem_of_getElem? (i := 794) (by decide +kernel), List.mem_of_getElem? (i := 795) (by decide +kernel)⟩
theorem lw_p57 : lw_okq (⟨"DriftingLevelsModel", "pairs", "()I"⟩, 14) := ⟨⟨by decide +kernel, by decide +kernel⟩, List.mem_of_getElem? (i := 484) (by decide +kernel), List.mem_of_getElem? (i := 798) (by decide +kernel), List.mem_of_getElem? (i := 799) (by decide +kernel)⟩
theorem lw_p58 : lw_okq (⟨"DriftingLevelsModel", "ofLevel", "(I)I"⟩, 14) := ⟨⟨by decide +kernel, by decide +kernel⟩, List.mem_of_getElem? (i := 484) (by decide +kernel), List.mem_of_getElem? (i := 802) (by decide +kernel), List.mem_of_getElem? (i := 803) (by decide +kernel)⟩
theorem lw_p59 : lw_okq (⟨"DriftingLevelsModel", "doesAll", "()I"⟩, 14) := ⟨⟨by decide +kernel, by decide +kernel⟩, List.mem_of_getElem? (i := 484) (by decide +kernel), List.mem_of_getElem? (i := 818) (by decide +kernel), List.mem_of_getElem? (i := 819) (by decide +kernel)⟩
theorem lw_p60 : lw_okq (⟨"DriftingLevelsModel", "takesOrder", "()V"⟩, 14) := ⟨⟨by decide +kernel, by decide +kernel⟩, List.mem_of_getElem? (i := 484) (by decide +kernel), List.mem_of_getElem? (i := 822) (by decide +kernel), List.mem_of_getElem? (i := 823) (by decide +kernel)⟩
theorem lw_p61 : lw_okq (⟨"DriftingLevelsModel", "here", "()I"⟩, 14) := ⟨⟨by decide +kernel, by decide +kernel⟩, List.mem_of_getElem? (i := 484) (by decide +kernel), List.mem_of_getElem? (i := 826) (by decide +kernel), List.mem_of_getElem? (i := 827) (by decide +kernel)⟩
theorem lw_p62 : lw_okq (⟨"DriftingLevelsModel", "takes", "(Z)V"⟩, 14) := ⟨⟨by decide +kernel, by decide +kernel⟩, List.mem_of_getElem? (i := 484) (by decide +kernel), List.mem_of_getElem? (i := 830) (by decide +kernel), List.mem_of_getElem? (i := 831) (by decide +kernel)⟩
theorem lw_p63 : lw_okq (⟨"DriftingLevelsModel", "takesNumber", "(I)V"⟩, 14) := ⟨⟨by decide +kernel, by decide +kernel⟩, List.mem_of_getElem? (i := 484) (by decide +kernel), List.mem_of_getElem? (i := 834) (by decide +kernel), List.mem_of_getElem? (i := 835) (by decide +kernel)⟩
def lw_privs_4 : List (MethodName × Nat) := [(⟨"DriftingLevelsModel", "nearer", "(II)I"⟩, 14), (⟨"DriftingLevelsModel", "source", "(I)I"⟩, 14), (⟨"DriftingLevelsModel", "wrongFixed", "(I)I"⟩, 14), (⟨"DriftingLevelsModel", "wordOf", "(I)I"⟩, 14), (⟨"DriftingLevelsModel", "lostBy", "(I)I"⟩, 14), (⟨"DriftingLevelsModel", "wrongAll", "()I"⟩, 14), (⟨"DriftingLevelsModel", "setOf", "(I)I"⟩, 14), (⟨"DriftingLevelsModel", "isOf", "(II)Z"⟩, 14), (⟨"DriftingLevelsModel", "failed", "()I"⟩, 14), (⟨"DriftingLevelsModel", "pairs", "()I"⟩, 14), (⟨"DriftingLevelsModel", "ofLevel", "(I)I"⟩, 14), (⟨"DriftingLevelsModel", "doesAll", "()I"⟩, 14), (⟨"DriftingLevelsModel", "takesOrder", "()V"⟩, 14), (⟨"DriftingLevelsModel", "here", "()I"⟩, 14), (⟨"DriftingLevelsModel", "takes", "(Z)V"⟩, 14), (⟨"DriftingLevelsModel", "takesNumber", "(I)V"⟩, 14)]
theorem lw_r4 : ∀ q ∈ lw_privs_4, lw_okq q := List.forall_mem_cons.mpr ⟨lw_p48, List.forall_mem_cons.mpr ⟨lw_p49, List.forall_mem_cons.mpr ⟨lw_p50, List.forall_mem_cons.mpr ⟨lw_p51, List.forall_mem_cons.mpr ⟨lw_p52, List.forall_mem_cons.mpr ⟨lw_p53, List.forall_mem_cons.mpr ⟨lw_p54, List.forall_mem_cons.mpr ⟨lw_p55, List.forall_mem_cons.mpr ⟨lw_p56, List.forall_mem_cons.mpr ⟨lw_p57, List.forall_mem_cons.mpr ⟨lw_p58, List.forall_mem_cons.mpr ⟨lw_p59, List.forall_mem_cons.mpr ⟨lw_p60, List.forall_mem_cons.mpr ⟨lw_p61, List.forall_mem_cons.mpr ⟨lw_p62, List.forall_mem_cons.mpr ⟨lw_p63, fun _ h => absurd h List.not_mem_nil⟩⟩⟩⟩⟩⟩⟩⟩⟩⟩⟩⟩⟩⟩⟩⟩
theorem lw_p64 : lw_okq (⟨"DriftingLevelsModel", "errorOfOrder", "()I"⟩, 14) := ⟨⟨by decide +kernel, by decide +kernel⟩, List.mem_of_getElem? (i := 484) (by decide +kernel), List.mem_of_getElem? (i := 838) (by decide +kernel), List.mem_of_getElem? (i := 839) (by decide +kernel)⟩
theorem lw_p65 : lw_okq (⟨"DriftingLevelsModel", "doesOrder", "()V"⟩, 14) := ⟨⟨by decide +kernel, by decide +kernel⟩, List.mem_of_getElem? (i := 484) (by decide +kernel), List.mem_of_getElem? (i := 842) (by decide +kernel), List.mem_of_getElem? (i := 843) (by decide +kernel)⟩
def lw_privs_5 : List (MethodName × Nat) := [(⟨"DriftingLevelsModel", "errorOfOrder", "()I"⟩, 14), (⟨"DriftingLevelsModel", "doesOrder", "()V"⟩, 14)]
theorem lw_r5 : ∀ q ∈ lw_privs_5, lw_okq q := List.forall_mem_cons.mpr ⟨lw_p64, List.forall_mem_cons.mpr ⟨lw_p65, fun _ h => absurd h List.not_mem_nil⟩⟩
def lw_privs : List (MethodName × Nat) := lw_privs_1 ++ (lw_privs_2 ++ (lw_privs_3 ++ (lw_privs_4 ++ (lw_privs_5))))
def lw_tbl : List Cond := k2_sels lw_privs ++ tables_1
theorem lw_privs_ok : ∀ q ∈ lw_privs, lw_okq q := by
  show ∀ q ∈ lw_privs_1 ++ (lw_privs_2 ++ (lw_privs_3 ++ (lw_privs_4 ++ (lw_privs_5)))), lw_okq q
  exact List.forall_mem_append.mpr ⟨lw_r1, List.forall_mem_append.mpr ⟨lw_r2, List.forall_mem_append.mpr ⟨lw_r3, List.forall_mem_append.mpr ⟨lw_r4, lw_r5⟩⟩⟩⟩
/-- the streams that the claim lets the run draw from -/
abbrev lw_cs : List Choice := [Jvm.Choice.named "NaN.bits"]
theorem lw_bits : nanBits ∈ lw_cs := by first | decide | exact List.mem_cons_self | simp [lw_cs, nanBits]
end
section
/-! ===== BEGIN words of one list among another's, by their places ===== -/
theorem goodIn_r {big : List Cond} (ws : List Cond) (ps : List Nat) (hp : ws = ps.filterMap (fun i => big[i]?)) (h : ws.all goodWord = true) : GoodIn big ws := by
  intro w hw
  have h1 := List.all_eq_true.mp h w hw
  rw [hp] at hw
  obtain ⟨i, -, hi⟩ := List.mem_filterMap.mp hw
  have hm : w ∈ big := by first | exact List.mem_of_getElem? hi | exact List.getElem?_mem hi
  exact ⟨hm, good_of_word h1⟩
theorem goodIn_app {big a b : List Cond} (ha : GoodIn big a) (hb : GoodIn big b) : GoodIn big (a ++ b) := fun w h => (List.mem_append.mp h).elim (ha w) (hb w)
theorem goodIn_ca {big a b : List Cond} {c : Cond} (ha : GoodIn big (c :: a)) (hb : GoodIn big b) : GoodIn big (c :: (a ++ b)) := fun w h => (List.mem_cons.mp h).elim (fun e => ha w (List.mem_cons.mpr (Or.inl e))) (fun h => (List.mem_append.mp h).elim (fun h => ha w (List.mem_cons.mpr (Or.inr h))) (hb w))
theorem goodIn_sub {big ws : List Cond} (hm : ∀ w ∈ ws, w ∈ big) (h : ws.all goodWord = true) : GoodIn big ws := fun w hw => ⟨hm w hw, good_of_word (List.all_eq_true.mp h w hw)⟩
/-! ===== END ===== -/

/-! ===== BEGIN printed: names, fields, word lists, decode rows ===== -/
def RX0 : String := "DriftingLevels$Grid"
def TX0 : u_T := fun k => match k with
  | 0 => ("DriftingLevels$Grid", "level", "[I", true)
  | 1 => ("DriftingLevels$Grid", "value", "[I", true)
  | 2 => ("DriftingLevels$Grid", "timesWritten", "[I", true)
  | 3 => ("DriftingLevels$Grid", "dayWritten", "[I", true)
  | 4 => ("DriftingLevels$Grid", "guardValue", "[I", true)
  | 5 => ("DriftingLevels$Grid", "guardFailed", "[I", true)
  | 6 => ("DriftingLevels$Grid", "rateOfRow", "[I", true)
  | 7 => ("DriftingLevels$Grid", "dayOfGuards", "[I", true)
  | 8 => ("DriftingLevels$Grid", "levelsLost", "[I", true)
  | 9 => ("DriftingLevels$Grid", "timesAnew", "[I", true)
  | 10 => ("DriftingLevels$Grid", "toldAs", "[I", true)
  | 11 => ("DriftingLevels$Grid", "setting", "[I", true)
  | _ => ("DriftingLevels$Grid", "today", "I", false)
def tyX0 : Nat → FieldType := fun k => match k with
  | 0 => .array .int
  | 1 => .array .int
  | 2 => .array .int
  | 3 => .array .int
  | 4 => .array .int
  | 5 => .array .int
  | 6 => .array .int
  | 7 => .array .int
  | 8 => .array .int
  | 9 => .array .int
  | 10 => .array .int
  | 11 => .array .int
  | _ => .int
abbrev wsX00 : List Cond := u_ws RX0 TX0 13
theorem nmX0 : ∀ a, a < 13 → ∀ b, b < 13 → a ≠ b → (TX0 a).2.1 ≠ (TX0 b).2.1 := by decide +kernel
theorem tyX0_ok : ∀ k, k < 13 → parseFieldDescriptor (TX0 k).2.2.1 = some (tyX0 k) := by decide +kernel
abbrev cX0_init : ByteArray := prog_2_method_1_code
def yX0_init : MethodName := ⟨RX0, "<init>", "()V"⟩
abbrev cX0_copyFrom : ByteArray := prog_2_method_2_code
def yX0_copyFrom : MethodName := ⟨RX0, "copyFrom", "(LDriftingLevels$Grid;)V"⟩
abbrev cX0_writeLevel : ByteArray := prog_2_method_3_code
def yX0_writeLevel : MethodName := ⟨RX0, "writeLevel", "(III)I"⟩
abbrev cX0_writeWord : ByteArray := prog_2_method_4_code
def yX0_writeWord : MethodName := ⟨RX0, "writeWord", "(II)I"⟩
abbrev cX0_writeAnew : ByteArray := prog_2_method_5_code
def yX0_writeAnew : MethodName := ⟨RX0, "writeAnew", "(I)I"⟩
abbrev cX0_askCell : ByteArray := prog_2_method_6_code
def yX0_askCell : MethodName := ⟨RX0, "askCell", "(II)I"⟩
abbrev cX0_failGuard : ByteArray := prog_2_method_7_code
def yX0_failGuard : MethodName := ⟨RX0, "failGuard", "(III)I"⟩
abbrev cX0_mendGuard : ByteArray := prog_2_method_8_code
def yX0_mendGuard : MethodName := ⟨RX0, "mendGuard", "(II)I"⟩
abbrev cX0_changeRate : ByteArray := prog_2_method_9_code
def yX0_changeRate : MethodName := ⟨RX0, "changeRate", "(II)I"⟩
abbrev cX0_passDays : ByteArray := prog_2_method_10_code
def yX0_passDays : MethodName := ⟨RX0, "passDays", "(II)I"⟩
abbrev cX0_changeSetting : ByteArray := prog_2_method_11_code
def yX0_changeSetting : MethodName := ⟨RX0, "changeSetting", "(II)I"⟩
abbrev cX0_numberOfCell : ByteArray := prog_2_method_12_code
def yX0_numberOfCell : MethodName := ⟨RX0, "numberOfCell", "(III)I"⟩
abbrev cX0_numberOfGuard : ByteArray := prog_2_method_13_code
def yX0_numberOfGuard : MethodName := ⟨RX0, "numberOfGuard", "(III)I"⟩
abbrev cX0_numberOfRow : ByteArray := prog_2_method_14_code
def yX0_numberOfRow : MethodName := ⟨RX0, "numberOfRow", "(II)I"⟩
abbrev cX0_timesTold : ByteArray := prog_2_method_15_code
def yX0_timesTold : MethodName := ⟨RX0, "timesTold", "(II)I"⟩
abbrev cX0_tally : ByteArray := prog_2_method_16_code
def yX0_tally : MethodName := ⟨RX0, "tally", "(I)I"⟩
abbrev cX0_timesAsked : ByteArray := prog_2_method_17_code
def yX0_timesAsked : MethodName := ⟨RX0, "timesAsked", "()I"⟩
abbrev cX0_timesToldRight : ByteArray := prog_2_method_18_code
def yX0_timesToldRight : MethodName := ⟨RX0, "timesToldRight", "()I"⟩
abbrev cX0_distanceFromAims : ByteArray := prog_2_method_19_code
def yX0_distanceFromAims : MethodName := ⟨RX0, "distanceFromAims", "()I"⟩
abbrev cX0_worstBut : ByteArray := prog_2_method_20_code
def yX0_worstBut : MethodName := ⟨RX0, "worstBut", "(I)I"⟩
abbrev cX0_wrongCells : ByteArray := prog_2_method_21_code
def yX0_wrongCells : MethodName := ⟨RX0, "wrongCells", "(I)I"⟩
abbrev cX0_hasRightThresholds : ByteArray := prog_2_method_22_code
def yX0_hasRightThresholds : MethodName := ⟨RX0, "hasRightThresholds", "(I)Z"⟩
abbrev cX0_ownThreshold : ByteArray := prog_2_method_23_code
def yX0_ownThreshold : MethodName := ⟨RX0, "ownThreshold", "(II)I"⟩
abbrev cX0_source : ByteArray := prog_2_method_24_code
def yX0_source : MethodName := ⟨RX0, "source", "(I)I"⟩
abbrev cX0_threshold : ByteArray := prog_2_method_25_code
def yX0_threshold : MethodName := ⟨RX0, "threshold", "(II)I"⟩
abbrev cX0_tell : ByteArray := prog_2_method_26_code
def yX0_tell : MethodName := ⟨RX0, "tell", "(III)I"⟩
abbrev cX0_wrongBy : ByteArray := prog_2_method_27_code
def yX0_wrongBy : MethodName := ⟨RX0, "wrongBy", "(III)I"⟩
abbrev cX0_toldWord : ByteArray := prog_2_method_28_code
def yX0_toldWord : MethodName := ⟨RX0, "toldWord", "(I)I"⟩
abbrev cX0_levelWord : ByteArray := prog_2_method_29_code
def yX0_levelWord : MethodName := ⟨RX0, "levelWord", "(I)I"⟩
abbrev cX0_aim : ByteArray := prog_2_method_30_code
def yX0_aim : MethodName := ⟨RX0, "aim", "(I)I"⟩
abbrev cX0_put : ByteArray := prog_2_method_31_code
def yX0_put : MethodName := ⟨RX0, "put", "(II)V"⟩
abbrev cX0_writeGuards : ByteArray := prog_2_method_32_code
def yX0_writeGuards : MethodName := ⟨RX0, "writeGuards", "(I)V"⟩
abbrev cX0_drift : ByteArray := prog_2_method_33_code
def yX0_drift : MethodName := ⟨RX0, "drift", "()V"⟩
abbrev cX0_nearer : ByteArray := prog_2_method_34_code
def yX0_nearer : MethodName := ⟨RX0, "nearer", "(II)I"⟩
abbrev cX0_age : ByteArray := prog_2_method_35_code
def yX0_age : MethodName := ⟨RX0, "age", "(I)I"⟩
abbrev cX0_allWrongCells : ByteArray := prog_2_method_36_code
def yX0_allWrongCells : MethodName := ⟨RX0, "allWrongCells", "()I"⟩
abbrev cX0_rowsWithWrongCells : ByteArray := prog_2_method_37_code
def yX0_rowsWithWrongCells : MethodName := ⟨RX0, "rowsWithWrongCells", "()I"⟩
abbrev cX0_rowsToldBy : ByteArray := prog_2_method_38_code
def yX0_rowsToldBy : MethodName := ⟨RX0, "rowsToldBy", "(I)I"⟩
abbrev cX0_pairsTold : ByteArray := prog_2_method_39_code
def yX0_pairsTold : MethodName := ⟨RX0, "pairsTold", "()I"⟩
abbrev cX0_cellsOfLevel : ByteArray := prog_2_method_40_code
def yX0_cellsOfLevel : MethodName := ⟨RX0, "cellsOfLevel", "(I)I"⟩
abbrev cX0_sum : ByteArray := prog_2_method_41_code
def yX0_sum : MethodName := ⟨RX0, "sum", "([I)I"⟩
abbrev cX0_isOutsideCell : ByteArray := prog_2_method_42_code
def yX0_isOutsideCell : MethodName := ⟨RX0, "isOutsideCell", "(II)Z"⟩
abbrev cX0_isOutsideGuard : ByteArray := prog_2_method_43_code
def yX0_isOutsideGuard : MethodName := ⟨RX0, "isOutsideGuard", "(II)Z"⟩
abbrev cX0_isOutsideSetting : ByteArray := prog_2_method_44_code
def yX0_isOutsideSetting : MethodName := ⟨RX0, "isOutsideSetting", "(II)Z"⟩
def RX1 : String := "DriftingLevels$OrderText"
def TX1 : u_T := fun k => match k with
  | 0 => ("DriftingLevels$OrderText", "signs", "[C", true)
  | 1 => ("DriftingLevels$OrderText", "length", "I", false)
  | 2 => ("DriftingLevels$OrderText", "kind", "C", false)
  | 3 => ("DriftingLevels$OrderText", "numbers", "[I", true)
  | _ => ("DriftingLevels$OrderText", "reached", "I", false)
def tyX1 : Nat → FieldType := fun k => match k with
  | 0 => .array .char
  | 1 => .int
  | 2 => .char
  | 3 => .array .int
  | _ => .int
abbrev wsX10 : List Cond := u_ws RX1 TX1 5
theorem nmX1 : ∀ a, a < 5 → ∀ b, b < 5 → a ≠ b → (TX1 a).2.1 ≠ (TX1 b).2.1 := by decide +kernel
theorem tyX1_ok : ∀ k, k < 5 → parseFieldDescriptor (TX1 k).2.2.1 = some (tyX1 k) := by decide +kernel
abbrev cX1_init : ByteArray := prog_3_method_1_code
def yX1_init : MethodName := ⟨RX1, "<init>", "()V"⟩
abbrev cX1_size : ByteArray := prog_3_method_2_code
def yX1_size : MethodName := ⟨RX1, "size", "()I"⟩
abbrev cX1_append : ByteArray := prog_3_method_3_code
def yX1_append : MethodName := ⟨RX1, "append", "(I)I"⟩
abbrev cX1_empty : ByteArray := prog_3_method_4_code
def yX1_empty : MethodName := ⟨RX1, "empty", "()I"⟩
abbrev cX1_placeReached : ByteArray := prog_3_method_5_code
def yX1_placeReached : MethodName := ⟨RX1, "placeReached", "()I"⟩
abbrev cX1_readOrder : ByteArray := prog_3_method_6_code
def yX1_readOrder : MethodName := ⟨RX1, "readOrder", "(I)Z"⟩
abbrev cX1_doOrder : ByteArray := prog_3_method_7_code
def yX1_doOrder : MethodName := ⟨RX1, "doOrder", "(LDriftingLevels$Grid;)I"⟩
abbrev cX1_numbersOf : ByteArray := prog_3_method_8_code
def yX1_numbersOf : MethodName := ⟨RX1, "numbersOf", "(C)I"⟩
abbrev cX1_readNumber : ByteArray := prog_3_method_9_code
def yX1_readNumber : MethodName := ⟨RX1, "readNumber", "(I)Z"⟩
abbrev cX1_signAt : ByteArray := prog_3_method_10_code
def yX1_signAt : MethodName := ⟨RX1, "signAt", "(I)C"⟩
abbrev cX1_isDigit : ByteArray := prog_3_method_11_code
def yX1_isDigit : MethodName := ⟨RX1, "isDigit", "(C)Z"⟩
def RX2 : String := "DriftingLevels"
def TX2 : u_T := fun k => match k with
  | 0 => ("DriftingLevels", "grid", "LDriftingLevels$Grid;", false)
  | 1 => ("DriftingLevels", "spare", "LDriftingLevels$Grid;", false)
  | 2 => ("DriftingLevels", "trial", "LDriftingLevels$Grid;", true)
  | 3 => ("DriftingLevels", "history", "[LDriftingLevels$Grid;", true)
  | 4 => ("DriftingLevels", "states", "I", false)
  | 5 => ("DriftingLevels", "text", "LDriftingLevels$OrderText;", true)
  | 6 => ("DriftingLevels", "orders", "I", false)
  | 7 => ("DriftingLevels", "faultPosition", "I", false)
  | 8 => ("DriftingLevels", "faultReason", "I", false)
  | _ => ("DriftingLevels", "faultCause", "I", false)
def tyX2 : Nat → FieldType := fun k => match k with
  | 0 => .object "DriftingLevels$Grid"
  | 1 => .object "DriftingLevels$Grid"
  | 2 => .object "DriftingLevels$Grid"
  | 3 => .array (.object "DriftingLevels$Grid")
  | 4 => .int
  | 5 => .object "DriftingLevels$OrderText"
  | 6 => .int
  | 7 => .int
  | 8 => .int
  | _ => .int
abbrev wsX20 : List Cond := u_ws RX2 TX2 10
theorem nmX2 : ∀ a, a < 10 → ∀ b, b < 10 → a ≠ b → (TX2 a).2.1 ≠ (TX2 b).2.1 := by decide +kernel
theorem tyX2_ok : ∀ k, k < 10 → parseFieldDescriptor (TX2 k).2.2.1 = some (tyX2 k) := by decide +kernel
abbrev cX2_init : ByteArray := prog_1_method_1_code
def yX2_init : MethodName := ⟨RX2, "<init>", "()V"⟩
abbrev cX2_write : ByteArray := prog_1_method_2_code
def yX2_write : MethodName := ⟨RX2, "write", "(III)I"⟩
abbrev cX2_fill : ByteArray := prog_1_method_3_code
def yX2_fill : MethodName := ⟨RX2, "fill", "(II)I"⟩
abbrev cX2_anew : ByteArray := prog_1_method_4_code
def yX2_anew : MethodName := ⟨RX2, "anew", "(I)I"⟩
abbrev cX2_ask : ByteArray := prog_1_method_5_code
def yX2_ask : MethodName := ⟨RX2, "ask", "(II)I"⟩
abbrev cX2_fail : ByteArray := prog_1_method_6_code
def yX2_fail : MethodName := ⟨RX2, "fail", "(III)I"⟩
abbrev cX2_mend : ByteArray := prog_1_method_7_code
def yX2_mend : MethodName := ⟨RX2, "mend", "(II)I"⟩
abbrev cX2_rate : ByteArray := prog_1_method_8_code
def yX2_rate : MethodName := ⟨RX2, "rate", "(II)I"⟩
abbrev cX2_days : ByteArray := prog_1_method_9_code
def yX2_days : MethodName := ⟨RX2, "days", "(I)I"⟩
abbrev cX2_set : ByteArray := prog_1_method_10_code
def yX2_set : MethodName := ⟨RX2, "set", "(II)I"⟩
abbrev cX2_cell : ByteArray := prog_1_method_11_code
def yX2_cell : MethodName := ⟨RX2, "cell", "(III)I"⟩
abbrev cX2_guard : ByteArray := prog_1_method_12_code
def yX2_guard : MethodName := ⟨RX2, "guard", "(III)I"⟩
abbrev cX2_row : ByteArray := prog_1_method_13_code
def yX2_row : MethodName := ⟨RX2, "row", "(II)I"⟩
abbrev cX2_table : ByteArray := prog_1_method_14_code
def yX2_table : MethodName := ⟨RX2, "table", "(II)I"⟩
abbrev cX2_wrongIn : ByteArray := prog_1_method_15_code
def yX2_wrongIn : MethodName := ⟨RX2, "wrongIn", "(I)I"⟩
abbrev cX2_rightFor : ByteArray := prog_1_method_16_code
def yX2_rightFor : MethodName := ⟨RX2, "rightFor", "(I)I"⟩
abbrev cX2_safeAge : ByteArray := prog_1_method_17_code
def yX2_safeAge : MethodName := ⟨RX2, "safeAge", "()I"⟩
abbrev cX2_worst : ByteArray := prog_1_method_18_code
def yX2_worst : MethodName := ⟨RX2, "worst", "(I)I"⟩
abbrev cX2_mean : ByteArray := prog_1_method_19_code
def yX2_mean : MethodName := ⟨RX2, "mean", "()I"⟩
abbrev cX2_share : ByteArray := prog_1_method_20_code
def yX2_share : MethodName := ⟨RX2, "share", "()I"⟩
abbrev cX2_count : ByteArray := prog_1_method_21_code
def yX2_count : MethodName := ⟨RX2, "count", "(I)I"⟩
abbrev cX2_undo : ByteArray := prog_1_method_22_code
def yX2_undo : MethodName := ⟨RX2, "undo", "()I"⟩
abbrev cX2_type : ByteArray := prog_1_method_23_code
def yX2_type : MethodName := ⟨RX2, "type", "(I)I"⟩
abbrev cX2_clearText : ByteArray := prog_1_method_24_code
def yX2_clearText : MethodName := ⟨RX2, "clearText", "()I"⟩
abbrev cX2_fault : ByteArray := prog_1_method_25_code
def yX2_fault : MethodName := ⟨RX2, "fault", "(I)I"⟩
abbrev cX2_play : ByteArray := prog_1_method_26_code
def yX2_play : MethodName := ⟨RX2, "play", "()I"⟩
abbrev cX2_recorded : ByteArray := prog_1_method_27_code
def yX2_recorded : MethodName := ⟨RX2, "recorded", "(I)I"⟩
abbrev cX2_dropOldest : ByteArray := prog_1_method_28_code
def yX2_dropOldest : MethodName := ⟨RX2, "dropOldest", "()V"⟩
abbrev cX2_isSafe : ByteArray := prog_1_method_29_code
def yX2_isSafe : MethodName := ⟨RX2, "isSafe", "(I)Z"⟩
abbrev cX2_findFault : ByteArray := prog_1_method_30_code
def yX2_findFault : MethodName := ⟨RX2, "findFault", "()Z"⟩
abbrev cX2_noteFault : ByteArray := prog_1_method_31_code
def yX2_noteFault : MethodName := ⟨RX2, "noteFault", "(III)Z"⟩
abbrev cX2_isOutside : ByteArray := prog_1_method_32_code
def yX2_isOutside : MethodName := ⟨RX2, "isOutside", "(III)Z"⟩
abbrev cX2_bitsOf : ByteArray := prog_1_method_33_code
def yX2_bitsOf : MethodName := ⟨RX2, "bitsOf", "(F)I"⟩
def RX3 : String := "DriftingLevelsModel"
def TX3 : u_T := fun k => match k with
  | 0 => ("DriftingLevelsModel", "s", "[I", true)
  | 1 => ("DriftingLevelsModel", "aside", "[I", true)
  | 2 => ("DriftingLevelsModel", "before", "[I", true)
  | 3 => ("DriftingLevelsModel", "past", "[I", true)
  | 4 => ("DriftingLevelsModel", "known", "I", false)
  | 5 => ("DriftingLevelsModel", "text", "[I", true)
  | 6 => ("DriftingLevelsModel", "length", "I", false)
  | 7 => ("DriftingLevelsModel", "spot", "I", false)
  | 8 => ("DriftingLevelsModel", "begin", "I", false)
  | 9 => ("DriftingLevelsModel", "isForm", "Z", false)
  | 10 => ("DriftingLevelsModel", "letter", "I", false)
  | 11 => ("DriftingLevelsModel", "tells", "[I", true)
  | 12 => ("DriftingLevelsModel", "faultReason", "I", false)
  | _ => ("DriftingLevelsModel", "faultCause", "I", false)
def tyX3 : Nat → FieldType := fun k => match k with
  | 0 => .array .int
  | 1 => .array .int
  | 2 => .array .int
  | 3 => .array .int
  | 4 => .int
  | 5 => .array .int
  | 6 => .int
  | 7 => .int
  | 8 => .int
  | 9 => .boolean
  | 10 => .int
  | 11 => .array .int
  | 12 => .int
  | _ => .int
abbrev wsX30 : List Cond := u_ws RX3 TX3 14
theorem nmX3 : ∀ a, a < 14 → ∀ b, b < 14 → a ≠ b → (TX3 a).2.1 ≠ (TX3 b).2.1 := by decide +kernel
theorem tyX3_ok : ∀ k, k < 14 → parseFieldDescriptor (TX3 k).2.2.1 = some (tyX3 k) := by decide +kernel
abbrev cX3_init : ByteArray := prog_5_method_1_code
def yX3_init : MethodName := ⟨RX3, "<init>", "()V"⟩
abbrev cX3_in : ByteArray := prog_5_method_3_code
def yX3_in : MethodName := ⟨RX3, "in", "(III)Z"⟩
abbrev cX3_copies : ByteArray := prog_5_method_4_code
def yX3_copies : MethodName := ⟨RX3, "copies", "([II[II)V"⟩
abbrev cX3_records : ByteArray := prog_5_method_5_code
def yX3_records : MethodName := ⟨RX3, "records", "()V"⟩
abbrev cX3_isRow : ByteArray := prog_5_method_6_code
def yX3_isRow : MethodName := ⟨RX3, "isRow", "(I)Z"⟩
abbrev cX3_isCell : ByteArray := prog_5_method_7_code
def yX3_isCell : MethodName := ⟨RX3, "isCell", "(I)Z"⟩
abbrev cX3_isThree : ByteArray := prog_5_method_8_code
def yX3_isThree : MethodName := ⟨RX3, "isThree", "(I)Z"⟩
abbrev cX3_of : ByteArray := prog_5_method_9_code
def yX3_of : MethodName := ⟨RX3, "of", "(II)I"⟩
abbrev cX3_lays : ByteArray := prog_5_method_10_code
def yX3_lays : MethodName := ⟨RX3, "lays", "(III)V"⟩
abbrev cX3_ofCell : ByteArray := prog_5_method_11_code
def yX3_ofCell : MethodName := ⟨RX3, "ofCell", "(III)I"⟩
abbrev cX3_laysCell : ByteArray := prog_5_method_12_code
def yX3_laysCell : MethodName := ⟨RX3, "laysCell", "(IIII)V"⟩
abbrev cX3_aim : ByteArray := prog_5_method_13_code
def yX3_aim : MethodName := ⟨RX3, "aim", "(I)I"⟩
abbrev cX3_size : ByteArray := prog_5_method_14_code
def yX3_size : MethodName := ⟨RX3, "size", "(I)I"⟩
abbrev cX3_writes : ByteArray := prog_5_method_15_code
def yX3_writes : MethodName := ⟨RX3, "writes", "(III)I"⟩
abbrev cX3_writesGuards : ByteArray := prog_5_method_16_code
def yX3_writesGuards : MethodName := ⟨RX3, "writesGuards", "(I)V"⟩
abbrev cX3_own : ByteArray := prog_5_method_17_code
def yX3_own : MethodName := ⟨RX3, "own", "(II)I"⟩
abbrev cX3_isRight : ByteArray := prog_5_method_18_code
def yX3_isRight : MethodName := ⟨RX3, "isRight", "(I)Z"⟩
abbrev cX3_helps : ByteArray := prog_5_method_19_code
def yX3_helps : MethodName := ⟨RX3, "helps", "(I)Z"⟩
abbrev cX3_source : ByteArray := prog_5_method_20_code
def yX3_source : MethodName := ⟨RX3, "source", "(I)I"⟩
abbrev cX3_threshold : ByteArray := prog_5_method_21_code
def yX3_threshold : MethodName := ⟨RX3, "threshold", "(II)I"⟩
abbrev cX3_by : ByteArray := prog_5_method_22_code
def yX3_by : MethodName := ⟨RX3, "by", "(III)I"⟩
abbrev cX3_told : ByteArray := prog_5_method_23_code
def yX3_told : MethodName := ⟨RX3, "told", "(II)I"⟩
abbrev cX3_wrong : ByteArray := prog_5_method_24_code
def yX3_wrong : MethodName := ⟨RX3, "wrong", "(I)I"⟩
abbrev cX3_wordTold : ByteArray := prog_5_method_25_code
def yX3_wordTold : MethodName := ⟨RX3, "wordTold", "(I)I"⟩
abbrev cX3_wordOf : ByteArray := prog_5_method_26_code
def yX3_wordOf : MethodName := ⟨RX3, "wordOf", "(I)I"⟩
abbrev cX3_writesWord : ByteArray := prog_5_method_27_code
def yX3_writesWord : MethodName := ⟨RX3, "writesWord", "(II)V"⟩
abbrev cX3_writesAnew : ByteArray := prog_5_method_28_code
def yX3_writesAnew : MethodName := ⟨RX3, "writesAnew", "(I)I"⟩
abbrev cX3_drifted : ByteArray := prog_5_method_29_code
def yX3_drifted : MethodName := ⟨RX3, "drifted", "(II)I"⟩
abbrev cX3_drifts : ByteArray := prog_5_method_30_code
def yX3_drifts : MethodName := ⟨RX3, "drifts", "()V"⟩
abbrev cX3_ageOf : ByteArray := prog_5_method_31_code
def yX3_ageOf : MethodName := ⟨RX3, "ageOf", "(I)I"⟩
abbrev cX3_endsDay : ByteArray := prog_5_method_32_code
def yX3_endsDay : MethodName := ⟨RX3, "endsDay", "()I"⟩
abbrev cX3_endsDays : ByteArray := prog_5_method_33_code
def yX3_endsDays : MethodName := ⟨RX3, "endsDays", "(I)I"⟩
abbrev cX3_errorWrite : ByteArray := prog_5_method_34_code
def yX3_errorWrite : MethodName := ⟨RX3, "errorWrite", "(III)I"⟩
abbrev cX3_errorFail : ByteArray := prog_5_method_35_code
def yX3_errorFail : MethodName := ⟨RX3, "errorFail", "(III)I"⟩
abbrev cX3_errorMend : ByteArray := prog_5_method_36_code
def yX3_errorMend : MethodName := ⟨RX3, "errorMend", "(II)I"⟩
abbrev cX3_errorRate : ByteArray := prog_5_method_37_code
def yX3_errorRate : MethodName := ⟨RX3, "errorRate", "(II)I"⟩
abbrev cX3_errorDays : ByteArray := prog_5_method_38_code
def yX3_errorDays : MethodName := ⟨RX3, "errorDays", "(I)I"⟩
abbrev cX3_goFail : ByteArray := prog_5_method_39_code
def yX3_goFail : MethodName := ⟨RX3, "goFail", "(III)V"⟩
abbrev cX3_write : ByteArray := prog_5_method_40_code
def yX3_write : MethodName := ⟨RX3, "write", "(III)I"⟩
abbrev cX3_fill : ByteArray := prog_5_method_41_code
def yX3_fill : MethodName := ⟨RX3, "fill", "(II)I"⟩
abbrev cX3_anew : ByteArray := prog_5_method_42_code
def yX3_anew : MethodName := ⟨RX3, "anew", "(I)I"⟩
abbrev cX3_ask : ByteArray := prog_5_method_43_code
def yX3_ask : MethodName := ⟨RX3, "ask", "(II)I"⟩
abbrev cX3_fail : ByteArray := prog_5_method_44_code
def yX3_fail : MethodName := ⟨RX3, "fail", "(III)I"⟩
abbrev cX3_mend : ByteArray := prog_5_method_45_code
def yX3_mend : MethodName := ⟨RX3, "mend", "(II)I"⟩
abbrev cX3_rate : ByteArray := prog_5_method_46_code
def yX3_rate : MethodName := ⟨RX3, "rate", "(II)I"⟩
abbrev cX3_days : ByteArray := prog_5_method_47_code
def yX3_days : MethodName := ⟨RX3, "days", "(I)I"⟩
abbrev cX3_set : ByteArray := prog_5_method_48_code
def yX3_set : MethodName := ⟨RX3, "set", "(II)I"⟩
abbrev cX3_undo : ByteArray := prog_5_method_49_code
def yX3_undo : MethodName := ⟨RX3, "undo", "()I"⟩
abbrev cX3_nearer : ByteArray := prog_5_method_50_code
def yX3_nearer : MethodName := ⟨RX3, "nearer", "(II)I"⟩
abbrev cX3_cell : ByteArray := prog_5_method_51_code
def yX3_cell : MethodName := ⟨RX3, "cell", "(III)I"⟩
abbrev cX3_guard : ByteArray := prog_5_method_52_code
def yX3_guard : MethodName := ⟨RX3, "guard", "(III)I"⟩
abbrev cX3_wrongFixed : ByteArray := prog_5_method_53_code
def yX3_wrongFixed : MethodName := ⟨RX3, "wrongFixed", "(I)I"⟩
abbrev cX3_row : ByteArray := prog_5_method_54_code
def yX3_row : MethodName := ⟨RX3, "row", "(II)I"⟩
abbrev cX3_table : ByteArray := prog_5_method_55_code
def yX3_table : MethodName := ⟨RX3, "table", "(II)I"⟩
abbrev cX3_wrongIn : ByteArray := prog_5_method_56_code
def yX3_wrongIn : MethodName := ⟨RX3, "wrongIn", "(I)I"⟩
abbrev cX3_rightFor : ByteArray := prog_5_method_57_code
def yX3_rightFor : MethodName := ⟨RX3, "rightFor", "(I)I"⟩
abbrev cX3_lostBy : ByteArray := prog_5_method_58_code
def yX3_lostBy : MethodName := ⟨RX3, "lostBy", "(I)I"⟩
abbrev cX3_safeAge : ByteArray := prog_5_method_59_code
def yX3_safeAge : MethodName := ⟨RX3, "safeAge", "()I"⟩
abbrev cX3_worst : ByteArray := prog_5_method_60_code
def yX3_worst : MethodName := ⟨RX3, "worst", "(I)I"⟩
abbrev cX3_mean : ByteArray := prog_5_method_61_code
def yX3_mean : MethodName := ⟨RX3, "mean", "()I"⟩
abbrev cX3_share : ByteArray := prog_5_method_62_code
def yX3_share : MethodName := ⟨RX3, "share", "()I"⟩
abbrev cX3_wrongAll : ByteArray := prog_5_method_63_code
def yX3_wrongAll : MethodName := ⟨RX3, "wrongAll", "()I"⟩
abbrev cX3_isOf : ByteArray := prog_5_method_64_code
def yX3_isOf : MethodName := ⟨RX3, "isOf", "(II)Z"⟩
abbrev cX3_setOf : ByteArray := prog_5_method_65_code
def yX3_setOf : MethodName := ⟨RX3, "setOf", "(I)I"⟩
abbrev cX3_failed : ByteArray := prog_5_method_66_code
def yX3_failed : MethodName := ⟨RX3, "failed", "()I"⟩
abbrev cX3_pairs : ByteArray := prog_5_method_67_code
def yX3_pairs : MethodName := ⟨RX3, "pairs", "()I"⟩
abbrev cX3_ofLevel : ByteArray := prog_5_method_68_code
def yX3_ofLevel : MethodName := ⟨RX3, "ofLevel", "(I)I"⟩
abbrev cX3_count : ByteArray := prog_5_method_69_code
def yX3_count : MethodName := ⟨RX3, "count", "(I)I"⟩
abbrev cX3_type : ByteArray := prog_5_method_70_code
def yX3_type : MethodName := ⟨RX3, "type", "(I)I"⟩
abbrev cX3_clearText : ByteArray := prog_5_method_71_code
def yX3_clearText : MethodName := ⟨RX3, "clearText", "()I"⟩
abbrev cX3_here : ByteArray := prog_5_method_72_code
def yX3_here : MethodName := ⟨RX3, "here", "()I"⟩
abbrev cX3_takes : ByteArray := prog_5_method_73_code
def yX3_takes : MethodName := ⟨RX3, "takes", "(Z)V"⟩
abbrev cX3_takesNumber : ByteArray := prog_5_method_74_code
def yX3_takesNumber : MethodName := ⟨RX3, "takesNumber", "(I)V"⟩
abbrev cX3_takesOrder : ByteArray := prog_5_method_75_code
def yX3_takesOrder : MethodName := ⟨RX3, "takesOrder", "()V"⟩
abbrev cX3_errorOfOrder : ByteArray := prog_5_method_76_code
def yX3_errorOfOrder : MethodName := ⟨RX3, "errorOfOrder", "()I"⟩
abbrev cX3_doesOrder : ByteArray := prog_5_method_77_code
def yX3_doesOrder : MethodName := ⟨RX3, "doesOrder", "()V"⟩
abbrev cX3_doesAll : ByteArray := prog_5_method_78_code
def yX3_doesAll : MethodName := ⟨RX3, "doesAll", "()I"⟩
abbrev cX3_fault : ByteArray := prog_5_method_79_code
def yX3_fault : MethodName := ⟨RX3, "fault", "(I)I"⟩
abbrev cX3_play : ByteArray := prog_5_method_80_code
def yX3_play : MethodName := ⟨RX3, "play", "()I"⟩
def RJxf58ca : String := "java/lang/Float"
def TJxf58ca : u_T := fun k => match k with
  | _ => ("", "", "", false)
def tyJxf58ca : Nat → FieldType := fun k => match k with
  | _ => .int
abbrev wsJxf58ca0 : List Cond := u_ws RJxf58ca TJxf58ca 0
theorem nmJxf58ca : ∀ a, a < 0 → ∀ b, b < 0 → a ≠ b → (TJxf58ca a).2.1 ≠ (TJxf58ca b).2.1 := by decide +kernel
theorem tyJxf58ca_ok : ∀ k, k < 0 → parseFieldDescriptor (TJxf58ca k).2.2.1 = some (tyJxf58ca k) := by decide +kernel
abbrev cJxf58ca_isNaN_12338 : ByteArray := prog_6_method_6_code
def yJxf58ca_isNaN_12338 : MethodName := ⟨RJxf58ca, "isNaN", "(F)Z"⟩
abbrev cJxf58ca_floatToIntBits_5c35a : ByteArray := prog_6_method_24_code
def yJxf58ca_floatToIntBits_5c35a : MethodName := ⟨RJxf58ca, "floatToIntBits", "(F)I"⟩
def RJ9 : String := "java/lang/Math"
def TJ9 : u_T := fun k => match k with
  | _ => ("", "", "", false)
def tyJ9 : Nat → FieldType := fun k => match k with
  | _ => .int
abbrev wsJ90 : List Cond := u_ws RJ9 TJ9 0
theorem nmJ9 : ∀ a, a < 0 → ∀ b, b < 0 → a ≠ b → (TJ9 a).2.1 ≠ (TJ9 b).2.1 := by decide +kernel
theorem tyJ9_ok : ∀ k, k < 0 → parseFieldDescriptor (TJ9 k).2.2.1 = some (tyJ9 k) := by decide +kernel
abbrev cJ9_abs_0f7a4 : ByteArray := prog_7_method_59_code
def yJ9_abs_0f7a4 : MethodName := ⟨RJ9, "abs", "(I)I"⟩
abbrev cJ9_max_7cf53 : ByteArray := prog_7_method_65_code
def yJ9_max_7cf53 : MethodName := ⟨RJ9, "max", "(II)I"⟩
abbrev cJ9_min_7cf53 : ByteArray := prog_7_method_69_code
def yJ9_min_7cf53 : MethodName := ⟨RJ9, "min", "(II)I"⟩
def RJ10 : String := "java/lang/System"
def TJ10 : u_T := fun k => match k with
  | _ => ("", "", "", false)
def tyJ10 : Nat → FieldType := fun k => match k with
  | _ => .int
abbrev wsJ100 : List Cond := u_ws RJ10 TJ10 0
theorem nmJ10 : ∀ a, a < 0 → ∀ b, b < 0 → a ≠ b → (TJ10 a).2.1 ≠ (TJ10 b).2.1 := by decide +kernel
theorem tyJ10_ok : ∀ k, k < 0 → parseFieldDescriptor (TJ10 k).2.2.1 = some (tyJ10 k) := by decide +kernel
def RL : String := "DriftingLevelsLaw"
abbrev cL_law : ByteArray := code
def yL_law : MethodName := ⟨RL, "law", "([I)Z"⟩
abbrev vwCl : List vw_C := [(RX0, TX0, 13), (RX1, TX1, 5), (RX2, TX2, 10), (RX3, TX3, 14)]
end
section
theorem dX0_init_0 : decode cX0_init 0 = .ok (.aload_n 0, 1) := by decide +kernel
theorem dX0_init_1 : decode cX0_init 1 = .ok (.invokespecial 3, 3) := by decide +kernel
theorem dX0_init_4 : decode cX0_init 4 = .ok (.aload_n 0, 1) := by decide +kernel
theorem dX0_init_5 : decode cX0_init 5 = .ok (.bipush 48, 2) := by decide +kernel
theorem dX0_init_7 : decode cX0_init 7 = .ok (.newarray .int, 2) := by decide +kernel
theorem dX0_init_9 : decode cX0_init 9 = .ok (.putfield 9, 3) := by decide +kernel
theorem dX0_init_12 : decode cX0_init 12 = .ok (.aload_n 0, 1) := by decide +kernel
theorem dX0_init_13 : decode cX0_init 13 = .ok (.bipush 48, 2) := by decide +kernel
theorem dX0_init_15 : decode cX0_init 15 = .ok (.newarray .int, 2) := by decide +kernel
theorem dX0_init_17 : decode cX0_init 17 = .ok (.putfield 15, 3) := by decide +kernel
theorem dX0_init_20 : decode cX0_init 20 = .ok (.aload_n 0, 1) := by decide +kernel
theorem dX0_init_21 : decode cX0_init 21 = .ok (.bipush 48, 2) := by decide +kernel
theorem dX0_init_23 : decode cX0_init 23 = .ok (.newarray .int, 2) := by decide +kernel
theorem dX0_init_25 : decode cX0_init 25 = .ok (.putfield 18, 3) := by decide +kernel
theorem dX0_init_28 : decode cX0_init 28 = .ok (.aload_n 0, 1) := by decide +kernel
theorem dX0_init_29 : decode cX0_init 29 = .ok (.bipush 48, 2) := by decide +kernel
theorem dX0_init_31 : decode cX0_init 31 = .ok (.newarray .int, 2) := by decide +kernel
theorem dX0_init_33 : decode cX0_init 33 = .ok (.putfield 21, 3) := by decide +kernel
theorem dX0_init_36 : decode cX0_init 36 = .ok (.aload_n 0, 1) := by decide +kernel
theorem dX0_init_37 : decode cX0_init 37 = .ok (.bipush 18, 2) := by decide +kernel
theorem dX0_init_39 : decode cX0_init 39 = .ok (.newarray .int, 2) := by decide +kernel
theorem dX0_init_41 : decode cX0_init 41 = .ok (.putfield 24, 3) := by decide +kernel
theorem dX0_init_44 : decode cX0_init 44 = .ok (.aload_n 0, 1) := by decide +kernel
theorem dX0_init_45 : decode cX0_init 45 = .ok (.bipush 18, 2) := by decide +kernel
theorem dX0_init_47 : decode cX0_init 47 = .ok (.newarray .int, 2) := by decide +kernel
theorem dX0_init_49 : decode cX0_init 49 = .ok (.putfield 27, 3) := by decide +kernel
theorem dX0_init_52 : decode cX0_init 52 = .ok (.aload_n 0, 1) := by decide +kernel
theorem dX0_init_53 : decode cX0_init 53 = .ok (.bipush 6, 2) := by decide +kernel
theorem dX0_init_55 : decode cX0_init 55 = .ok (.newarray .int, 2) := by decide +kernel
theorem dX0_init_57 : decode cX0_init 57 = .ok (.putfield 30, 3) := by decide +kernel
theorem dX0_init_60 : decode cX0_init 60 = .ok (.aload_n 0, 1) := by decide +kernel
theorem dX0_init_61 : decode cX0_init 61 = .ok (.bipush 6, 2) := by decide +kernel
theorem dX0_init_63 : decode cX0_init 63 = .ok (.newarray .int, 2) := by decide +kernel
theorem dX0_init_65 : decode cX0_init 65 = .ok (.putfield 33, 3) := by decide +kernel
theorem dX0_init_68 : decode cX0_init 68 = .ok (.aload_n 0, 1) := by decide +kernel
theorem dX0_init_69 : decode cX0_init 69 = .ok (.bipush 6, 2) := by decide +kernel
theorem dX0_init_71 : decode cX0_init 71 = .ok (.newarray .int, 2) := by decide +kernel
theorem dX0_init_73 : decode cX0_init 73 = .ok (.putfield 36, 3) := by decide +kernel
theorem dX0_init_76 : decode cX0_init 76 = .ok (.aload_n 0, 1) := by decide +kernel
theorem dX0_init_77 : decode cX0_init 77 = .ok (.bipush 6, 2) := by decide +kernel
theorem dX0_init_79 : decode cX0_init 79 = .ok (.newarray .int, 2) := by decide +kernel
theorem dX0_init_81 : decode cX0_init 81 = .ok (.putfield 39, 3) := by decide +kernel
theorem dX0_init_84 : decode cX0_init 84 = .ok (.aload_n 0, 1) := by decide +kernel
theorem dX0_init_85 : decode cX0_init 85 = .ok (.bipush 9, 2) := by decide +kernel
theorem dX0_init_87 : decode cX0_init 87 = .ok (.newarray .int, 2) := by decide +kernel
theorem dX0_init_89 : decode cX0_init 89 = .ok (.putfield 42, 3) := by decide +kernel
theorem dX0_init_92 : decode cX0_init 92 = .ok (.aload_n 0, 1) := by decide +kernel
theorem dX0_init_93 : decode cX0_init 93 = .ok (.iconst 3, 1) := by decide +kernel
theorem dX0_init_94 : decode cX0_init 94 = .ok (.newarray .int, 2) := by decide +kernel
theorem dX0_init_96 : decode cX0_init 96 = .ok (.putfield 45, 3) := by decide +kernel
theorem dX0_init_99 : decode cX0_init 99 = .ok (.iconst 0, 1) := by decide +kernel
theorem dX0_init_100 : decode cX0_init 100 = .ok (.istore_n 1, 1) := by decide +kernel
theorem dX0_init_101 : decode cX0_init 101 = .ok (.iload_n 1, 1) := by decide +kernel
theorem dX0_init_102 : decode cX0_init 102 = .ok (.bipush 48, 2) := by decide +kernel
theorem dX0_init_104 : decode cX0_init 104 = .ok (.if_icmp .ge 15, 3) := by decide +kernel
theorem dX0_init_107 : decode cX0_init 107 = .ok (.aload_n 0, 1) := by decide +kernel
theorem dX0_init_108 : decode cX0_init 108 = .ok (.iload_n 1, 1) := by decide +kernel
theorem dX0_init_109 : decode cX0_init 109 = .ok (.iconst 0, 1) := by decide +kernel
theorem dX0_init_110 : decode cX0_init 110 = .ok (.invokevirtual 48, 3) := by decide +kernel
theorem dX0_init_113 : decode cX0_init 113 = .ok (.iinc 1 1, 3) := by decide +kernel
theorem dX0_init_116 : decode cX0_init 116 = .ok (.goto (-15), 3) := by decide +kernel
theorem dX0_init_119 : decode cX0_init 119 = .ok (.iconst 0, 1) := by decide +kernel
theorem dX0_init_120 : decode cX0_init 120 = .ok (.istore_n 1, 1) := by decide +kernel
theorem dX0_init_121 : decode cX0_init 121 = .ok (.iload_n 1, 1) := by decide +kernel
theorem dX0_init_122 : decode cX0_init 122 = .ok (.bipush 6, 2) := by decide +kernel
theorem dX0_init_124 : decode cX0_init 124 = .ok (.if_icmp .ge 22, 3) := by decide +kernel
theorem dX0_init_127 : decode cX0_init 127 = .ok (.aload_n 0, 1) := by decide +kernel
theorem dX0_init_128 : decode cX0_init 128 = .ok (.iload_n 1, 1) := by decide +kernel
theorem dX0_init_129 : decode cX0_init 129 = .ok (.invokevirtual 52, 3) := by decide +kernel
theorem dX0_init_132 : decode cX0_init 132 = .ok (.aload_n 0, 1) := by decide +kernel
theorem dX0_init_133 : decode cX0_init 133 = .ok (.getfield 30, 3) := by decide +kernel
theorem dX0_init_136 : decode cX0_init 136 = .ok (.iload_n 1, 1) := by decide +kernel
theorem dX0_init_137 : decode cX0_init 137 = .ok (.bipush 20, 2) := by decide +kernel
theorem dX0_init_139 : decode cX0_init 139 = .ok (.iastore, 1) := by decide +kernel
theorem dX0_init_140 : decode cX0_init 140 = .ok (.iinc 1 1, 3) := by decide +kernel
theorem dX0_init_143 : decode cX0_init 143 = .ok (.goto (-22), 3) := by decide +kernel
theorem dX0_init_146 : decode cX0_init 146 = .ok (.aload_n 0, 1) := by decide +kernel
theorem dX0_init_147 : decode cX0_init 147 = .ok (.getfield 45, 3) := by decide +kernel
theorem dX0_init_150 : decode cX0_init 150 = .ok (.iconst 0, 1) := by decide +kernel
theorem dX0_init_151 : decode cX0_init 151 = .ok (.sipush 500, 3) := by decide +kernel
theorem dX0_init_154 : decode cX0_init 154 = .ok (.iastore, 1) := by decide +kernel
theorem dX0_init_155 : decode cX0_init 155 = .ok (.aload_n 0, 1) := by decide +kernel
theorem dX0_init_156 : decode cX0_init 156 = .ok (.getfield 45, 3) := by decide +kernel
theorem dX0_init_159 : decode cX0_init 159 = .ok (.iconst 1, 1) := by decide +kernel
theorem dX0_init_160 : decode cX0_init 160 = .ok (.bipush 40, 2) := by decide +kernel
theorem dX0_init_162 : decode cX0_init 162 = .ok (.iastore, 1) := by decide +kernel
theorem dX0_init_163 : decode cX0_init 163 = .ok (.return_, 1) := by decide +kernel
theorem dX0_copyFrom_0 : decode cX0_copyFrom 0 = .ok (.aload_n 1, 1) := by decide +kernel
theorem dX0_copyFrom_1 : decode cX0_copyFrom 1 = .ok (.getfield 9, 3) := by decide +kernel
theorem dX0_copyFrom_4 : decode cX0_copyFrom 4 = .ok (.iconst 0, 1) := by decide +kernel
theorem dX0_copyFrom_5 : decode cX0_copyFrom 5 = .ok (.aload_n 0, 1) := by decide +kernel
theorem dX0_copyFrom_6 : decode cX0_copyFrom 6 = .ok (.getfield 9, 3) := by decide +kernel
theorem dX0_copyFrom_9 : decode cX0_copyFrom 9 = .ok (.iconst 0, 1) := by decide +kernel
theorem dX0_copyFrom_10 : decode cX0_copyFrom 10 = .ok (.bipush 48, 2) := by decide +kernel
theorem dX0_copyFrom_12 : decode cX0_copyFrom 12 = .ok (.invokestatic 56, 3) := by decide +kernel
theorem dX0_copyFrom_15 : decode cX0_copyFrom 15 = .ok (.aload_n 1, 1) := by decide +kernel
theorem dX0_copyFrom_16 : decode cX0_copyFrom 16 = .ok (.getfield 15, 3) := by decide +kernel
theorem dX0_copyFrom_19 : decode cX0_copyFrom 19 = .ok (.iconst 0, 1) := by decide +kernel
theorem dX0_copyFrom_20 : decode cX0_copyFrom 20 = .ok (.aload_n 0, 1) := by decide +kernel
theorem dX0_copyFrom_21 : decode cX0_copyFrom 21 = .ok (.getfield 15, 3) := by decide +kernel
theorem dX0_copyFrom_24 : decode cX0_copyFrom 24 = .ok (.iconst 0, 1) := by decide +kernel
theorem dX0_copyFrom_25 : decode cX0_copyFrom 25 = .ok (.bipush 48, 2) := by decide +kernel
theorem dX0_copyFrom_27 : decode cX0_copyFrom 27 = .ok (.invokestatic 56, 3) := by decide +kernel
theorem dX0_copyFrom_30 : decode cX0_copyFrom 30 = .ok (.aload_n 1, 1) := by decide +kernel
theorem dX0_copyFrom_31 : decode cX0_copyFrom 31 = .ok (.getfield 18, 3) := by decide +kernel
theorem dX0_copyFrom_34 : decode cX0_copyFrom 34 = .ok (.iconst 0, 1) := by decide +kernel
theorem dX0_copyFrom_35 : decode cX0_copyFrom 35 = .ok (.aload_n 0, 1) := by decide +kernel
theorem dX0_copyFrom_36 : decode cX0_copyFrom 36 = .ok (.getfield 18, 3) := by decide +kernel
theorem dX0_copyFrom_39 : decode cX0_copyFrom 39 = .ok (.iconst 0, 1) := by decide +kernel
theorem dX0_copyFrom_40 : decode cX0_copyFrom 40 = .ok (.bipush 48, 2) := by decide +kernel
theorem dX0_copyFrom_42 : decode cX0_copyFrom 42 = .ok (.invokestatic 56, 3) := by decide +kernel
theorem dX0_copyFrom_45 : decode cX0_copyFrom 45 = .ok (.aload_n 1, 1) := by decide +kernel
theorem dX0_copyFrom_46 : decode cX0_copyFrom 46 = .ok (.getfield 21, 3) := by decide +kernel
theorem dX0_copyFrom_49 : decode cX0_copyFrom 49 = .ok (.iconst 0, 1) := by decide +kernel
theorem dX0_copyFrom_50 : decode cX0_copyFrom 50 = .ok (.aload_n 0, 1) := by decide +kernel
theorem dX0_copyFrom_51 : decode cX0_copyFrom 51 = .ok (.getfield 21, 3) := by decide +kernel
theorem dX0_copyFrom_54 : decode cX0_copyFrom 54 = .ok (.iconst 0, 1) := by decide +kernel
theorem dX0_copyFrom_55 : decode cX0_copyFrom 55 = .ok (.bipush 48, 2) := by decide +kernel
theorem dX0_copyFrom_57 : decode cX0_copyFrom 57 = .ok (.invokestatic 56, 3) := by decide +kernel
theorem dX0_copyFrom_60 : decode cX0_copyFrom 60 = .ok (.aload_n 1, 1) := by decide +kernel
theorem dX0_copyFrom_61 : decode cX0_copyFrom 61 = .ok (.getfield 24, 3) := by decide +kernel
theorem dX0_copyFrom_64 : decode cX0_copyFrom 64 = .ok (.iconst 0, 1) := by decide +kernel
theorem dX0_copyFrom_65 : decode cX0_copyFrom 65 = .ok (.aload_n 0, 1) := by decide +kernel
theorem dX0_copyFrom_66 : decode cX0_copyFrom 66 = .ok (.getfield 24, 3) := by decide +kernel
theorem dX0_copyFrom_69 : decode cX0_copyFrom 69 = .ok (.iconst 0, 1) := by decide +kernel
theorem dX0_copyFrom_70 : decode cX0_copyFrom 70 = .ok (.bipush 18, 2) := by decide +kernel
theorem dX0_copyFrom_72 : decode cX0_copyFrom 72 = .ok (.invokestatic 56, 3) := by decide +kernel
theorem dX0_copyFrom_75 : decode cX0_copyFrom 75 = .ok (.aload_n 1, 1) := by decide +kernel
theorem dX0_copyFrom_76 : decode cX0_copyFrom 76 = .ok (.getfield 27, 3) := by decide +kernel
theorem dX0_copyFrom_79 : decode cX0_copyFrom 79 = .ok (.iconst 0, 1) := by decide +kernel
theorem dX0_copyFrom_80 : decode cX0_copyFrom 80 = .ok (.aload_n 0, 1) := by decide +kernel
theorem dX0_copyFrom_81 : decode cX0_copyFrom 81 = .ok (.getfield 27, 3) := by decide +kernel
theorem dX0_copyFrom_84 : decode cX0_copyFrom 84 = .ok (.iconst 0, 1) := by decide +kernel
theorem dX0_copyFrom_85 : decode cX0_copyFrom 85 = .ok (.bipush 18, 2) := by decide +kernel
theorem dX0_copyFrom_87 : decode cX0_copyFrom 87 = .ok (.invokestatic 56, 3) := by decide +kernel
theorem dX0_copyFrom_90 : decode cX0_copyFrom 90 = .ok (.aload_n 1, 1) := by decide +kernel
theorem dX0_copyFrom_91 : decode cX0_copyFrom 91 = .ok (.getfield 30, 3) := by decide +kernel
theorem dX0_copyFrom_94 : decode cX0_copyFrom 94 = .ok (.iconst 0, 1) := by decide +kernel
theorem dX0_copyFrom_95 : decode cX0_copyFrom 95 = .ok (.aload_n 0, 1) := by decide +kernel
theorem dX0_copyFrom_96 : decode cX0_copyFrom 96 = .ok (.getfield 30, 3) := by decide +kernel
theorem dX0_copyFrom_99 : decode cX0_copyFrom 99 = .ok (.iconst 0, 1) := by decide +kernel
theorem dX0_copyFrom_100 : decode cX0_copyFrom 100 = .ok (.bipush 6, 2) := by decide +kernel
theorem dX0_copyFrom_102 : decode cX0_copyFrom 102 = .ok (.invokestatic 56, 3) := by decide +kernel
theorem dX0_copyFrom_105 : decode cX0_copyFrom 105 = .ok (.aload_n 1, 1) := by decide +kernel
theorem dX0_copyFrom_106 : decode cX0_copyFrom 106 = .ok (.getfield 33, 3) := by decide +kernel
theorem dX0_copyFrom_109 : decode cX0_copyFrom 109 = .ok (.iconst 0, 1) := by decide +kernel
theorem dX0_copyFrom_110 : decode cX0_copyFrom 110 = .ok (.aload_n 0, 1) := by decide +kernel
theorem dX0_copyFrom_111 : decode cX0_copyFrom 111 = .ok (.getfield 33, 3) := by decide +kernel
theorem dX0_copyFrom_114 : decode cX0_copyFrom 114 = .ok (.iconst 0, 1) := by decide +kernel
theorem dX0_copyFrom_115 : decode cX0_copyFrom 115 = .ok (.bipush 6, 2) := by decide +kernel
theorem dX0_copyFrom_117 : decode cX0_copyFrom 117 = .ok (.invokestatic 56, 3) := by decide +kernel
theorem dX0_copyFrom_120 : decode cX0_copyFrom 120 = .ok (.aload_n 1, 1) := by decide +kernel
theorem dX0_copyFrom_121 : decode cX0_copyFrom 121 = .ok (.getfield 36, 3) := by decide +kernel
theorem dX0_copyFrom_124 : decode cX0_copyFrom 124 = .ok (.iconst 0, 1) := by decide +kernel
theorem dX0_copyFrom_125 : decode cX0_copyFrom 125 = .ok (.aload_n 0, 1) := by decide +kernel
theorem dX0_copyFrom_126 : decode cX0_copyFrom 126 = .ok (.getfield 36, 3) := by decide +kernel
theorem dX0_copyFrom_129 : decode cX0_copyFrom 129 = .ok (.iconst 0, 1) := by decide +kernel
theorem dX0_copyFrom_130 : decode cX0_copyFrom 130 = .ok (.bipush 6, 2) := by decide +kernel
theorem dX0_copyFrom_132 : decode cX0_copyFrom 132 = .ok (.invokestatic 56, 3) := by decide +kernel
theorem dX0_copyFrom_135 : decode cX0_copyFrom 135 = .ok (.aload_n 1, 1) := by decide +kernel
theorem dX0_copyFrom_136 : decode cX0_copyFrom 136 = .ok (.getfield 39, 3) := by decide +kernel
theorem dX0_copyFrom_139 : decode cX0_copyFrom 139 = .ok (.iconst 0, 1) := by decide +kernel
theorem dX0_copyFrom_140 : decode cX0_copyFrom 140 = .ok (.aload_n 0, 1) := by decide +kernel
theorem dX0_copyFrom_141 : decode cX0_copyFrom 141 = .ok (.getfield 39, 3) := by decide +kernel
theorem dX0_copyFrom_144 : decode cX0_copyFrom 144 = .ok (.iconst 0, 1) := by decide +kernel
theorem dX0_copyFrom_145 : decode cX0_copyFrom 145 = .ok (.bipush 6, 2) := by decide +kernel
theorem dX0_copyFrom_147 : decode cX0_copyFrom 147 = .ok (.invokestatic 56, 3) := by decide +kernel
theorem dX0_copyFrom_150 : decode cX0_copyFrom 150 = .ok (.aload_n 1, 1) := by decide +kernel
theorem dX0_copyFrom_151 : decode cX0_copyFrom 151 = .ok (.getfield 42, 3) := by decide +kernel
theorem dX0_copyFrom_154 : decode cX0_copyFrom 154 = .ok (.iconst 0, 1) := by decide +kernel
theorem dX0_copyFrom_155 : decode cX0_copyFrom 155 = .ok (.aload_n 0, 1) := by decide +kernel
theorem dX0_copyFrom_156 : decode cX0_copyFrom 156 = .ok (.getfield 42, 3) := by decide +kernel
theorem dX0_copyFrom_159 : decode cX0_copyFrom 159 = .ok (.iconst 0, 1) := by decide +kernel
theorem dX0_copyFrom_160 : decode cX0_copyFrom 160 = .ok (.bipush 9, 2) := by decide +kernel
theorem dX0_copyFrom_162 : decode cX0_copyFrom 162 = .ok (.invokestatic 56, 3) := by decide +kernel
theorem dX0_copyFrom_165 : decode cX0_copyFrom 165 = .ok (.aload_n 1, 1) := by decide +kernel
theorem dX0_copyFrom_166 : decode cX0_copyFrom 166 = .ok (.getfield 45, 3) := by decide +kernel
theorem dX0_copyFrom_169 : decode cX0_copyFrom 169 = .ok (.iconst 0, 1) := by decide +kernel
theorem dX0_copyFrom_170 : decode cX0_copyFrom 170 = .ok (.aload_n 0, 1) := by decide +kernel
theorem dX0_copyFrom_171 : decode cX0_copyFrom 171 = .ok (.getfield 45, 3) := by decide +kernel
theorem dX0_copyFrom_174 : decode cX0_copyFrom 174 = .ok (.iconst 0, 1) := by decide +kernel
theorem dX0_copyFrom_175 : decode cX0_copyFrom 175 = .ok (.iconst 3, 1) := by decide +kernel
theorem dX0_copyFrom_176 : decode cX0_copyFrom 176 = .ok (.invokestatic 56, 3) := by decide +kernel
theorem dX0_copyFrom_179 : decode cX0_copyFrom 179 = .ok (.aload_n 0, 1) := by decide +kernel
theorem dX0_copyFrom_180 : decode cX0_copyFrom 180 = .ok (.aload_n 1, 1) := by decide +kernel
theorem dX0_copyFrom_181 : decode cX0_copyFrom 181 = .ok (.getfield 62, 3) := by decide +kernel
theorem dX0_copyFrom_184 : decode cX0_copyFrom 184 = .ok (.putfield 62, 3) := by decide +kernel
theorem dX0_copyFrom_187 : decode cX0_copyFrom 187 = .ok (.return_, 1) := by decide +kernel
theorem dX0_writeLevel_0 : decode cX0_writeLevel 0 = .ok (.iload_n 1, 1) := by decide +kernel
theorem dX0_writeLevel_1 : decode cX0_writeLevel 1 = .ok (.iload_n 2, 1) := by decide +kernel
theorem dX0_writeLevel_2 : decode cX0_writeLevel 2 = .ok (.invokestatic 66, 3) := by decide +kernel
theorem dX0_writeLevel_5 : decode cX0_writeLevel 5 = .ok (.ifCond .ne 12, 3) := by decide +kernel
theorem dX0_writeLevel_8 : decode cX0_writeLevel 8 = .ok (.iload_n 3, 1) := by decide +kernel
theorem dX0_writeLevel_9 : decode cX0_writeLevel 9 = .ok (.iconst 0, 1) := by decide +kernel
theorem dX0_writeLevel_10 : decode cX0_writeLevel 10 = .ok (.iconst 2, 1) := by decide +kernel
theorem dX0_writeLevel_11 : decode cX0_writeLevel 11 = .ok (.invokestatic 70, 3) := by decide +kernel
theorem dX0_writeLevel_14 : decode cX0_writeLevel 14 = .ok (.ifCond .eq 6, 3) := by decide +kernel
theorem dX0_writeLevel_17 : decode cX0_writeLevel 17 = .ok (.ldc 74, 2) := by decide +kernel
theorem dX0_writeLevel_19 : decode cX0_writeLevel 19 = .ok (.ireturn, 1) := by decide +kernel
theorem dX0_writeLevel_20 : decode cX0_writeLevel 20 = .ok (.bipush 8, 2) := by decide +kernel
theorem dX0_writeLevel_22 : decode cX0_writeLevel 22 = .ok (.iload_n 1, 1) := by decide +kernel
theorem dX0_writeLevel_23 : decode cX0_writeLevel 23 = .ok (.imul, 1) := by decide +kernel
theorem dX0_writeLevel_24 : decode cX0_writeLevel 24 = .ok (.iload_n 2, 1) := by decide +kernel
theorem dX0_writeLevel_25 : decode cX0_writeLevel 25 = .ok (.iadd, 1) := by decide +kernel
theorem dX0_writeLevel_26 : decode cX0_writeLevel 26 = .ok (.istore 4, 2) := by decide +kernel
theorem dX0_writeLevel_28 : decode cX0_writeLevel 28 = .ok (.aload_n 0, 1) := by decide +kernel
theorem dX0_writeLevel_29 : decode cX0_writeLevel 29 = .ok (.iload 4, 2) := by decide +kernel
theorem dX0_writeLevel_31 : decode cX0_writeLevel 31 = .ok (.iload_n 3, 1) := by decide +kernel
theorem dX0_writeLevel_32 : decode cX0_writeLevel 32 = .ok (.invokevirtual 48, 3) := by decide +kernel
theorem dX0_writeLevel_35 : decode cX0_writeLevel 35 = .ok (.aload_n 0, 1) := by decide +kernel
theorem dX0_writeLevel_36 : decode cX0_writeLevel 36 = .ok (.getfield 15, 3) := by decide +kernel
theorem dX0_writeLevel_39 : decode cX0_writeLevel 39 = .ok (.iload 4, 2) := by decide +kernel
theorem dX0_writeLevel_41 : decode cX0_writeLevel 41 = .ok (.iaload, 1) := by decide +kernel
theorem dX0_writeLevel_42 : decode cX0_writeLevel 42 = .ok (.ireturn, 1) := by decide +kernel
theorem dX0_writeWord_0 : decode cX0_writeWord 0 = .ok (.iload_n 1, 1) := by decide +kernel
theorem dX0_writeWord_1 : decode cX0_writeWord 1 = .ok (.iconst 0, 1) := by decide +kernel
theorem dX0_writeWord_2 : decode cX0_writeWord 2 = .ok (.iconst 5, 1) := by decide +kernel
theorem dX0_writeWord_3 : decode cX0_writeWord 3 = .ok (.invokestatic 70, 3) := by decide +kernel
theorem dX0_writeWord_6 : decode cX0_writeWord 6 = .ok (.ifCond .ne 14, 3) := by decide +kernel
theorem dX0_writeWord_9 : decode cX0_writeWord 9 = .ok (.iload_n 2, 1) := by decide +kernel
theorem dX0_writeWord_10 : decode cX0_writeWord 10 = .ok (.iconst 0, 1) := by decide +kernel
theorem dX0_writeWord_11 : decode cX0_writeWord 11 = .ok (.sipush 6560, 3) := by decide +kernel
theorem dX0_writeWord_14 : decode cX0_writeWord 14 = .ok (.invokestatic 70, 3) := by decide +kernel
theorem dX0_writeWord_17 : decode cX0_writeWord 17 = .ok (.ifCond .eq 6, 3) := by decide +kernel
theorem dX0_writeWord_20 : decode cX0_writeWord 20 = .ok (.ldc 74, 2) := by decide +kernel
theorem dX0_writeWord_22 : decode cX0_writeWord 22 = .ok (.ireturn, 1) := by decide +kernel
theorem dX0_writeWord_23 : decode cX0_writeWord 23 = .ok (.aload_n 0, 1) := by decide +kernel
theorem dX0_writeWord_24 : decode cX0_writeWord 24 = .ok (.iload_n 1, 1) := by decide +kernel
theorem dX0_writeWord_25 : decode cX0_writeWord 25 = .ok (.invokevirtual 75, 3) := by decide +kernel
theorem dX0_writeWord_28 : decode cX0_writeWord 28 = .ok (.istore_n 3, 1) := by decide +kernel
theorem dX0_writeWord_29 : decode cX0_writeWord 29 = .ok (.iload_n 2, 1) := by decide +kernel
theorem dX0_writeWord_30 : decode cX0_writeWord 30 = .ok (.istore 4, 2) := by decide +kernel
theorem dX0_writeWord_32 : decode cX0_writeWord 32 = .ok (.iconst 0, 1) := by decide +kernel
theorem dX0_writeWord_33 : decode cX0_writeWord 33 = .ok (.istore 5, 2) := by decide +kernel
theorem dX0_writeWord_35 : decode cX0_writeWord 35 = .ok (.iload 5, 2) := by decide +kernel
theorem dX0_writeWord_37 : decode cX0_writeWord 37 = .ok (.bipush 8, 2) := by decide +kernel
theorem dX0_writeWord_39 : decode cX0_writeWord 39 = .ok (.if_icmp .ge 30, 3) := by decide +kernel
theorem dX0_writeWord_42 : decode cX0_writeWord 42 = .ok (.aload_n 0, 1) := by decide +kernel
theorem dX0_writeWord_43 : decode cX0_writeWord 43 = .ok (.bipush 8, 2) := by decide +kernel
theorem dX0_writeWord_45 : decode cX0_writeWord 45 = .ok (.iload_n 1, 1) := by decide +kernel
theorem dX0_writeWord_46 : decode cX0_writeWord 46 = .ok (.imul, 1) := by decide +kernel
theorem dX0_writeWord_47 : decode cX0_writeWord 47 = .ok (.iload 5, 2) := by decide +kernel
theorem dX0_writeWord_49 : decode cX0_writeWord 49 = .ok (.iadd, 1) := by decide +kernel
theorem dX0_writeWord_50 : decode cX0_writeWord 50 = .ok (.iload 4, 2) := by decide +kernel
theorem dX0_writeWord_52 : decode cX0_writeWord 52 = .ok (.iconst 3, 1) := by decide +kernel
theorem dX0_writeWord_53 : decode cX0_writeWord 53 = .ok (.irem, 1) := by decide +kernel
theorem dX0_writeWord_54 : decode cX0_writeWord 54 = .ok (.invokevirtual 48, 3) := by decide +kernel
theorem dX0_writeWord_57 : decode cX0_writeWord 57 = .ok (.iload 4, 2) := by decide +kernel
theorem dX0_writeWord_59 : decode cX0_writeWord 59 = .ok (.iconst 3, 1) := by decide +kernel
theorem dX0_writeWord_60 : decode cX0_writeWord 60 = .ok (.idiv, 1) := by decide +kernel
theorem dX0_writeWord_61 : decode cX0_writeWord 61 = .ok (.istore 4, 2) := by decide +kernel
theorem dX0_writeWord_63 : decode cX0_writeWord 63 = .ok (.iinc 5 1, 3) := by decide +kernel
theorem dX0_writeWord_66 : decode cX0_writeWord 66 = .ok (.goto (-31), 3) := by decide +kernel
theorem dX0_writeWord_69 : decode cX0_writeWord 69 = .ok (.iload_n 3, 1) := by decide +kernel
theorem dX0_writeWord_70 : decode cX0_writeWord 70 = .ok (.ireturn, 1) := by decide +kernel
theorem dX0_writeAnew_0 : decode cX0_writeAnew 0 = .ok (.iload_n 1, 1) := by decide +kernel
theorem dX0_writeAnew_1 : decode cX0_writeAnew 1 = .ok (.iconst 0, 1) := by decide +kernel
theorem dX0_writeAnew_2 : decode cX0_writeAnew 2 = .ok (.iconst 5, 1) := by decide +kernel
theorem dX0_writeAnew_3 : decode cX0_writeAnew 3 = .ok (.invokestatic 70, 3) := by decide +kernel
theorem dX0_writeAnew_6 : decode cX0_writeAnew 6 = .ok (.ifCond .eq 6, 3) := by decide +kernel
theorem dX0_writeAnew_9 : decode cX0_writeAnew 9 = .ok (.ldc 74, 2) := by decide +kernel
theorem dX0_writeAnew_11 : decode cX0_writeAnew 11 = .ok (.ireturn, 1) := by decide +kernel
theorem dX0_writeAnew_12 : decode cX0_writeAnew 12 = .ok (.aload_n 0, 1) := by decide +kernel
theorem dX0_writeAnew_13 : decode cX0_writeAnew 13 = .ok (.iload_n 1, 1) := by decide +kernel
theorem dX0_writeAnew_14 : decode cX0_writeAnew 14 = .ok (.iconst 0, 1) := by decide +kernel
theorem dX0_writeAnew_15 : decode cX0_writeAnew 15 = .ok (.invokevirtual 79, 3) := by decide +kernel
theorem dX0_writeAnew_18 : decode cX0_writeAnew 18 = .ok (.istore_n 2, 1) := by decide +kernel
theorem dX0_writeAnew_19 : decode cX0_writeAnew 19 = .ok (.aload_n 0, 1) := by decide +kernel
theorem dX0_writeAnew_20 : decode cX0_writeAnew 20 = .ok (.iload_n 1, 1) := by decide +kernel
theorem dX0_writeAnew_21 : decode cX0_writeAnew 21 = .ok (.iconst 1, 1) := by decide +kernel
theorem dX0_writeAnew_22 : decode cX0_writeAnew 22 = .ok (.invokevirtual 79, 3) := by decide +kernel
theorem dX0_writeAnew_25 : decode cX0_writeAnew 25 = .ok (.istore_n 3, 1) := by decide +kernel
theorem dX0_writeAnew_26 : decode cX0_writeAnew 26 = .ok (.iconst 0, 1) := by decide +kernel
theorem dX0_writeAnew_27 : decode cX0_writeAnew 27 = .ok (.istore 4, 2) := by decide +kernel
theorem dX0_writeAnew_29 : decode cX0_writeAnew 29 = .ok (.iconst 0, 1) := by decide +kernel
theorem dX0_writeAnew_30 : decode cX0_writeAnew 30 = .ok (.istore 5, 2) := by decide +kernel
theorem dX0_writeAnew_32 : decode cX0_writeAnew 32 = .ok (.iload 5, 2) := by decide +kernel
theorem dX0_writeAnew_34 : decode cX0_writeAnew 34 = .ok (.bipush 8, 2) := by decide +kernel
theorem dX0_writeAnew_36 : decode cX0_writeAnew 36 = .ok (.if_icmp .ge 55, 3) := by decide +kernel
theorem dX0_writeAnew_39 : decode cX0_writeAnew 39 = .ok (.bipush 8, 2) := by decide +kernel
theorem dX0_writeAnew_41 : decode cX0_writeAnew 41 = .ok (.iload_n 1, 1) := by decide +kernel
theorem dX0_writeAnew_42 : decode cX0_writeAnew 42 = .ok (.imul, 1) := by decide +kernel
theorem dX0_writeAnew_43 : decode cX0_writeAnew 43 = .ok (.iload 5, 2) := by decide +kernel
theorem dX0_writeAnew_45 : decode cX0_writeAnew 45 = .ok (.iadd, 1) := by decide +kernel
theorem dX0_writeAnew_46 : decode cX0_writeAnew 46 = .ok (.istore 6, 2) := by decide +kernel
theorem dX0_writeAnew_48 : decode cX0_writeAnew 48 = .ok (.aload_n 0, 1) := by decide +kernel
theorem dX0_writeAnew_49 : decode cX0_writeAnew 49 = .ok (.getfield 15, 3) := by decide +kernel
theorem dX0_writeAnew_52 : decode cX0_writeAnew 52 = .ok (.iload 6, 2) := by decide +kernel
theorem dX0_writeAnew_54 : decode cX0_writeAnew 54 = .ok (.iaload, 1) := by decide +kernel
theorem dX0_writeAnew_55 : decode cX0_writeAnew 55 = .ok (.iload_n 2, 1) := by decide +kernel
theorem dX0_writeAnew_56 : decode cX0_writeAnew 56 = .ok (.iload_n 3, 1) := by decide +kernel
theorem dX0_writeAnew_57 : decode cX0_writeAnew 57 = .ok (.invokestatic 83, 3) := by decide +kernel
theorem dX0_writeAnew_60 : decode cX0_writeAnew 60 = .ok (.istore 7, 2) := by decide +kernel
theorem dX0_writeAnew_62 : decode cX0_writeAnew 62 = .ok (.iload 7, 2) := by decide +kernel
theorem dX0_writeAnew_64 : decode cX0_writeAnew 64 = .ok (.aload_n 0, 1) := by decide +kernel
theorem dX0_writeAnew_65 : decode cX0_writeAnew 65 = .ok (.getfield 9, 3) := by decide +kernel
theorem dX0_writeAnew_68 : decode cX0_writeAnew 68 = .ok (.iload 6, 2) := by decide +kernel
theorem dX0_writeAnew_70 : decode cX0_writeAnew 70 = .ok (.iaload, 1) := by decide +kernel
theorem dX0_writeAnew_71 : decode cX0_writeAnew 71 = .ok (.if_icmp .eq 6, 3) := by decide +kernel
theorem dX0_writeAnew_74 : decode cX0_writeAnew 74 = .ok (.iinc 4 1, 3) := by decide +kernel
theorem dX0_writeAnew_77 : decode cX0_writeAnew 77 = .ok (.aload_n 0, 1) := by decide +kernel
theorem dX0_writeAnew_78 : decode cX0_writeAnew 78 = .ok (.iload 6, 2) := by decide +kernel
theorem dX0_writeAnew_80 : decode cX0_writeAnew 80 = .ok (.iload 7, 2) := by decide +kernel
theorem dX0_writeAnew_82 : decode cX0_writeAnew 82 = .ok (.invokevirtual 48, 3) := by decide +kernel
theorem dX0_writeAnew_85 : decode cX0_writeAnew 85 = .ok (.iinc 5 1, 3) := by decide +kernel
theorem dX0_writeAnew_88 : decode cX0_writeAnew 88 = .ok (.goto (-56), 3) := by decide +kernel
theorem dX0_writeAnew_91 : decode cX0_writeAnew 91 = .ok (.aload_n 0, 1) := by decide +kernel
theorem dX0_writeAnew_92 : decode cX0_writeAnew 92 = .ok (.iload_n 1, 1) := by decide +kernel
theorem dX0_writeAnew_93 : decode cX0_writeAnew 93 = .ok (.invokevirtual 52, 3) := by decide +kernel
theorem dX0_writeAnew_96 : decode cX0_writeAnew 96 = .ok (.aload_n 0, 1) := by decide +kernel
theorem dX0_writeAnew_97 : decode cX0_writeAnew 97 = .ok (.getfield 36, 3) := by decide +kernel
theorem dX0_writeAnew_100 : decode cX0_writeAnew 100 = .ok (.iload_n 1, 1) := by decide +kernel
theorem dX0_writeAnew_101 : decode cX0_writeAnew 101 = .ok (.dup2, 1) := by decide +kernel
theorem dX0_writeAnew_102 : decode cX0_writeAnew 102 = .ok (.iaload, 1) := by decide +kernel
theorem dX0_writeAnew_103 : decode cX0_writeAnew 103 = .ok (.iload 4, 2) := by decide +kernel
theorem dX0_writeAnew_105 : decode cX0_writeAnew 105 = .ok (.iadd, 1) := by decide +kernel
theorem dX0_writeAnew_106 : decode cX0_writeAnew 106 = .ok (.iastore, 1) := by decide +kernel
theorem dX0_writeAnew_107 : decode cX0_writeAnew 107 = .ok (.aload_n 0, 1) := by decide +kernel
theorem dX0_writeAnew_108 : decode cX0_writeAnew 108 = .ok (.getfield 39, 3) := by decide +kernel
theorem dX0_writeAnew_111 : decode cX0_writeAnew 111 = .ok (.iload_n 1, 1) := by decide +kernel
theorem dX0_writeAnew_112 : decode cX0_writeAnew 112 = .ok (.dup2, 1) := by decide +kernel
theorem dX0_writeAnew_113 : decode cX0_writeAnew 113 = .ok (.iaload, 1) := by decide +kernel
theorem dX0_writeAnew_114 : decode cX0_writeAnew 114 = .ok (.iconst 1, 1) := by decide +kernel
theorem dX0_writeAnew_115 : decode cX0_writeAnew 115 = .ok (.iadd, 1) := by decide +kernel
theorem dX0_writeAnew_116 : decode cX0_writeAnew 116 = .ok (.iastore, 1) := by decide +kernel
theorem dX0_writeAnew_117 : decode cX0_writeAnew 117 = .ok (.iload 4, 2) := by decide +kernel
theorem dX0_writeAnew_119 : decode cX0_writeAnew 119 = .ok (.ireturn, 1) := by decide +kernel
theorem dX0_askCell_0 : decode cX0_askCell 0 = .ok (.iload_n 1, 1) := by decide +kernel
theorem dX0_askCell_1 : decode cX0_askCell 1 = .ok (.iload_n 2, 1) := by decide +kernel
theorem dX0_askCell_2 : decode cX0_askCell 2 = .ok (.invokestatic 66, 3) := by decide +kernel
theorem dX0_askCell_5 : decode cX0_askCell 5 = .ok (.ifCond .eq 6, 3) := by decide +kernel
theorem dX0_askCell_8 : decode cX0_askCell 8 = .ok (.ldc 74, 2) := by decide +kernel
theorem dX0_askCell_10 : decode cX0_askCell 10 = .ok (.ireturn, 1) := by decide +kernel
theorem dX0_askCell_11 : decode cX0_askCell 11 = .ok (.bipush 8, 2) := by decide +kernel
theorem dX0_askCell_13 : decode cX0_askCell 13 = .ok (.iload_n 1, 1) := by decide +kernel
theorem dX0_askCell_14 : decode cX0_askCell 14 = .ok (.imul, 1) := by decide +kernel
theorem dX0_askCell_15 : decode cX0_askCell 15 = .ok (.iload_n 2, 1) := by decide +kernel
theorem dX0_askCell_16 : decode cX0_askCell 16 = .ok (.iadd, 1) := by decide +kernel
theorem dX0_askCell_17 : decode cX0_askCell 17 = .ok (.istore_n 3, 1) := by decide +kernel
theorem dX0_askCell_18 : decode cX0_askCell 18 = .ok (.aload_n 0, 1) := by decide +kernel
theorem dX0_askCell_19 : decode cX0_askCell 19 = .ok (.getfield 15, 3) := by decide +kernel
theorem dX0_askCell_22 : decode cX0_askCell 22 = .ok (.iload_n 3, 1) := by decide +kernel
theorem dX0_askCell_23 : decode cX0_askCell 23 = .ok (.iaload, 1) := by decide +kernel
theorem dX0_askCell_24 : decode cX0_askCell 24 = .ok (.aload_n 0, 1) := by decide +kernel
theorem dX0_askCell_25 : decode cX0_askCell 25 = .ok (.iload_n 1, 1) := by decide +kernel
theorem dX0_askCell_26 : decode cX0_askCell 26 = .ok (.iconst 0, 1) := by decide +kernel
theorem dX0_askCell_27 : decode cX0_askCell 27 = .ok (.invokevirtual 79, 3) := by decide +kernel
theorem dX0_askCell_30 : decode cX0_askCell 30 = .ok (.aload_n 0, 1) := by decide +kernel
theorem dX0_askCell_31 : decode cX0_askCell 31 = .ok (.iload_n 1, 1) := by decide +kernel
theorem dX0_askCell_32 : decode cX0_askCell 32 = .ok (.iconst 1, 1) := by decide +kernel
theorem dX0_askCell_33 : decode cX0_askCell 33 = .ok (.invokevirtual 79, 3) := by decide +kernel
theorem dX0_askCell_36 : decode cX0_askCell 36 = .ok (.invokestatic 83, 3) := by decide +kernel
theorem dX0_askCell_39 : decode cX0_askCell 39 = .ok (.istore 4, 2) := by decide +kernel
theorem dX0_askCell_41 : decode cX0_askCell 41 = .ok (.aload_n 0, 1) := by decide +kernel
theorem dX0_askCell_42 : decode cX0_askCell 42 = .ok (.getfield 42, 3) := by decide +kernel
theorem dX0_askCell_45 : decode cX0_askCell 45 = .ok (.iconst 3, 1) := by decide +kernel
theorem dX0_askCell_46 : decode cX0_askCell 46 = .ok (.aload_n 0, 1) := by decide +kernel
theorem dX0_askCell_47 : decode cX0_askCell 47 = .ok (.getfield 9, 3) := by decide +kernel
theorem dX0_askCell_50 : decode cX0_askCell 50 = .ok (.iload_n 3, 1) := by decide +kernel
theorem dX0_askCell_51 : decode cX0_askCell 51 = .ok (.iaload, 1) := by decide +kernel
theorem dX0_askCell_52 : decode cX0_askCell 52 = .ok (.imul, 1) := by decide +kernel
theorem dX0_askCell_53 : decode cX0_askCell 53 = .ok (.iload 4, 2) := by decide +kernel
theorem dX0_askCell_55 : decode cX0_askCell 55 = .ok (.iadd, 1) := by decide +kernel
theorem dX0_askCell_56 : decode cX0_askCell 56 = .ok (.dup2, 1) := by decide +kernel
theorem dX0_askCell_57 : decode cX0_askCell 57 = .ok (.iaload, 1) := by decide +kernel
theorem dX0_askCell_58 : decode cX0_askCell 58 = .ok (.iconst 1, 1) := by decide +kernel
theorem dX0_askCell_59 : decode cX0_askCell 59 = .ok (.iadd, 1) := by decide +kernel
theorem dX0_askCell_60 : decode cX0_askCell 60 = .ok (.iastore, 1) := by decide +kernel
theorem dX0_askCell_61 : decode cX0_askCell 61 = .ok (.iload 4, 2) := by decide +kernel
theorem dX0_askCell_63 : decode cX0_askCell 63 = .ok (.ireturn, 1) := by decide +kernel
theorem dX0_failGuard_0 : decode cX0_failGuard 0 = .ok (.iload_n 1, 1) := by decide +kernel
theorem dX0_failGuard_1 : decode cX0_failGuard 1 = .ok (.iload_n 2, 1) := by decide +kernel
theorem dX0_failGuard_2 : decode cX0_failGuard 2 = .ok (.invokestatic 87, 3) := by decide +kernel
theorem dX0_failGuard_5 : decode cX0_failGuard 5 = .ok (.ifCond .ne 14, 3) := by decide +kernel
theorem dX0_failGuard_8 : decode cX0_failGuard 8 = .ok (.iload_n 3, 1) := by decide +kernel
theorem dX0_failGuard_9 : decode cX0_failGuard 9 = .ok (.iconst 0, 1) := by decide +kernel
theorem dX0_failGuard_10 : decode cX0_failGuard 10 = .ok (.sipush 999, 3) := by decide +kernel
theorem dX0_failGuard_13 : decode cX0_failGuard 13 = .ok (.invokestatic 70, 3) := by decide +kernel
theorem dX0_failGuard_16 : decode cX0_failGuard 16 = .ok (.ifCond .eq 6, 3) := by decide +kernel
theorem dX0_failGuard_19 : decode cX0_failGuard 19 = .ok (.ldc 74, 2) := by decide +kernel
theorem dX0_failGuard_21 : decode cX0_failGuard 21 = .ok (.ireturn, 1) := by decide +kernel
theorem dX0_failGuard_22 : decode cX0_failGuard 22 = .ok (.iconst 3, 1) := by decide +kernel
theorem dX0_failGuard_23 : decode cX0_failGuard 23 = .ok (.iload_n 1, 1) := by decide +kernel
theorem dX0_failGuard_24 : decode cX0_failGuard 24 = .ok (.imul, 1) := by decide +kernel
theorem dX0_failGuard_25 : decode cX0_failGuard 25 = .ok (.iload_n 2, 1) := by decide +kernel
theorem dX0_failGuard_26 : decode cX0_failGuard 26 = .ok (.iadd, 1) := by decide +kernel
theorem dX0_failGuard_27 : decode cX0_failGuard 27 = .ok (.istore 4, 2) := by decide +kernel
theorem dX0_failGuard_29 : decode cX0_failGuard 29 = .ok (.aload_n 0, 1) := by decide +kernel
theorem dX0_failGuard_30 : decode cX0_failGuard 30 = .ok (.getfield 27, 3) := by decide +kernel
theorem dX0_failGuard_33 : decode cX0_failGuard 33 = .ok (.iload 4, 2) := by decide +kernel
theorem dX0_failGuard_35 : decode cX0_failGuard 35 = .ok (.iaload, 1) := by decide +kernel
theorem dX0_failGuard_36 : decode cX0_failGuard 36 = .ok (.iconst 1, 1) := by decide +kernel
theorem dX0_failGuard_37 : decode cX0_failGuard 37 = .ok (.if_icmp .ne 6, 3) := by decide +kernel
theorem dX0_failGuard_40 : decode cX0_failGuard 40 = .ok (.ldc 90, 2) := by decide +kernel
theorem dX0_failGuard_42 : decode cX0_failGuard 42 = .ok (.ireturn, 1) := by decide +kernel
theorem dX0_failGuard_43 : decode cX0_failGuard 43 = .ok (.aload_n 0, 1) := by decide +kernel
theorem dX0_failGuard_44 : decode cX0_failGuard 44 = .ok (.getfield 24, 3) := by decide +kernel
theorem dX0_failGuard_47 : decode cX0_failGuard 47 = .ok (.iload 4, 2) := by decide +kernel
theorem dX0_failGuard_49 : decode cX0_failGuard 49 = .ok (.iaload, 1) := by decide +kernel
theorem dX0_failGuard_50 : decode cX0_failGuard 50 = .ok (.istore 5, 2) := by decide +kernel
theorem dX0_failGuard_52 : decode cX0_failGuard 52 = .ok (.aload_n 0, 1) := by decide +kernel
theorem dX0_failGuard_53 : decode cX0_failGuard 53 = .ok (.getfield 27, 3) := by decide +kernel
theorem dX0_failGuard_56 : decode cX0_failGuard 56 = .ok (.iload 4, 2) := by decide +kernel
theorem dX0_failGuard_58 : decode cX0_failGuard 58 = .ok (.iconst 1, 1) := by decide +kernel
theorem dX0_failGuard_59 : decode cX0_failGuard 59 = .ok (.iastore, 1) := by decide +kernel
theorem dX0_failGuard_60 : decode cX0_failGuard 60 = .ok (.aload_n 0, 1) := by decide +kernel
theorem dX0_failGuard_61 : decode cX0_failGuard 61 = .ok (.getfield 24, 3) := by decide +kernel
theorem dX0_failGuard_64 : decode cX0_failGuard 64 = .ok (.iload 4, 2) := by decide +kernel
theorem dX0_failGuard_66 : decode cX0_failGuard 66 = .ok (.iload_n 3, 1) := by decide +kernel
theorem dX0_failGuard_67 : decode cX0_failGuard 67 = .ok (.iastore, 1) := by decide +kernel
theorem dX0_failGuard_68 : decode cX0_failGuard 68 = .ok (.iload 5, 2) := by decide +kernel
theorem dX0_failGuard_70 : decode cX0_failGuard 70 = .ok (.ireturn, 1) := by decide +kernel
theorem dX0_mendGuard_0 : decode cX0_mendGuard 0 = .ok (.iload_n 1, 1) := by decide +kernel
theorem dX0_mendGuard_1 : decode cX0_mendGuard 1 = .ok (.iload_n 2, 1) := by decide +kernel
theorem dX0_mendGuard_2 : decode cX0_mendGuard 2 = .ok (.invokestatic 87, 3) := by decide +kernel
theorem dX0_mendGuard_5 : decode cX0_mendGuard 5 = .ok (.ifCond .eq 6, 3) := by decide +kernel
theorem dX0_mendGuard_8 : decode cX0_mendGuard 8 = .ok (.ldc 74, 2) := by decide +kernel
theorem dX0_mendGuard_10 : decode cX0_mendGuard 10 = .ok (.ireturn, 1) := by decide +kernel
theorem dX0_mendGuard_11 : decode cX0_mendGuard 11 = .ok (.iconst 3, 1) := by decide +kernel
theorem dX0_mendGuard_12 : decode cX0_mendGuard 12 = .ok (.iload_n 1, 1) := by decide +kernel
theorem dX0_mendGuard_13 : decode cX0_mendGuard 13 = .ok (.imul, 1) := by decide +kernel
theorem dX0_mendGuard_14 : decode cX0_mendGuard 14 = .ok (.iload_n 2, 1) := by decide +kernel
theorem dX0_mendGuard_15 : decode cX0_mendGuard 15 = .ok (.iadd, 1) := by decide +kernel
theorem dX0_mendGuard_16 : decode cX0_mendGuard 16 = .ok (.istore_n 3, 1) := by decide +kernel
theorem dX0_mendGuard_17 : decode cX0_mendGuard 17 = .ok (.aload_n 0, 1) := by decide +kernel
theorem dX0_mendGuard_18 : decode cX0_mendGuard 18 = .ok (.getfield 27, 3) := by decide +kernel
theorem dX0_mendGuard_21 : decode cX0_mendGuard 21 = .ok (.iload_n 3, 1) := by decide +kernel
theorem dX0_mendGuard_22 : decode cX0_mendGuard 22 = .ok (.iaload, 1) := by decide +kernel
theorem dX0_mendGuard_23 : decode cX0_mendGuard 23 = .ok (.ifCond .ne 6, 3) := by decide +kernel
theorem dX0_mendGuard_26 : decode cX0_mendGuard 26 = .ok (.ldc 90, 2) := by decide +kernel
theorem dX0_mendGuard_28 : decode cX0_mendGuard 28 = .ok (.ireturn, 1) := by decide +kernel
theorem dX0_mendGuard_29 : decode cX0_mendGuard 29 = .ok (.aload_n 0, 1) := by decide +kernel
theorem dX0_mendGuard_30 : decode cX0_mendGuard 30 = .ok (.getfield 27, 3) := by decide +kernel
theorem dX0_mendGuard_33 : decode cX0_mendGuard 33 = .ok (.iload_n 3, 1) := by decide +kernel
theorem dX0_mendGuard_34 : decode cX0_mendGuard 34 = .ok (.iconst 0, 1) := by decide +kernel
theorem dX0_mendGuard_35 : decode cX0_mendGuard 35 = .ok (.iastore, 1) := by decide +kernel
theorem dX0_mendGuard_36 : decode cX0_mendGuard 36 = .ok (.aload_n 0, 1) := by decide +kernel
theorem dX0_mendGuard_37 : decode cX0_mendGuard 37 = .ok (.getfield 24, 3) := by decide +kernel
theorem dX0_mendGuard_40 : decode cX0_mendGuard 40 = .ok (.iload_n 3, 1) := by decide +kernel
theorem dX0_mendGuard_41 : decode cX0_mendGuard 41 = .ok (.iaload, 1) := by decide +kernel
theorem dX0_mendGuard_42 : decode cX0_mendGuard 42 = .ok (.ireturn, 1) := by decide +kernel
theorem dX0_changeRate_0 : decode cX0_changeRate 0 = .ok (.iload_n 1, 1) := by decide +kernel
theorem dX0_changeRate_1 : decode cX0_changeRate 1 = .ok (.iconst 0, 1) := by decide +kernel
theorem dX0_changeRate_2 : decode cX0_changeRate 2 = .ok (.iconst 5, 1) := by decide +kernel
theorem dX0_changeRate_3 : decode cX0_changeRate 3 = .ok (.invokestatic 70, 3) := by decide +kernel
theorem dX0_changeRate_6 : decode cX0_changeRate 6 = .ok (.ifCond .ne 14, 3) := by decide +kernel
theorem dX0_changeRate_9 : decode cX0_changeRate 9 = .ok (.iload_n 2, 1) := by decide +kernel
theorem dX0_changeRate_10 : decode cX0_changeRate 10 = .ok (.iconst 1, 1) := by decide +kernel
theorem dX0_changeRate_11 : decode cX0_changeRate 11 = .ok (.sipush 200, 3) := by decide +kernel
theorem dX0_changeRate_14 : decode cX0_changeRate 14 = .ok (.invokestatic 70, 3) := by decide +kernel
theorem dX0_changeRate_17 : decode cX0_changeRate 17 = .ok (.ifCond .eq 6, 3) := by decide +kernel
theorem dX0_changeRate_20 : decode cX0_changeRate 20 = .ok (.ldc 74, 2) := by decide +kernel
theorem dX0_changeRate_22 : decode cX0_changeRate 22 = .ok (.ireturn, 1) := by decide +kernel
theorem dX0_changeRate_23 : decode cX0_changeRate 23 = .ok (.aload_n 0, 1) := by decide +kernel
theorem dX0_changeRate_24 : decode cX0_changeRate 24 = .ok (.getfield 30, 3) := by decide +kernel
theorem dX0_changeRate_27 : decode cX0_changeRate 27 = .ok (.iload_n 1, 1) := by decide +kernel
theorem dX0_changeRate_28 : decode cX0_changeRate 28 = .ok (.iaload, 1) := by decide +kernel
theorem dX0_changeRate_29 : decode cX0_changeRate 29 = .ok (.istore_n 3, 1) := by decide +kernel
theorem dX0_changeRate_30 : decode cX0_changeRate 30 = .ok (.aload_n 0, 1) := by decide +kernel
theorem dX0_changeRate_31 : decode cX0_changeRate 31 = .ok (.getfield 30, 3) := by decide +kernel
theorem dX0_changeRate_34 : decode cX0_changeRate 34 = .ok (.iload_n 1, 1) := by decide +kernel
theorem dX0_changeRate_35 : decode cX0_changeRate 35 = .ok (.iload_n 2, 1) := by decide +kernel
theorem dX0_changeRate_36 : decode cX0_changeRate 36 = .ok (.iastore, 1) := by decide +kernel
theorem dX0_changeRate_37 : decode cX0_changeRate 37 = .ok (.iload_n 3, 1) := by decide +kernel
theorem dX0_changeRate_38 : decode cX0_changeRate 38 = .ok (.ireturn, 1) := by decide +kernel
theorem dX0_passDays_0 : decode cX0_passDays 0 = .ok (.iload_n 1, 1) := by decide +kernel
theorem dX0_passDays_1 : decode cX0_passDays 1 = .ok (.iconst 1, 1) := by decide +kernel
theorem dX0_passDays_2 : decode cX0_passDays 2 = .ok (.bipush 99, 2) := by decide +kernel
theorem dX0_passDays_4 : decode cX0_passDays 4 = .ok (.invokestatic 70, 3) := by decide +kernel
theorem dX0_passDays_7 : decode cX0_passDays 7 = .ok (.ifCond .eq 6, 3) := by decide +kernel
theorem dX0_passDays_10 : decode cX0_passDays 10 = .ok (.ldc 74, 2) := by decide +kernel
theorem dX0_passDays_12 : decode cX0_passDays 12 = .ok (.ireturn, 1) := by decide +kernel
theorem dX0_passDays_13 : decode cX0_passDays 13 = .ok (.aload_n 0, 1) := by decide +kernel
theorem dX0_passDays_14 : decode cX0_passDays 14 = .ok (.getfield 62, 3) := by decide +kernel
theorem dX0_passDays_17 : decode cX0_passDays 17 = .ok (.iload_n 2, 1) := by decide +kernel
theorem dX0_passDays_18 : decode cX0_passDays 18 = .ok (.iload_n 1, 1) := by decide +kernel
theorem dX0_passDays_19 : decode cX0_passDays 19 = .ok (.isub, 1) := by decide +kernel
theorem dX0_passDays_20 : decode cX0_passDays 20 = .ok (.if_icmp .le 6, 3) := by decide +kernel
theorem dX0_passDays_23 : decode cX0_passDays 23 = .ok (.ldc 91, 2) := by decide +kernel
theorem dX0_passDays_25 : decode cX0_passDays 25 = .ok (.ireturn, 1) := by decide +kernel
theorem dX0_passDays_26 : decode cX0_passDays 26 = .ok (.iconst 0, 1) := by decide +kernel
theorem dX0_passDays_27 : decode cX0_passDays 27 = .ok (.istore_n 3, 1) := by decide +kernel
theorem dX0_passDays_28 : decode cX0_passDays 28 = .ok (.iconst 0, 1) := by decide +kernel
theorem dX0_passDays_29 : decode cX0_passDays 29 = .ok (.istore 4, 2) := by decide +kernel
theorem dX0_passDays_31 : decode cX0_passDays 31 = .ok (.iload 4, 2) := by decide +kernel
theorem dX0_passDays_33 : decode cX0_passDays 33 = .ok (.iload_n 1, 1) := by decide +kernel
theorem dX0_passDays_34 : decode cX0_passDays 34 = .ok (.if_icmp .ge 72, 3) := by decide +kernel
theorem dX0_passDays_37 : decode cX0_passDays 37 = .ok (.aload_n 0, 1) := by decide +kernel
theorem dX0_passDays_38 : decode cX0_passDays 38 = .ok (.invokevirtual 92, 3) := by decide +kernel
theorem dX0_passDays_41 : decode cX0_passDays 41 = .ok (.aload_n 0, 1) := by decide +kernel
theorem dX0_passDays_42 : decode cX0_passDays 42 = .ok (.dup, 1) := by decide +kernel
theorem dX0_passDays_43 : decode cX0_passDays 43 = .ok (.getfield 62, 3) := by decide +kernel
theorem dX0_passDays_46 : decode cX0_passDays 46 = .ok (.iconst 1, 1) := by decide +kernel
theorem dX0_passDays_47 : decode cX0_passDays 47 = .ok (.iadd, 1) := by decide +kernel
theorem dX0_passDays_48 : decode cX0_passDays 48 = .ok (.putfield 62, 3) := by decide +kernel
theorem dX0_passDays_51 : decode cX0_passDays 51 = .ok (.iconst 0, 1) := by decide +kernel
theorem dX0_passDays_52 : decode cX0_passDays 52 = .ok (.istore 5, 2) := by decide +kernel
theorem dX0_passDays_54 : decode cX0_passDays 54 = .ok (.iload 5, 2) := by decide +kernel
theorem dX0_passDays_56 : decode cX0_passDays 56 = .ok (.bipush 6, 2) := by decide +kernel
theorem dX0_passDays_58 : decode cX0_passDays 58 = .ok (.if_icmp .ge 42, 3) := by decide +kernel
theorem dX0_passDays_61 : decode cX0_passDays 61 = .ok (.aload_n 0, 1) := by decide +kernel
theorem dX0_passDays_62 : decode cX0_passDays 62 = .ok (.getfield 45, 3) := by decide +kernel
theorem dX0_passDays_65 : decode cX0_passDays 65 = .ok (.iconst 2, 1) := by decide +kernel
theorem dX0_passDays_66 : decode cX0_passDays 66 = .ok (.iaload, 1) := by decide +kernel
theorem dX0_passDays_67 : decode cX0_passDays 67 = .ok (.ifCond .le 27, 3) := by decide +kernel
theorem dX0_passDays_70 : decode cX0_passDays 70 = .ok (.aload_n 0, 1) := by decide +kernel
theorem dX0_passDays_71 : decode cX0_passDays 71 = .ok (.iload 5, 2) := by decide +kernel
theorem dX0_passDays_73 : decode cX0_passDays 73 = .ok (.invokevirtual 95, 3) := by decide +kernel
theorem dX0_passDays_76 : decode cX0_passDays 76 = .ok (.aload_n 0, 1) := by decide +kernel
theorem dX0_passDays_77 : decode cX0_passDays 77 = .ok (.getfield 45, 3) := by decide +kernel
theorem dX0_passDays_80 : decode cX0_passDays 80 = .ok (.iconst 2, 1) := by decide +kernel
theorem dX0_passDays_81 : decode cX0_passDays 81 = .ok (.iaload, 1) := by decide +kernel
theorem dX0_passDays_82 : decode cX0_passDays 82 = .ok (.if_icmp .lt 12, 3) := by decide +kernel
theorem dX0_passDays_85 : decode cX0_passDays 85 = .ok (.iload_n 3, 1) := by decide +kernel
theorem dX0_passDays_86 : decode cX0_passDays 86 = .ok (.aload_n 0, 1) := by decide +kernel
theorem dX0_passDays_87 : decode cX0_passDays 87 = .ok (.iload 5, 2) := by decide +kernel
theorem dX0_passDays_89 : decode cX0_passDays 89 = .ok (.invokevirtual 98, 3) := by decide +kernel
theorem dX0_passDays_92 : decode cX0_passDays 92 = .ok (.iadd, 1) := by decide +kernel
theorem dX0_passDays_93 : decode cX0_passDays 93 = .ok (.istore_n 3, 1) := by decide +kernel
theorem dX0_passDays_94 : decode cX0_passDays 94 = .ok (.iinc 5 1, 3) := by decide +kernel
theorem dX0_passDays_97 : decode cX0_passDays 97 = .ok (.goto (-43), 3) := by decide +kernel
theorem dX0_passDays_100 : decode cX0_passDays 100 = .ok (.iinc 4 1, 3) := by decide +kernel
theorem dX0_passDays_103 : decode cX0_passDays 103 = .ok (.goto (-72), 3) := by decide +kernel
theorem dX0_passDays_106 : decode cX0_passDays 106 = .ok (.iload_n 3, 1) := by decide +kernel
theorem dX0_passDays_107 : decode cX0_passDays 107 = .ok (.ireturn, 1) := by decide +kernel
theorem dX0_changeSetting_0 : decode cX0_changeSetting 0 = .ok (.iload_n 1, 1) := by decide +kernel
theorem dX0_changeSetting_1 : decode cX0_changeSetting 1 = .ok (.iconst 0, 1) := by decide +kernel
theorem dX0_changeSetting_2 : decode cX0_changeSetting 2 = .ok (.iconst 2, 1) := by decide +kernel
theorem dX0_changeSetting_3 : decode cX0_changeSetting 3 = .ok (.invokestatic 70, 3) := by decide +kernel
theorem dX0_changeSetting_6 : decode cX0_changeSetting 6 = .ok (.ifCond .ne 11, 3) := by decide +kernel
theorem dX0_changeSetting_9 : decode cX0_changeSetting 9 = .ok (.iload_n 1, 1) := by decide +kernel
theorem dX0_changeSetting_10 : decode cX0_changeSetting 10 = .ok (.iload_n 2, 1) := by decide +kernel
theorem dX0_changeSetting_11 : decode cX0_changeSetting 11 = .ok (.invokestatic 101, 3) := by decide +kernel
theorem dX0_changeSetting_14 : decode cX0_changeSetting 14 = .ok (.ifCond .eq 6, 3) := by decide +kernel
theorem dX0_changeSetting_17 : decode cX0_changeSetting 17 = .ok (.ldc 74, 2) := by decide +kernel
theorem dX0_changeSetting_19 : decode cX0_changeSetting 19 = .ok (.ireturn, 1) := by decide +kernel
theorem dX0_changeSetting_20 : decode cX0_changeSetting 20 = .ok (.aload_n 0, 1) := by decide +kernel
theorem dX0_changeSetting_21 : decode cX0_changeSetting 21 = .ok (.getfield 45, 3) := by decide +kernel
theorem dX0_changeSetting_24 : decode cX0_changeSetting 24 = .ok (.iload_n 1, 1) := by decide +kernel
theorem dX0_changeSetting_25 : decode cX0_changeSetting 25 = .ok (.iaload, 1) := by decide +kernel
theorem dX0_changeSetting_26 : decode cX0_changeSetting 26 = .ok (.istore_n 3, 1) := by decide +kernel
theorem dX0_changeSetting_27 : decode cX0_changeSetting 27 = .ok (.aload_n 0, 1) := by decide +kernel
theorem dX0_changeSetting_28 : decode cX0_changeSetting 28 = .ok (.getfield 45, 3) := by decide +kernel
theorem dX0_changeSetting_31 : decode cX0_changeSetting 31 = .ok (.iload_n 1, 1) := by decide +kernel
theorem dX0_changeSetting_32 : decode cX0_changeSetting 32 = .ok (.iload_n 2, 1) := by decide +kernel
theorem dX0_changeSetting_33 : decode cX0_changeSetting 33 = .ok (.iastore, 1) := by decide +kernel
theorem dX0_changeSetting_34 : decode cX0_changeSetting 34 = .ok (.iload_n 3, 1) := by decide +kernel
theorem dX0_changeSetting_35 : decode cX0_changeSetting 35 = .ok (.ireturn, 1) := by decide +kernel
theorem dX0_numberOfCell_0 : decode cX0_numberOfCell 0 = .ok (.iload_n 1, 1) := by decide +kernel
theorem dX0_numberOfCell_1 : decode cX0_numberOfCell 1 = .ok (.iload_n 2, 1) := by decide +kernel
theorem dX0_numberOfCell_2 : decode cX0_numberOfCell 2 = .ok (.invokestatic 66, 3) := by decide +kernel
theorem dX0_numberOfCell_5 : decode cX0_numberOfCell 5 = .ok (.ifCond .eq 6, 3) := by decide +kernel
theorem dX0_numberOfCell_8 : decode cX0_numberOfCell 8 = .ok (.ldc 74, 2) := by decide +kernel
theorem dX0_numberOfCell_10 : decode cX0_numberOfCell 10 = .ok (.ireturn, 1) := by decide +kernel
theorem dX0_numberOfCell_11 : decode cX0_numberOfCell 11 = .ok (.bipush 8, 2) := by decide +kernel
theorem dX0_numberOfCell_13 : decode cX0_numberOfCell 13 = .ok (.iload_n 1, 1) := by decide +kernel
theorem dX0_numberOfCell_14 : decode cX0_numberOfCell 14 = .ok (.imul, 1) := by decide +kernel
theorem dX0_numberOfCell_15 : decode cX0_numberOfCell 15 = .ok (.iload_n 2, 1) := by decide +kernel
theorem dX0_numberOfCell_16 : decode cX0_numberOfCell 16 = .ok (.iadd, 1) := by decide +kernel
theorem dX0_numberOfCell_17 : decode cX0_numberOfCell 17 = .ok (.istore 4, 2) := by decide +kernel
theorem dX0_numberOfCell_19 : decode cX0_numberOfCell 19 = .ok (.aload_n 0, 1) := by decide +kernel
theorem dX0_numberOfCell_20 : decode cX0_numberOfCell 20 = .ok (.iload_n 1, 1) := by decide +kernel
theorem dX0_numberOfCell_21 : decode cX0_numberOfCell 21 = .ok (.iconst 0, 1) := by decide +kernel
theorem dX0_numberOfCell_22 : decode cX0_numberOfCell 22 = .ok (.invokevirtual 79, 3) := by decide +kernel
theorem dX0_numberOfCell_25 : decode cX0_numberOfCell 25 = .ok (.istore 5, 2) := by decide +kernel
theorem dX0_numberOfCell_27 : decode cX0_numberOfCell 27 = .ok (.aload_n 0, 1) := by decide +kernel
theorem dX0_numberOfCell_28 : decode cX0_numberOfCell 28 = .ok (.iload_n 1, 1) := by decide +kernel
theorem dX0_numberOfCell_29 : decode cX0_numberOfCell 29 = .ok (.iconst 1, 1) := by decide +kernel
theorem dX0_numberOfCell_30 : decode cX0_numberOfCell 30 = .ok (.invokevirtual 79, 3) := by decide +kernel
theorem dX0_numberOfCell_33 : decode cX0_numberOfCell 33 = .ok (.istore 6, 2) := by decide +kernel
theorem dX0_numberOfCell_35 : decode cX0_numberOfCell 35 = .ok (.iload_n 3, 1) := by decide +kernel
theorem dX0_numberOfCell_36 : decode cX0_numberOfCell 36 = .ok (.tableswitch 170 0 7 #[48, 56, 64, 79, 102, 119, 127, 157], 48) := by decide +kernel
theorem dX0_numberOfCell_84 : decode cX0_numberOfCell 84 = .ok (.aload_n 0, 1) := by decide +kernel
theorem dX0_numberOfCell_85 : decode cX0_numberOfCell 85 = .ok (.getfield 9, 3) := by decide +kernel
theorem dX0_numberOfCell_88 : decode cX0_numberOfCell 88 = .ok (.iload 4, 2) := by decide +kernel
theorem dX0_numberOfCell_90 : decode cX0_numberOfCell 90 = .ok (.iaload, 1) := by decide +kernel
theorem dX0_numberOfCell_91 : decode cX0_numberOfCell 91 = .ok (.ireturn, 1) := by decide +kernel
theorem dX0_numberOfCell_92 : decode cX0_numberOfCell 92 = .ok (.aload_n 0, 1) := by decide +kernel
theorem dX0_numberOfCell_93 : decode cX0_numberOfCell 93 = .ok (.getfield 15, 3) := by decide +kernel
theorem dX0_numberOfCell_96 : decode cX0_numberOfCell 96 = .ok (.iload 4, 2) := by decide +kernel
theorem dX0_numberOfCell_98 : decode cX0_numberOfCell 98 = .ok (.iaload, 1) := by decide +kernel
theorem dX0_numberOfCell_99 : decode cX0_numberOfCell 99 = .ok (.ireturn, 1) := by decide +kernel
theorem dX0_numberOfCell_100 : decode cX0_numberOfCell 100 = .ok (.aload_n 0, 1) := by decide +kernel
theorem dX0_numberOfCell_101 : decode cX0_numberOfCell 101 = .ok (.getfield 15, 3) := by decide +kernel
theorem dX0_numberOfCell_104 : decode cX0_numberOfCell 104 = .ok (.iload 4, 2) := by decide +kernel
theorem dX0_numberOfCell_106 : decode cX0_numberOfCell 106 = .ok (.iaload, 1) := by decide +kernel
theorem dX0_numberOfCell_107 : decode cX0_numberOfCell 107 = .ok (.iload 5, 2) := by decide +kernel
theorem dX0_numberOfCell_109 : decode cX0_numberOfCell 109 = .ok (.iload 6, 2) := by decide +kernel
theorem dX0_numberOfCell_111 : decode cX0_numberOfCell 111 = .ok (.invokestatic 83, 3) := by decide +kernel
theorem dX0_numberOfCell_114 : decode cX0_numberOfCell 114 = .ok (.ireturn, 1) := by decide +kernel
theorem dX0_numberOfCell_115 : decode cX0_numberOfCell 115 = .ok (.aload_n 0, 1) := by decide +kernel
theorem dX0_numberOfCell_116 : decode cX0_numberOfCell 116 = .ok (.getfield 15, 3) := by decide +kernel
theorem dX0_numberOfCell_119 : decode cX0_numberOfCell 119 = .ok (.iload 4, 2) := by decide +kernel
theorem dX0_numberOfCell_121 : decode cX0_numberOfCell 121 = .ok (.iaload, 1) := by decide +kernel
theorem dX0_numberOfCell_122 : decode cX0_numberOfCell 122 = .ok (.aload_n 0, 1) := by decide +kernel
theorem dX0_numberOfCell_123 : decode cX0_numberOfCell 123 = .ok (.iload_n 1, 1) := by decide +kernel
theorem dX0_numberOfCell_124 : decode cX0_numberOfCell 124 = .ok (.iconst 0, 1) := by decide +kernel
theorem dX0_numberOfCell_125 : decode cX0_numberOfCell 125 = .ok (.invokevirtual 104, 3) := by decide +kernel
theorem dX0_numberOfCell_128 : decode cX0_numberOfCell 128 = .ok (.aload_n 0, 1) := by decide +kernel
theorem dX0_numberOfCell_129 : decode cX0_numberOfCell 129 = .ok (.iload_n 1, 1) := by decide +kernel
theorem dX0_numberOfCell_130 : decode cX0_numberOfCell 130 = .ok (.iconst 1, 1) := by decide +kernel
theorem dX0_numberOfCell_131 : decode cX0_numberOfCell 131 = .ok (.invokevirtual 104, 3) := by decide +kernel
theorem dX0_numberOfCell_134 : decode cX0_numberOfCell 134 = .ok (.invokestatic 83, 3) := by decide +kernel
theorem dX0_numberOfCell_137 : decode cX0_numberOfCell 137 = .ok (.ireturn, 1) := by decide +kernel
theorem dX0_numberOfCell_138 : decode cX0_numberOfCell 138 = .ok (.aload_n 0, 1) := by decide +kernel
theorem dX0_numberOfCell_139 : decode cX0_numberOfCell 139 = .ok (.getfield 15, 3) := by decide +kernel
theorem dX0_numberOfCell_142 : decode cX0_numberOfCell 142 = .ok (.iload 4, 2) := by decide +kernel
theorem dX0_numberOfCell_144 : decode cX0_numberOfCell 144 = .ok (.iaload, 1) := by decide +kernel
theorem dX0_numberOfCell_145 : decode cX0_numberOfCell 145 = .ok (.sipush 300, 3) := by decide +kernel
theorem dX0_numberOfCell_148 : decode cX0_numberOfCell 148 = .ok (.sipush 700, 3) := by decide +kernel
theorem dX0_numberOfCell_151 : decode cX0_numberOfCell 151 = .ok (.invokestatic 83, 3) := by decide +kernel
theorem dX0_numberOfCell_154 : decode cX0_numberOfCell 154 = .ok (.ireturn, 1) := by decide +kernel
theorem dX0_numberOfCell_155 : decode cX0_numberOfCell 155 = .ok (.aload_n 0, 1) := by decide +kernel
theorem dX0_numberOfCell_156 : decode cX0_numberOfCell 156 = .ok (.getfield 18, 3) := by decide +kernel
theorem dX0_numberOfCell_159 : decode cX0_numberOfCell 159 = .ok (.iload 4, 2) := by decide +kernel
theorem dX0_numberOfCell_161 : decode cX0_numberOfCell 161 = .ok (.iaload, 1) := by decide +kernel
theorem dX0_numberOfCell_162 : decode cX0_numberOfCell 162 = .ok (.ireturn, 1) := by decide +kernel
theorem dX0_numberOfCell_163 : decode cX0_numberOfCell 163 = .ok (.aload_n 0, 1) := by decide +kernel
theorem dX0_numberOfCell_164 : decode cX0_numberOfCell 164 = .ok (.getfield 15, 3) := by decide +kernel
theorem dX0_numberOfCell_167 : decode cX0_numberOfCell 167 = .ok (.iload 4, 2) := by decide +kernel
theorem dX0_numberOfCell_169 : decode cX0_numberOfCell 169 = .ok (.iaload, 1) := by decide +kernel
theorem dX0_numberOfCell_170 : decode cX0_numberOfCell 170 = .ok (.iload 5, 2) := by decide +kernel
theorem dX0_numberOfCell_172 : decode cX0_numberOfCell 172 = .ok (.isub, 1) := by decide +kernel
theorem dX0_numberOfCell_173 : decode cX0_numberOfCell 173 = .ok (.invokestatic 107, 3) := by decide +kernel
theorem dX0_numberOfCell_176 : decode cX0_numberOfCell 176 = .ok (.aload_n 0, 1) := by decide +kernel
theorem dX0_numberOfCell_177 : decode cX0_numberOfCell 177 = .ok (.getfield 15, 3) := by decide +kernel
theorem dX0_numberOfCell_180 : decode cX0_numberOfCell 180 = .ok (.iload 4, 2) := by decide +kernel
theorem dX0_numberOfCell_182 : decode cX0_numberOfCell 182 = .ok (.iaload, 1) := by decide +kernel
theorem dX0_numberOfCell_183 : decode cX0_numberOfCell 183 = .ok (.iload 6, 2) := by decide +kernel
theorem dX0_numberOfCell_185 : decode cX0_numberOfCell 185 = .ok (.isub, 1) := by decide +kernel
theorem dX0_numberOfCell_186 : decode cX0_numberOfCell 186 = .ok (.invokestatic 107, 3) := by decide +kernel
theorem dX0_numberOfCell_189 : decode cX0_numberOfCell 189 = .ok (.invokestatic 112, 3) := by decide +kernel
theorem dX0_numberOfCell_192 : decode cX0_numberOfCell 192 = .ok (.ireturn, 1) := by decide +kernel
theorem dX0_numberOfCell_193 : decode cX0_numberOfCell 193 = .ok (.aload_n 0, 1) := by decide +kernel
theorem dX0_numberOfCell_194 : decode cX0_numberOfCell 194 = .ok (.getfield 62, 3) := by decide +kernel
theorem dX0_numberOfCell_197 : decode cX0_numberOfCell 197 = .ok (.aload_n 0, 1) := by decide +kernel
theorem dX0_numberOfCell_198 : decode cX0_numberOfCell 198 = .ok (.getfield 21, 3) := by decide +kernel
theorem dX0_numberOfCell_201 : decode cX0_numberOfCell 201 = .ok (.iload 4, 2) := by decide +kernel
theorem dX0_numberOfCell_203 : decode cX0_numberOfCell 203 = .ok (.iaload, 1) := by decide +kernel
theorem dX0_numberOfCell_204 : decode cX0_numberOfCell 204 = .ok (.isub, 1) := by decide +kernel
theorem dX0_numberOfCell_205 : decode cX0_numberOfCell 205 = .ok (.ireturn, 1) := by decide +kernel
theorem dX0_numberOfCell_206 : decode cX0_numberOfCell 206 = .ok (.ldc 74, 2) := by decide +kernel
theorem dX0_numberOfCell_208 : decode cX0_numberOfCell 208 = .ok (.ireturn, 1) := by decide +kernel
theorem dX0_numberOfGuard_0 : decode cX0_numberOfGuard 0 = .ok (.iload_n 1, 1) := by decide +kernel
theorem dX0_numberOfGuard_1 : decode cX0_numberOfGuard 1 = .ok (.iload_n 2, 1) := by decide +kernel
theorem dX0_numberOfGuard_2 : decode cX0_numberOfGuard 2 = .ok (.invokestatic 87, 3) := by decide +kernel
theorem dX0_numberOfGuard_5 : decode cX0_numberOfGuard 5 = .ok (.ifCond .eq 6, 3) := by decide +kernel
theorem dX0_numberOfGuard_8 : decode cX0_numberOfGuard 8 = .ok (.ldc 74, 2) := by decide +kernel
theorem dX0_numberOfGuard_10 : decode cX0_numberOfGuard 10 = .ok (.ireturn, 1) := by decide +kernel
theorem dX0_numberOfGuard_11 : decode cX0_numberOfGuard 11 = .ok (.iconst 3, 1) := by decide +kernel
theorem dX0_numberOfGuard_12 : decode cX0_numberOfGuard 12 = .ok (.iload_n 1, 1) := by decide +kernel
theorem dX0_numberOfGuard_13 : decode cX0_numberOfGuard 13 = .ok (.imul, 1) := by decide +kernel
theorem dX0_numberOfGuard_14 : decode cX0_numberOfGuard 14 = .ok (.iload_n 2, 1) := by decide +kernel
theorem dX0_numberOfGuard_15 : decode cX0_numberOfGuard 15 = .ok (.iadd, 1) := by decide +kernel
theorem dX0_numberOfGuard_16 : decode cX0_numberOfGuard 16 = .ok (.istore 4, 2) := by decide +kernel
theorem dX0_numberOfGuard_18 : decode cX0_numberOfGuard 18 = .ok (.iload_n 3, 1) := by decide +kernel
theorem dX0_numberOfGuard_19 : decode cX0_numberOfGuard 19 = .ok (.lookupswitch 41 #[(0, 25), (1, 33)], 25) := by decide +kernel
theorem dX0_numberOfGuard_44 : decode cX0_numberOfGuard 44 = .ok (.aload_n 0, 1) := by decide +kernel
theorem dX0_numberOfGuard_45 : decode cX0_numberOfGuard 45 = .ok (.getfield 24, 3) := by decide +kernel
theorem dX0_numberOfGuard_48 : decode cX0_numberOfGuard 48 = .ok (.iload 4, 2) := by decide +kernel
theorem dX0_numberOfGuard_50 : decode cX0_numberOfGuard 50 = .ok (.iaload, 1) := by decide +kernel
theorem dX0_numberOfGuard_51 : decode cX0_numberOfGuard 51 = .ok (.ireturn, 1) := by decide +kernel
theorem dX0_numberOfGuard_52 : decode cX0_numberOfGuard 52 = .ok (.aload_n 0, 1) := by decide +kernel
theorem dX0_numberOfGuard_53 : decode cX0_numberOfGuard 53 = .ok (.getfield 27, 3) := by decide +kernel
theorem dX0_numberOfGuard_56 : decode cX0_numberOfGuard 56 = .ok (.iload 4, 2) := by decide +kernel
theorem dX0_numberOfGuard_58 : decode cX0_numberOfGuard 58 = .ok (.iaload, 1) := by decide +kernel
theorem dX0_numberOfGuard_59 : decode cX0_numberOfGuard 59 = .ok (.ireturn, 1) := by decide +kernel
theorem dX0_numberOfGuard_60 : decode cX0_numberOfGuard 60 = .ok (.ldc 74, 2) := by decide +kernel
theorem dX0_numberOfGuard_62 : decode cX0_numberOfGuard 62 = .ok (.ireturn, 1) := by decide +kernel
theorem dX0_numberOfRow_0 : decode cX0_numberOfRow 0 = .ok (.iload_n 1, 1) := by decide +kernel
theorem dX0_numberOfRow_1 : decode cX0_numberOfRow 1 = .ok (.iconst 0, 1) := by decide +kernel
theorem dX0_numberOfRow_2 : decode cX0_numberOfRow 2 = .ok (.iconst 5, 1) := by decide +kernel
theorem dX0_numberOfRow_3 : decode cX0_numberOfRow 3 = .ok (.invokestatic 70, 3) := by decide +kernel
theorem dX0_numberOfRow_6 : decode cX0_numberOfRow 6 = .ok (.ifCond .eq 6, 3) := by decide +kernel
theorem dX0_numberOfRow_9 : decode cX0_numberOfRow 9 = .ok (.ldc 74, 2) := by decide +kernel
theorem dX0_numberOfRow_11 : decode cX0_numberOfRow 11 = .ok (.ireturn, 1) := by decide +kernel
theorem dX0_numberOfRow_12 : decode cX0_numberOfRow 12 = .ok (.iload_n 2, 1) := by decide +kernel
theorem dX0_numberOfRow_13 : decode cX0_numberOfRow 13 = .ok (.tableswitch 176 0 13 #[71, 78, 85, 99, 105, 112, 119, 125, 137, 144, 150, 156, 162, 169], 71) := by decide +kernel
theorem dX0_numberOfRow_84 : decode cX0_numberOfRow 84 = .ok (.aload_n 0, 1) := by decide +kernel
theorem dX0_numberOfRow_85 : decode cX0_numberOfRow 85 = .ok (.iload_n 1, 1) := by decide +kernel
theorem dX0_numberOfRow_86 : decode cX0_numberOfRow 86 = .ok (.iconst 0, 1) := by decide +kernel
theorem dX0_numberOfRow_87 : decode cX0_numberOfRow 87 = .ok (.invokevirtual 104, 3) := by decide +kernel
theorem dX0_numberOfRow_90 : decode cX0_numberOfRow 90 = .ok (.ireturn, 1) := by decide +kernel
theorem dX0_numberOfRow_91 : decode cX0_numberOfRow 91 = .ok (.aload_n 0, 1) := by decide +kernel
theorem dX0_numberOfRow_92 : decode cX0_numberOfRow 92 = .ok (.iload_n 1, 1) := by decide +kernel
theorem dX0_numberOfRow_93 : decode cX0_numberOfRow 93 = .ok (.iconst 1, 1) := by decide +kernel
theorem dX0_numberOfRow_94 : decode cX0_numberOfRow 94 = .ok (.invokevirtual 104, 3) := by decide +kernel
theorem dX0_numberOfRow_97 : decode cX0_numberOfRow 97 = .ok (.ireturn, 1) := by decide +kernel
theorem dX0_numberOfRow_98 : decode cX0_numberOfRow 98 = .ok (.aload_n 0, 1) := by decide +kernel
theorem dX0_numberOfRow_99 : decode cX0_numberOfRow 99 = .ok (.iload_n 1, 1) := by decide +kernel
theorem dX0_numberOfRow_100 : decode cX0_numberOfRow 100 = .ok (.invokevirtual 115, 3) := by decide +kernel
theorem dX0_numberOfRow_103 : decode cX0_numberOfRow 103 = .ok (.ifCond .eq 7, 3) := by decide +kernel
theorem dX0_numberOfRow_106 : decode cX0_numberOfRow 106 = .ok (.iconst 1, 1) := by decide +kernel
theorem dX0_numberOfRow_107 : decode cX0_numberOfRow 107 = .ok (.goto 4, 3) := by decide +kernel
theorem dX0_numberOfRow_110 : decode cX0_numberOfRow 110 = .ok (.iconst 0, 1) := by decide +kernel
theorem dX0_numberOfRow_111 : decode cX0_numberOfRow 111 = .ok (.ireturn, 1) := by decide +kernel
theorem dX0_numberOfRow_112 : decode cX0_numberOfRow 112 = .ok (.aload_n 0, 1) := by decide +kernel
theorem dX0_numberOfRow_113 : decode cX0_numberOfRow 113 = .ok (.iload_n 1, 1) := by decide +kernel
theorem dX0_numberOfRow_114 : decode cX0_numberOfRow 114 = .ok (.invokevirtual 119, 3) := by decide +kernel
theorem dX0_numberOfRow_117 : decode cX0_numberOfRow 117 = .ok (.ireturn, 1) := by decide +kernel
theorem dX0_numberOfRow_118 : decode cX0_numberOfRow 118 = .ok (.aload_n 0, 1) := by decide +kernel
theorem dX0_numberOfRow_119 : decode cX0_numberOfRow 119 = .ok (.iload_n 1, 1) := by decide +kernel
theorem dX0_numberOfRow_120 : decode cX0_numberOfRow 120 = .ok (.iconst 0, 1) := by decide +kernel
theorem dX0_numberOfRow_121 : decode cX0_numberOfRow 121 = .ok (.invokevirtual 79, 3) := by decide +kernel
theorem dX0_numberOfRow_124 : decode cX0_numberOfRow 124 = .ok (.ireturn, 1) := by decide +kernel
theorem dX0_numberOfRow_125 : decode cX0_numberOfRow 125 = .ok (.aload_n 0, 1) := by decide +kernel
theorem dX0_numberOfRow_126 : decode cX0_numberOfRow 126 = .ok (.iload_n 1, 1) := by decide +kernel
theorem dX0_numberOfRow_127 : decode cX0_numberOfRow 127 = .ok (.iconst 1, 1) := by decide +kernel
theorem dX0_numberOfRow_128 : decode cX0_numberOfRow 128 = .ok (.invokevirtual 79, 3) := by decide +kernel
theorem dX0_numberOfRow_131 : decode cX0_numberOfRow 131 = .ok (.ireturn, 1) := by decide +kernel
theorem dX0_numberOfRow_132 : decode cX0_numberOfRow 132 = .ok (.aload_n 0, 1) := by decide +kernel
theorem dX0_numberOfRow_133 : decode cX0_numberOfRow 133 = .ok (.iload_n 1, 1) := by decide +kernel
theorem dX0_numberOfRow_134 : decode cX0_numberOfRow 134 = .ok (.invokevirtual 122, 3) := by decide +kernel
theorem dX0_numberOfRow_137 : decode cX0_numberOfRow 137 = .ok (.ireturn, 1) := by decide +kernel
theorem dX0_numberOfRow_138 : decode cX0_numberOfRow 138 = .ok (.aload_n 0, 1) := by decide +kernel
theorem dX0_numberOfRow_139 : decode cX0_numberOfRow 139 = .ok (.iload_n 1, 1) := by decide +kernel
theorem dX0_numberOfRow_140 : decode cX0_numberOfRow 140 = .ok (.sipush 300, 3) := by decide +kernel
theorem dX0_numberOfRow_143 : decode cX0_numberOfRow 143 = .ok (.sipush 700, 3) := by decide +kernel
theorem dX0_numberOfRow_146 : decode cX0_numberOfRow 146 = .ok (.invokevirtual 125, 3) := by decide +kernel
theorem dX0_numberOfRow_149 : decode cX0_numberOfRow 149 = .ok (.ireturn, 1) := by decide +kernel
theorem dX0_numberOfRow_150 : decode cX0_numberOfRow 150 = .ok (.aload_n 0, 1) := by decide +kernel
theorem dX0_numberOfRow_151 : decode cX0_numberOfRow 151 = .ok (.getfield 30, 3) := by decide +kernel
theorem dX0_numberOfRow_154 : decode cX0_numberOfRow 154 = .ok (.iload_n 1, 1) := by decide +kernel
theorem dX0_numberOfRow_155 : decode cX0_numberOfRow 155 = .ok (.iaload, 1) := by decide +kernel
theorem dX0_numberOfRow_156 : decode cX0_numberOfRow 156 = .ok (.ireturn, 1) := by decide +kernel
theorem dX0_numberOfRow_157 : decode cX0_numberOfRow 157 = .ok (.aload_n 0, 1) := by decide +kernel
theorem dX0_numberOfRow_158 : decode cX0_numberOfRow 158 = .ok (.iload_n 1, 1) := by decide +kernel
theorem dX0_numberOfRow_159 : decode cX0_numberOfRow 159 = .ok (.invokevirtual 95, 3) := by decide +kernel
theorem dX0_numberOfRow_162 : decode cX0_numberOfRow 162 = .ok (.ireturn, 1) := by decide +kernel
theorem dX0_numberOfRow_163 : decode cX0_numberOfRow 163 = .ok (.aload_n 0, 1) := by decide +kernel
theorem dX0_numberOfRow_164 : decode cX0_numberOfRow 164 = .ok (.iload_n 1, 1) := by decide +kernel
theorem dX0_numberOfRow_165 : decode cX0_numberOfRow 165 = .ok (.invokevirtual 75, 3) := by decide +kernel
theorem dX0_numberOfRow_168 : decode cX0_numberOfRow 168 = .ok (.ireturn, 1) := by decide +kernel
theorem dX0_numberOfRow_169 : decode cX0_numberOfRow 169 = .ok (.aload_n 0, 1) := by decide +kernel
theorem dX0_numberOfRow_170 : decode cX0_numberOfRow 170 = .ok (.iload_n 1, 1) := by decide +kernel
theorem dX0_numberOfRow_171 : decode cX0_numberOfRow 171 = .ok (.invokevirtual 128, 3) := by decide +kernel
theorem dX0_numberOfRow_174 : decode cX0_numberOfRow 174 = .ok (.ireturn, 1) := by decide +kernel
theorem dX0_numberOfRow_175 : decode cX0_numberOfRow 175 = .ok (.aload_n 0, 1) := by decide +kernel
theorem dX0_numberOfRow_176 : decode cX0_numberOfRow 176 = .ok (.getfield 36, 3) := by decide +kernel
theorem dX0_numberOfRow_179 : decode cX0_numberOfRow 179 = .ok (.iload_n 1, 1) := by decide +kernel
theorem dX0_numberOfRow_180 : decode cX0_numberOfRow 180 = .ok (.iaload, 1) := by decide +kernel
theorem dX0_numberOfRow_181 : decode cX0_numberOfRow 181 = .ok (.ireturn, 1) := by decide +kernel
theorem dX0_numberOfRow_182 : decode cX0_numberOfRow 182 = .ok (.aload_n 0, 1) := by decide +kernel
theorem dX0_numberOfRow_183 : decode cX0_numberOfRow 183 = .ok (.getfield 39, 3) := by decide +kernel
theorem dX0_numberOfRow_186 : decode cX0_numberOfRow 186 = .ok (.iload_n 1, 1) := by decide +kernel
theorem dX0_numberOfRow_187 : decode cX0_numberOfRow 187 = .ok (.iaload, 1) := by decide +kernel
theorem dX0_numberOfRow_188 : decode cX0_numberOfRow 188 = .ok (.ireturn, 1) := by decide +kernel
theorem dX0_numberOfRow_189 : decode cX0_numberOfRow 189 = .ok (.ldc 74, 2) := by decide +kernel
theorem dX0_numberOfRow_191 : decode cX0_numberOfRow 191 = .ok (.ireturn, 1) := by decide +kernel
theorem dX0_timesTold_0 : decode cX0_timesTold 0 = .ok (.iload_n 1, 1) := by decide +kernel
theorem dX0_timesTold_1 : decode cX0_timesTold 1 = .ok (.iconst 0, 1) := by decide +kernel
theorem dX0_timesTold_2 : decode cX0_timesTold 2 = .ok (.iconst 2, 1) := by decide +kernel
theorem dX0_timesTold_3 : decode cX0_timesTold 3 = .ok (.invokestatic 70, 3) := by decide +kernel
theorem dX0_timesTold_6 : decode cX0_timesTold 6 = .ok (.ifCond .ne 12, 3) := by decide +kernel
theorem dX0_timesTold_9 : decode cX0_timesTold 9 = .ok (.iload_n 2, 1) := by decide +kernel
theorem dX0_timesTold_10 : decode cX0_timesTold 10 = .ok (.iconst 0, 1) := by decide +kernel
theorem dX0_timesTold_11 : decode cX0_timesTold 11 = .ok (.iconst 2, 1) := by decide +kernel
theorem dX0_timesTold_12 : decode cX0_timesTold 12 = .ok (.invokestatic 70, 3) := by decide +kernel
theorem dX0_timesTold_15 : decode cX0_timesTold 15 = .ok (.ifCond .eq 6, 3) := by decide +kernel
theorem dX0_timesTold_18 : decode cX0_timesTold 18 = .ok (.ldc 74, 2) := by decide +kernel
theorem dX0_timesTold_20 : decode cX0_timesTold 20 = .ok (.ireturn, 1) := by decide +kernel
theorem dX0_timesTold_21 : decode cX0_timesTold 21 = .ok (.aload_n 0, 1) := by decide +kernel
theorem dX0_timesTold_22 : decode cX0_timesTold 22 = .ok (.getfield 42, 3) := by decide +kernel
theorem dX0_timesTold_25 : decode cX0_timesTold 25 = .ok (.iconst 3, 1) := by decide +kernel
theorem dX0_timesTold_26 : decode cX0_timesTold 26 = .ok (.iload_n 1, 1) := by decide +kernel
theorem dX0_timesTold_27 : decode cX0_timesTold 27 = .ok (.imul, 1) := by decide +kernel
theorem dX0_timesTold_28 : decode cX0_timesTold 28 = .ok (.iload_n 2, 1) := by decide +kernel
theorem dX0_timesTold_29 : decode cX0_timesTold 29 = .ok (.iadd, 1) := by decide +kernel
theorem dX0_timesTold_30 : decode cX0_timesTold 30 = .ok (.iaload, 1) := by decide +kernel
theorem dX0_timesTold_31 : decode cX0_timesTold 31 = .ok (.ireturn, 1) := by decide +kernel
theorem dX0_tally_0 : decode cX0_tally 0 = .ok (.iload_n 1, 1) := by decide +kernel
theorem dX0_tally_1 : decode cX0_tally 1 = .ok (.tableswitch 224 0 22 #[107, 112, 117, 122, 128, 134, 140, 148, 156, 167, 175, 180, 185, 191, 197, 224, 224, 224, 224, 224, 203, 210, 217], 107) := by decide +kernel
theorem dX0_tally_108 : decode cX0_tally 108 = .ok (.aload_n 0, 1) := by decide +kernel
theorem dX0_tally_109 : decode cX0_tally 109 = .ok (.getfield 62, 3) := by decide +kernel
theorem dX0_tally_112 : decode cX0_tally 112 = .ok (.ireturn, 1) := by decide +kernel
theorem dX0_tally_113 : decode cX0_tally 113 = .ok (.aload_n 0, 1) := by decide +kernel
theorem dX0_tally_114 : decode cX0_tally 114 = .ok (.invokevirtual 131, 3) := by decide +kernel
theorem dX0_tally_117 : decode cX0_tally 117 = .ok (.ireturn, 1) := by decide +kernel
theorem dX0_tally_118 : decode cX0_tally 118 = .ok (.aload_n 0, 1) := by decide +kernel
theorem dX0_tally_119 : decode cX0_tally 119 = .ok (.invokevirtual 135, 3) := by decide +kernel
theorem dX0_tally_122 : decode cX0_tally 122 = .ok (.ireturn, 1) := by decide +kernel
theorem dX0_tally_123 : decode cX0_tally 123 = .ok (.aload_n 0, 1) := by decide +kernel
theorem dX0_tally_124 : decode cX0_tally 124 = .ok (.iconst 0, 1) := by decide +kernel
theorem dX0_tally_125 : decode cX0_tally 125 = .ok (.invokevirtual 138, 3) := by decide +kernel
theorem dX0_tally_128 : decode cX0_tally 128 = .ok (.ireturn, 1) := by decide +kernel
theorem dX0_tally_129 : decode cX0_tally 129 = .ok (.aload_n 0, 1) := by decide +kernel
theorem dX0_tally_130 : decode cX0_tally 130 = .ok (.iconst 1, 1) := by decide +kernel
theorem dX0_tally_131 : decode cX0_tally 131 = .ok (.invokevirtual 138, 3) := by decide +kernel
theorem dX0_tally_134 : decode cX0_tally 134 = .ok (.ireturn, 1) := by decide +kernel
theorem dX0_tally_135 : decode cX0_tally 135 = .ok (.aload_n 0, 1) := by decide +kernel
theorem dX0_tally_136 : decode cX0_tally 136 = .ok (.iconst 2, 1) := by decide +kernel
theorem dX0_tally_137 : decode cX0_tally 137 = .ok (.invokevirtual 138, 3) := by decide +kernel
theorem dX0_tally_140 : decode cX0_tally 140 = .ok (.ireturn, 1) := by decide +kernel
theorem dX0_tally_141 : decode cX0_tally 141 = .ok (.aload_n 0, 1) := by decide +kernel
theorem dX0_tally_142 : decode cX0_tally 142 = .ok (.getfield 27, 3) := by decide +kernel
theorem dX0_tally_145 : decode cX0_tally 145 = .ok (.invokestatic 141, 3) := by decide +kernel
theorem dX0_tally_148 : decode cX0_tally 148 = .ok (.ireturn, 1) := by decide +kernel
theorem dX0_tally_149 : decode cX0_tally 149 = .ok (.aload_n 0, 1) := by decide +kernel
theorem dX0_tally_150 : decode cX0_tally 150 = .ok (.getfield 36, 3) := by decide +kernel
theorem dX0_tally_153 : decode cX0_tally 153 = .ok (.invokestatic 141, 3) := by decide +kernel
theorem dX0_tally_156 : decode cX0_tally 156 = .ok (.ireturn, 1) := by decide +kernel
theorem dX0_tally_157 : decode cX0_tally 157 = .ok (.aload_n 0, 1) := by decide +kernel
theorem dX0_tally_158 : decode cX0_tally 158 = .ok (.getfield 18, 3) := by decide +kernel
theorem dX0_tally_161 : decode cX0_tally 161 = .ok (.invokestatic 141, 3) := by decide +kernel
theorem dX0_tally_164 : decode cX0_tally 164 = .ok (.bipush 48, 2) := by decide +kernel
theorem dX0_tally_166 : decode cX0_tally 166 = .ok (.isub, 1) := by decide +kernel
theorem dX0_tally_167 : decode cX0_tally 167 = .ok (.ireturn, 1) := by decide +kernel
theorem dX0_tally_168 : decode cX0_tally 168 = .ok (.aload_n 0, 1) := by decide +kernel
theorem dX0_tally_169 : decode cX0_tally 169 = .ok (.getfield 39, 3) := by decide +kernel
theorem dX0_tally_172 : decode cX0_tally 172 = .ok (.invokestatic 141, 3) := by decide +kernel
theorem dX0_tally_175 : decode cX0_tally 175 = .ok (.ireturn, 1) := by decide +kernel
theorem dX0_tally_176 : decode cX0_tally 176 = .ok (.aload_n 0, 1) := by decide +kernel
theorem dX0_tally_177 : decode cX0_tally 177 = .ok (.invokevirtual 145, 3) := by decide +kernel
theorem dX0_tally_180 : decode cX0_tally 180 = .ok (.ireturn, 1) := by decide +kernel
theorem dX0_tally_181 : decode cX0_tally 181 = .ok (.aload_n 0, 1) := by decide +kernel
theorem dX0_tally_182 : decode cX0_tally 182 = .ok (.invokevirtual 148, 3) := by decide +kernel
theorem dX0_tally_185 : decode cX0_tally 185 = .ok (.ireturn, 1) := by decide +kernel
theorem dX0_tally_186 : decode cX0_tally 186 = .ok (.aload_n 0, 1) := by decide +kernel
theorem dX0_tally_187 : decode cX0_tally 187 = .ok (.iconst 0, 1) := by decide +kernel
theorem dX0_tally_188 : decode cX0_tally 188 = .ok (.invokevirtual 151, 3) := by decide +kernel
theorem dX0_tally_191 : decode cX0_tally 191 = .ok (.ireturn, 1) := by decide +kernel
theorem dX0_tally_192 : decode cX0_tally 192 = .ok (.aload_n 0, 1) := by decide +kernel
theorem dX0_tally_193 : decode cX0_tally 193 = .ok (.iconst 1, 1) := by decide +kernel
theorem dX0_tally_194 : decode cX0_tally 194 = .ok (.invokevirtual 151, 3) := by decide +kernel
theorem dX0_tally_197 : decode cX0_tally 197 = .ok (.ireturn, 1) := by decide +kernel
theorem dX0_tally_198 : decode cX0_tally 198 = .ok (.aload_n 0, 1) := by decide +kernel
theorem dX0_tally_199 : decode cX0_tally 199 = .ok (.iconst 2, 1) := by decide +kernel
theorem dX0_tally_200 : decode cX0_tally 200 = .ok (.invokevirtual 151, 3) := by decide +kernel
theorem dX0_tally_203 : decode cX0_tally 203 = .ok (.ireturn, 1) := by decide +kernel
theorem dX0_tally_204 : decode cX0_tally 204 = .ok (.aload_n 0, 1) := by decide +kernel
theorem dX0_tally_205 : decode cX0_tally 205 = .ok (.getfield 45, 3) := by decide +kernel
theorem dX0_tally_208 : decode cX0_tally 208 = .ok (.iconst 0, 1) := by decide +kernel
theorem dX0_tally_209 : decode cX0_tally 209 = .ok (.iaload, 1) := by decide +kernel
theorem dX0_tally_210 : decode cX0_tally 210 = .ok (.ireturn, 1) := by decide +kernel
theorem dX0_tally_211 : decode cX0_tally 211 = .ok (.aload_n 0, 1) := by decide +kernel
theorem dX0_tally_212 : decode cX0_tally 212 = .ok (.getfield 45, 3) := by decide +kernel
theorem dX0_tally_215 : decode cX0_tally 215 = .ok (.iconst 1, 1) := by decide +kernel
theorem dX0_tally_216 : decode cX0_tally 216 = .ok (.iaload, 1) := by decide +kernel
theorem dX0_tally_217 : decode cX0_tally 217 = .ok (.ireturn, 1) := by decide +kernel
theorem dX0_tally_218 : decode cX0_tally 218 = .ok (.aload_n 0, 1) := by decide +kernel
theorem dX0_tally_219 : decode cX0_tally 219 = .ok (.getfield 45, 3) := by decide +kernel
theorem dX0_tally_222 : decode cX0_tally 222 = .ok (.iconst 2, 1) := by decide +kernel
theorem dX0_tally_223 : decode cX0_tally 223 = .ok (.iaload, 1) := by decide +kernel
theorem dX0_tally_224 : decode cX0_tally 224 = .ok (.ireturn, 1) := by decide +kernel
theorem dX0_tally_225 : decode cX0_tally 225 = .ok (.ldc 74, 2) := by decide +kernel
theorem dX0_tally_227 : decode cX0_tally 227 = .ok (.ireturn, 1) := by decide +kernel
theorem dX0_timesAsked_0 : decode cX0_timesAsked 0 = .ok (.aload_n 0, 1) := by decide +kernel
theorem dX0_timesAsked_1 : decode cX0_timesAsked 1 = .ok (.getfield 42, 3) := by decide +kernel
theorem dX0_timesAsked_4 : decode cX0_timesAsked 4 = .ok (.invokestatic 141, 3) := by decide +kernel
theorem dX0_timesAsked_7 : decode cX0_timesAsked 7 = .ok (.ireturn, 1) := by decide +kernel
theorem dX0_timesToldRight_0 : decode cX0_timesToldRight 0 = .ok (.iconst 0, 1) := by decide +kernel
theorem dX0_timesToldRight_1 : decode cX0_timesToldRight 1 = .ok (.istore_n 1, 1) := by decide +kernel
theorem dX0_timesToldRight_2 : decode cX0_timesToldRight 2 = .ok (.iconst 0, 1) := by decide +kernel
theorem dX0_timesToldRight_3 : decode cX0_timesToldRight 3 = .ok (.istore_n 2, 1) := by decide +kernel
theorem dX0_timesToldRight_4 : decode cX0_timesToldRight 4 = .ok (.iload_n 2, 1) := by decide +kernel
theorem dX0_timesToldRight_5 : decode cX0_timesToldRight 5 = .ok (.iconst 3, 1) := by decide +kernel
theorem dX0_timesToldRight_6 : decode cX0_timesToldRight 6 = .ok (.if_icmp .ge 22, 3) := by decide +kernel
theorem dX0_timesToldRight_9 : decode cX0_timesToldRight 9 = .ok (.iload_n 1, 1) := by decide +kernel
theorem dX0_timesToldRight_10 : decode cX0_timesToldRight 10 = .ok (.aload_n 0, 1) := by decide +kernel
theorem dX0_timesToldRight_11 : decode cX0_timesToldRight 11 = .ok (.getfield 42, 3) := by decide +kernel
theorem dX0_timesToldRight_14 : decode cX0_timesToldRight 14 = .ok (.iconst 3, 1) := by decide +kernel
theorem dX0_timesToldRight_15 : decode cX0_timesToldRight 15 = .ok (.iload_n 2, 1) := by decide +kernel
theorem dX0_timesToldRight_16 : decode cX0_timesToldRight 16 = .ok (.imul, 1) := by decide +kernel
theorem dX0_timesToldRight_17 : decode cX0_timesToldRight 17 = .ok (.iload_n 2, 1) := by decide +kernel
theorem dX0_timesToldRight_18 : decode cX0_timesToldRight 18 = .ok (.iadd, 1) := by decide +kernel
theorem dX0_timesToldRight_19 : decode cX0_timesToldRight 19 = .ok (.iaload, 1) := by decide +kernel
theorem dX0_timesToldRight_20 : decode cX0_timesToldRight 20 = .ok (.iadd, 1) := by decide +kernel
theorem dX0_timesToldRight_21 : decode cX0_timesToldRight 21 = .ok (.istore_n 1, 1) := by decide +kernel
theorem dX0_timesToldRight_22 : decode cX0_timesToldRight 22 = .ok (.iinc 2 1, 3) := by decide +kernel
theorem dX0_timesToldRight_25 : decode cX0_timesToldRight 25 = .ok (.goto (-21), 3) := by decide +kernel
theorem dX0_timesToldRight_28 : decode cX0_timesToldRight 28 = .ok (.iload_n 1, 1) := by decide +kernel
theorem dX0_timesToldRight_29 : decode cX0_timesToldRight 29 = .ok (.ireturn, 1) := by decide +kernel
theorem dX0_distanceFromAims_0 : decode cX0_distanceFromAims 0 = .ok (.iconst 0, 1) := by decide +kernel
theorem dX0_distanceFromAims_1 : decode cX0_distanceFromAims 1 = .ok (.istore_n 1, 1) := by decide +kernel
theorem dX0_distanceFromAims_2 : decode cX0_distanceFromAims 2 = .ok (.iconst 0, 1) := by decide +kernel
theorem dX0_distanceFromAims_3 : decode cX0_distanceFromAims 3 = .ok (.istore_n 2, 1) := by decide +kernel
theorem dX0_distanceFromAims_4 : decode cX0_distanceFromAims 4 = .ok (.iload_n 2, 1) := by decide +kernel
theorem dX0_distanceFromAims_5 : decode cX0_distanceFromAims 5 = .ok (.bipush 48, 2) := by decide +kernel
theorem dX0_distanceFromAims_7 : decode cX0_distanceFromAims 7 = .ok (.if_icmp .ge 31, 3) := by decide +kernel
theorem dX0_distanceFromAims_10 : decode cX0_distanceFromAims 10 = .ok (.iload_n 1, 1) := by decide +kernel
theorem dX0_distanceFromAims_11 : decode cX0_distanceFromAims 11 = .ok (.aload_n 0, 1) := by decide +kernel
theorem dX0_distanceFromAims_12 : decode cX0_distanceFromAims 12 = .ok (.getfield 15, 3) := by decide +kernel
theorem dX0_distanceFromAims_15 : decode cX0_distanceFromAims 15 = .ok (.iload_n 2, 1) := by decide +kernel
theorem dX0_distanceFromAims_16 : decode cX0_distanceFromAims 16 = .ok (.iaload, 1) := by decide +kernel
theorem dX0_distanceFromAims_17 : decode cX0_distanceFromAims 17 = .ok (.aload_n 0, 1) := by decide +kernel
theorem dX0_distanceFromAims_18 : decode cX0_distanceFromAims 18 = .ok (.getfield 9, 3) := by decide +kernel
theorem dX0_distanceFromAims_21 : decode cX0_distanceFromAims 21 = .ok (.iload_n 2, 1) := by decide +kernel
theorem dX0_distanceFromAims_22 : decode cX0_distanceFromAims 22 = .ok (.iaload, 1) := by decide +kernel
theorem dX0_distanceFromAims_23 : decode cX0_distanceFromAims 23 = .ok (.invokestatic 154, 3) := by decide +kernel
theorem dX0_distanceFromAims_26 : decode cX0_distanceFromAims 26 = .ok (.isub, 1) := by decide +kernel
theorem dX0_distanceFromAims_27 : decode cX0_distanceFromAims 27 = .ok (.invokestatic 107, 3) := by decide +kernel
theorem dX0_distanceFromAims_30 : decode cX0_distanceFromAims 30 = .ok (.iadd, 1) := by decide +kernel
theorem dX0_distanceFromAims_31 : decode cX0_distanceFromAims 31 = .ok (.istore_n 1, 1) := by decide +kernel
theorem dX0_distanceFromAims_32 : decode cX0_distanceFromAims 32 = .ok (.iinc 2 1, 3) := by decide +kernel
theorem dX0_distanceFromAims_35 : decode cX0_distanceFromAims 35 = .ok (.goto (-31), 3) := by decide +kernel
theorem dX0_distanceFromAims_38 : decode cX0_distanceFromAims 38 = .ok (.iload_n 1, 1) := by decide +kernel
theorem dX0_distanceFromAims_39 : decode cX0_distanceFromAims 39 = .ok (.ireturn, 1) := by decide +kernel
theorem dX0_worstBut_0 : decode cX0_worstBut 0 = .ok (.iconst 0, 1) := by decide +kernel
theorem dX0_worstBut_1 : decode cX0_worstBut 1 = .ok (.istore_n 2, 1) := by decide +kernel
theorem dX0_worstBut_2 : decode cX0_worstBut 2 = .ok (.iconst (-1), 1) := by decide +kernel
theorem dX0_worstBut_3 : decode cX0_worstBut 3 = .ok (.istore_n 3, 1) := by decide +kernel
theorem dX0_worstBut_4 : decode cX0_worstBut 4 = .ok (.iconst 0, 1) := by decide +kernel
theorem dX0_worstBut_5 : decode cX0_worstBut 5 = .ok (.istore 4, 2) := by decide +kernel
theorem dX0_worstBut_7 : decode cX0_worstBut 7 = .ok (.iload 4, 2) := by decide +kernel
theorem dX0_worstBut_9 : decode cX0_worstBut 9 = .ok (.bipush 6, 2) := by decide +kernel
theorem dX0_worstBut_11 : decode cX0_worstBut 11 = .ok (.if_icmp .ge 50, 3) := by decide +kernel
theorem dX0_worstBut_14 : decode cX0_worstBut 14 = .ok (.iload_n 1, 1) := by decide +kernel
theorem dX0_worstBut_15 : decode cX0_worstBut 15 = .ok (.iload 4, 2) := by decide +kernel
theorem dX0_worstBut_17 : decode cX0_worstBut 17 = .ok (.ishr, 1) := by decide +kernel
theorem dX0_worstBut_18 : decode cX0_worstBut 18 = .ok (.iconst 1, 1) := by decide +kernel
theorem dX0_worstBut_19 : decode cX0_worstBut 19 = .ok (.iand, 1) := by decide +kernel
theorem dX0_worstBut_20 : decode cX0_worstBut 20 = .ok (.ifCond .eq 7, 3) := by decide +kernel
theorem dX0_worstBut_23 : decode cX0_worstBut 23 = .ok (.iconst 1, 1) := by decide +kernel
theorem dX0_worstBut_24 : decode cX0_worstBut 24 = .ok (.goto 4, 3) := by decide +kernel
theorem dX0_worstBut_27 : decode cX0_worstBut 27 = .ok (.iconst 0, 1) := by decide +kernel
theorem dX0_worstBut_28 : decode cX0_worstBut 28 = .ok (.istore 5, 2) := by decide +kernel
theorem dX0_worstBut_30 : decode cX0_worstBut 30 = .ok (.iload 5, 2) := by decide +kernel
theorem dX0_worstBut_32 : decode cX0_worstBut 32 = .ok (.ifCond .ne 23, 3) := by decide +kernel
theorem dX0_worstBut_35 : decode cX0_worstBut 35 = .ok (.aload_n 0, 1) := by decide +kernel
theorem dX0_worstBut_36 : decode cX0_worstBut 36 = .ok (.iload 4, 2) := by decide +kernel
theorem dX0_worstBut_38 : decode cX0_worstBut 38 = .ok (.invokevirtual 122, 3) := by decide +kernel
theorem dX0_worstBut_41 : decode cX0_worstBut 41 = .ok (.iload_n 3, 1) := by decide +kernel
theorem dX0_worstBut_42 : decode cX0_worstBut 42 = .ok (.if_icmp .le 13, 3) := by decide +kernel
theorem dX0_worstBut_45 : decode cX0_worstBut 45 = .ok (.iload 4, 2) := by decide +kernel
theorem dX0_worstBut_47 : decode cX0_worstBut 47 = .ok (.istore_n 2, 1) := by decide +kernel
theorem dX0_worstBut_48 : decode cX0_worstBut 48 = .ok (.aload_n 0, 1) := by decide +kernel
theorem dX0_worstBut_49 : decode cX0_worstBut 49 = .ok (.iload 4, 2) := by decide +kernel
theorem dX0_worstBut_51 : decode cX0_worstBut 51 = .ok (.invokevirtual 122, 3) := by decide +kernel
theorem dX0_worstBut_54 : decode cX0_worstBut 54 = .ok (.istore_n 3, 1) := by decide +kernel
theorem dX0_worstBut_55 : decode cX0_worstBut 55 = .ok (.iinc 4 1, 3) := by decide +kernel
theorem dX0_worstBut_58 : decode cX0_worstBut 58 = .ok (.goto (-51), 3) := by decide +kernel
theorem dX0_worstBut_61 : decode cX0_worstBut 61 = .ok (.iload_n 2, 1) := by decide +kernel
theorem dX0_worstBut_62 : decode cX0_worstBut 62 = .ok (.ireturn, 1) := by decide +kernel
theorem dX0_wrongCells_0 : decode cX0_wrongCells 0 = .ok (.aload_n 0, 1) := by decide +kernel
theorem dX0_wrongCells_1 : decode cX0_wrongCells 1 = .ok (.iload_n 1, 1) := by decide +kernel
theorem dX0_wrongCells_2 : decode cX0_wrongCells 2 = .ok (.aload_n 0, 1) := by decide +kernel
theorem dX0_wrongCells_3 : decode cX0_wrongCells 3 = .ok (.iload_n 1, 1) := by decide +kernel
theorem dX0_wrongCells_4 : decode cX0_wrongCells 4 = .ok (.iconst 0, 1) := by decide +kernel
theorem dX0_wrongCells_5 : decode cX0_wrongCells 5 = .ok (.invokevirtual 79, 3) := by decide +kernel
theorem dX0_wrongCells_8 : decode cX0_wrongCells 8 = .ok (.aload_n 0, 1) := by decide +kernel
theorem dX0_wrongCells_9 : decode cX0_wrongCells 9 = .ok (.iload_n 1, 1) := by decide +kernel
theorem dX0_wrongCells_10 : decode cX0_wrongCells 10 = .ok (.iconst 1, 1) := by decide +kernel
theorem dX0_wrongCells_11 : decode cX0_wrongCells 11 = .ok (.invokevirtual 79, 3) := by decide +kernel
theorem dX0_wrongCells_14 : decode cX0_wrongCells 14 = .ok (.invokevirtual 125, 3) := by decide +kernel
theorem dX0_wrongCells_17 : decode cX0_wrongCells 17 = .ok (.ireturn, 1) := by decide +kernel
theorem dX0_hasRightThresholds_0 : decode cX0_hasRightThresholds 0 = .ok (.iload_n 1, 1) := by decide +kernel
theorem dX0_hasRightThresholds_1 : decode cX0_hasRightThresholds 1 = .ok (.ifCond .lt 9, 3) := by decide +kernel
theorem dX0_hasRightThresholds_4 : decode cX0_hasRightThresholds 4 = .ok (.iload_n 1, 1) := by decide +kernel
theorem dX0_hasRightThresholds_5 : decode cX0_hasRightThresholds 5 = .ok (.bipush 6, 2) := by decide +kernel
theorem dX0_hasRightThresholds_7 : decode cX0_hasRightThresholds 7 = .ok (.if_icmp .lt 5, 3) := by decide +kernel
theorem dX0_hasRightThresholds_10 : decode cX0_hasRightThresholds 10 = .ok (.iconst 0, 1) := by decide +kernel
theorem dX0_hasRightThresholds_11 : decode cX0_hasRightThresholds 11 = .ok (.ireturn, 1) := by decide +kernel
theorem dX0_hasRightThresholds_12 : decode cX0_hasRightThresholds 12 = .ok (.iconst 3, 1) := by decide +kernel
theorem dX0_hasRightThresholds_13 : decode cX0_hasRightThresholds 13 = .ok (.iload_n 1, 1) := by decide +kernel
theorem dX0_hasRightThresholds_14 : decode cX0_hasRightThresholds 14 = .ok (.imul, 1) := by decide +kernel
theorem dX0_hasRightThresholds_15 : decode cX0_hasRightThresholds 15 = .ok (.istore_n 2, 1) := by decide +kernel
theorem dX0_hasRightThresholds_16 : decode cX0_hasRightThresholds 16 = .ok (.aload_n 0, 1) := by decide +kernel
theorem dX0_hasRightThresholds_17 : decode cX0_hasRightThresholds 17 = .ok (.getfield 24, 3) := by decide +kernel
theorem dX0_hasRightThresholds_20 : decode cX0_hasRightThresholds 20 = .ok (.iload_n 2, 1) := by decide +kernel
theorem dX0_hasRightThresholds_21 : decode cX0_hasRightThresholds 21 = .ok (.iconst 1, 1) := by decide +kernel
theorem dX0_hasRightThresholds_22 : decode cX0_hasRightThresholds 22 = .ok (.iadd, 1) := by decide +kernel
theorem dX0_hasRightThresholds_23 : decode cX0_hasRightThresholds 23 = .ok (.iaload, 1) := by decide +kernel
theorem dX0_hasRightThresholds_24 : decode cX0_hasRightThresholds 24 = .ok (.aload_n 0, 1) := by decide +kernel
theorem dX0_hasRightThresholds_25 : decode cX0_hasRightThresholds 25 = .ok (.getfield 24, 3) := by decide +kernel
theorem dX0_hasRightThresholds_28 : decode cX0_hasRightThresholds 28 = .ok (.iload_n 2, 1) := by decide +kernel
theorem dX0_hasRightThresholds_29 : decode cX0_hasRightThresholds 29 = .ok (.iaload, 1) := by decide +kernel
theorem dX0_hasRightThresholds_30 : decode cX0_hasRightThresholds 30 = .ok (.isub, 1) := by decide +kernel
theorem dX0_hasRightThresholds_31 : decode cX0_hasRightThresholds 31 = .ok (.aload_n 0, 1) := by decide +kernel
theorem dX0_hasRightThresholds_32 : decode cX0_hasRightThresholds 32 = .ok (.getfield 45, 3) := by decide +kernel
theorem dX0_hasRightThresholds_35 : decode cX0_hasRightThresholds 35 = .ok (.iconst 1, 1) := by decide +kernel
theorem dX0_hasRightThresholds_36 : decode cX0_hasRightThresholds 36 = .ok (.iaload, 1) := by decide +kernel
theorem dX0_hasRightThresholds_37 : decode cX0_hasRightThresholds 37 = .ok (.if_icmp .lt 33, 3) := by decide +kernel
theorem dX0_hasRightThresholds_40 : decode cX0_hasRightThresholds 40 = .ok (.aload_n 0, 1) := by decide +kernel
theorem dX0_hasRightThresholds_41 : decode cX0_hasRightThresholds 41 = .ok (.getfield 24, 3) := by decide +kernel
theorem dX0_hasRightThresholds_44 : decode cX0_hasRightThresholds 44 = .ok (.iload_n 2, 1) := by decide +kernel
theorem dX0_hasRightThresholds_45 : decode cX0_hasRightThresholds 45 = .ok (.iconst 2, 1) := by decide +kernel
theorem dX0_hasRightThresholds_46 : decode cX0_hasRightThresholds 46 = .ok (.iadd, 1) := by decide +kernel
theorem dX0_hasRightThresholds_47 : decode cX0_hasRightThresholds 47 = .ok (.iaload, 1) := by decide +kernel
theorem dX0_hasRightThresholds_48 : decode cX0_hasRightThresholds 48 = .ok (.aload_n 0, 1) := by decide +kernel
theorem dX0_hasRightThresholds_49 : decode cX0_hasRightThresholds 49 = .ok (.getfield 24, 3) := by decide +kernel
theorem dX0_hasRightThresholds_52 : decode cX0_hasRightThresholds 52 = .ok (.iload_n 2, 1) := by decide +kernel
theorem dX0_hasRightThresholds_53 : decode cX0_hasRightThresholds 53 = .ok (.iconst 1, 1) := by decide +kernel
theorem dX0_hasRightThresholds_54 : decode cX0_hasRightThresholds 54 = .ok (.iadd, 1) := by decide +kernel
theorem dX0_hasRightThresholds_55 : decode cX0_hasRightThresholds 55 = .ok (.iaload, 1) := by decide +kernel
theorem dX0_hasRightThresholds_56 : decode cX0_hasRightThresholds 56 = .ok (.isub, 1) := by decide +kernel
theorem dX0_hasRightThresholds_57 : decode cX0_hasRightThresholds 57 = .ok (.aload_n 0, 1) := by decide +kernel
theorem dX0_hasRightThresholds_58 : decode cX0_hasRightThresholds 58 = .ok (.getfield 45, 3) := by decide +kernel
theorem dX0_hasRightThresholds_61 : decode cX0_hasRightThresholds 61 = .ok (.iconst 1, 1) := by decide +kernel
theorem dX0_hasRightThresholds_62 : decode cX0_hasRightThresholds 62 = .ok (.iaload, 1) := by decide +kernel
theorem dX0_hasRightThresholds_63 : decode cX0_hasRightThresholds 63 = .ok (.if_icmp .lt 7, 3) := by decide +kernel
theorem dX0_hasRightThresholds_66 : decode cX0_hasRightThresholds 66 = .ok (.iconst 1, 1) := by decide +kernel
theorem dX0_hasRightThresholds_67 : decode cX0_hasRightThresholds 67 = .ok (.goto 4, 3) := by decide +kernel
theorem dX0_hasRightThresholds_70 : decode cX0_hasRightThresholds 70 = .ok (.iconst 0, 1) := by decide +kernel
theorem dX0_hasRightThresholds_71 : decode cX0_hasRightThresholds 71 = .ok (.ireturn, 1) := by decide +kernel
theorem dX0_ownThreshold_0 : decode cX0_ownThreshold 0 = .ok (.iconst 3, 1) := by decide +kernel
theorem dX0_ownThreshold_1 : decode cX0_ownThreshold 1 = .ok (.iload_n 1, 1) := by decide +kernel
theorem dX0_ownThreshold_2 : decode cX0_ownThreshold 2 = .ok (.imul, 1) := by decide +kernel
theorem dX0_ownThreshold_3 : decode cX0_ownThreshold 3 = .ok (.iload_n 2, 1) := by decide +kernel
theorem dX0_ownThreshold_4 : decode cX0_ownThreshold 4 = .ok (.iadd, 1) := by decide +kernel
theorem dX0_ownThreshold_5 : decode cX0_ownThreshold 5 = .ok (.istore_n 3, 1) := by decide +kernel
theorem dX0_ownThreshold_6 : decode cX0_ownThreshold 6 = .ok (.aload_n 0, 1) := by decide +kernel
theorem dX0_ownThreshold_7 : decode cX0_ownThreshold 7 = .ok (.getfield 24, 3) := by decide +kernel
theorem dX0_ownThreshold_10 : decode cX0_ownThreshold 10 = .ok (.iload_n 3, 1) := by decide +kernel
theorem dX0_ownThreshold_11 : decode cX0_ownThreshold 11 = .ok (.iaload, 1) := by decide +kernel
theorem dX0_ownThreshold_12 : decode cX0_ownThreshold 12 = .ok (.aload_n 0, 1) := by decide +kernel
theorem dX0_ownThreshold_13 : decode cX0_ownThreshold 13 = .ok (.getfield 24, 3) := by decide +kernel
theorem dX0_ownThreshold_16 : decode cX0_ownThreshold 16 = .ok (.iload_n 3, 1) := by decide +kernel
theorem dX0_ownThreshold_17 : decode cX0_ownThreshold 17 = .ok (.iconst 1, 1) := by decide +kernel
theorem dX0_ownThreshold_18 : decode cX0_ownThreshold 18 = .ok (.iadd, 1) := by decide +kernel
theorem dX0_ownThreshold_19 : decode cX0_ownThreshold 19 = .ok (.iaload, 1) := by decide +kernel
theorem dX0_ownThreshold_20 : decode cX0_ownThreshold 20 = .ok (.iadd, 1) := by decide +kernel
theorem dX0_ownThreshold_21 : decode cX0_ownThreshold 21 = .ok (.iconst 2, 1) := by decide +kernel
theorem dX0_ownThreshold_22 : decode cX0_ownThreshold 22 = .ok (.idiv, 1) := by decide +kernel
theorem dX0_ownThreshold_23 : decode cX0_ownThreshold 23 = .ok (.ireturn, 1) := by decide +kernel
theorem dX0_source_0 : decode cX0_source 0 = .ok (.aload_n 0, 1) := by decide +kernel
theorem dX0_source_1 : decode cX0_source 1 = .ok (.iload_n 1, 1) := by decide +kernel
theorem dX0_source_2 : decode cX0_source 2 = .ok (.invokevirtual 115, 3) := by decide +kernel
theorem dX0_source_5 : decode cX0_source 5 = .ok (.ifCond .eq 5, 3) := by decide +kernel
theorem dX0_source_8 : decode cX0_source 8 = .ok (.iconst 0, 1) := by decide +kernel
theorem dX0_source_9 : decode cX0_source 9 = .ok (.ireturn, 1) := by decide +kernel
theorem dX0_source_10 : decode cX0_source 10 = .ok (.aload_n 0, 1) := by decide +kernel
theorem dX0_source_11 : decode cX0_source 11 = .ok (.iload_n 1, 1) := by decide +kernel
theorem dX0_source_12 : decode cX0_source 12 = .ok (.iconst 1, 1) := by decide +kernel
theorem dX0_source_13 : decode cX0_source 13 = .ok (.isub, 1) := by decide +kernel
theorem dX0_source_14 : decode cX0_source 14 = .ok (.invokevirtual 115, 3) := by decide +kernel
theorem dX0_source_17 : decode cX0_source 17 = .ok (.ifCond .ne 13, 3) := by decide +kernel
theorem dX0_source_20 : decode cX0_source 20 = .ok (.aload_n 0, 1) := by decide +kernel
theorem dX0_source_21 : decode cX0_source 21 = .ok (.iload_n 1, 1) := by decide +kernel
theorem dX0_source_22 : decode cX0_source 22 = .ok (.iconst 1, 1) := by decide +kernel
theorem dX0_source_23 : decode cX0_source 23 = .ok (.iadd, 1) := by decide +kernel
theorem dX0_source_24 : decode cX0_source 24 = .ok (.invokevirtual 115, 3) := by decide +kernel
theorem dX0_source_27 : decode cX0_source 27 = .ok (.ifCond .eq 7, 3) := by decide +kernel
theorem dX0_source_30 : decode cX0_source 30 = .ok (.iconst 1, 1) := by decide +kernel
theorem dX0_source_31 : decode cX0_source 31 = .ok (.goto 4, 3) := by decide +kernel
theorem dX0_source_34 : decode cX0_source 34 = .ok (.iconst 2, 1) := by decide +kernel
theorem dX0_source_35 : decode cX0_source 35 = .ok (.ireturn, 1) := by decide +kernel
theorem dX0_threshold_0 : decode cX0_threshold 0 = .ok (.aload_n 0, 1) := by decide +kernel
theorem dX0_threshold_1 : decode cX0_threshold 1 = .ok (.iload_n 1, 1) := by decide +kernel
theorem dX0_threshold_2 : decode cX0_threshold 2 = .ok (.invokevirtual 115, 3) := by decide +kernel
theorem dX0_threshold_5 : decode cX0_threshold 5 = .ok (.ifCond .eq 10, 3) := by decide +kernel
theorem dX0_threshold_8 : decode cX0_threshold 8 = .ok (.aload_n 0, 1) := by decide +kernel
theorem dX0_threshold_9 : decode cX0_threshold 9 = .ok (.iload_n 1, 1) := by decide +kernel
theorem dX0_threshold_10 : decode cX0_threshold 10 = .ok (.iload_n 2, 1) := by decide +kernel
theorem dX0_threshold_11 : decode cX0_threshold 11 = .ok (.invokevirtual 104, 3) := by decide +kernel
theorem dX0_threshold_14 : decode cX0_threshold 14 = .ok (.ireturn, 1) := by decide +kernel
theorem dX0_threshold_15 : decode cX0_threshold 15 = .ok (.aload_n 0, 1) := by decide +kernel
theorem dX0_threshold_16 : decode cX0_threshold 16 = .ok (.iload_n 1, 1) := by decide +kernel
theorem dX0_threshold_17 : decode cX0_threshold 17 = .ok (.iconst 1, 1) := by decide +kernel
theorem dX0_threshold_18 : decode cX0_threshold 18 = .ok (.isub, 1) := by decide +kernel
theorem dX0_threshold_19 : decode cX0_threshold 19 = .ok (.invokevirtual 115, 3) := by decide +kernel
theorem dX0_threshold_22 : decode cX0_threshold 22 = .ok (.istore_n 3, 1) := by decide +kernel
theorem dX0_threshold_23 : decode cX0_threshold 23 = .ok (.aload_n 0, 1) := by decide +kernel
theorem dX0_threshold_24 : decode cX0_threshold 24 = .ok (.iload_n 1, 1) := by decide +kernel
theorem dX0_threshold_25 : decode cX0_threshold 25 = .ok (.iconst 1, 1) := by decide +kernel
theorem dX0_threshold_26 : decode cX0_threshold 26 = .ok (.iadd, 1) := by decide +kernel
theorem dX0_threshold_27 : decode cX0_threshold 27 = .ok (.invokevirtual 115, 3) := by decide +kernel
theorem dX0_threshold_30 : decode cX0_threshold 30 = .ok (.istore 4, 2) := by decide +kernel
theorem dX0_threshold_32 : decode cX0_threshold 32 = .ok (.iload_n 3, 1) := by decide +kernel
theorem dX0_threshold_33 : decode cX0_threshold 33 = .ok (.ifCond .eq 28, 3) := by decide +kernel
theorem dX0_threshold_36 : decode cX0_threshold 36 = .ok (.iload 4, 2) := by decide +kernel
theorem dX0_threshold_38 : decode cX0_threshold 38 = .ok (.ifCond .eq 23, 3) := by decide +kernel
theorem dX0_threshold_41 : decode cX0_threshold 41 = .ok (.aload_n 0, 1) := by decide +kernel
theorem dX0_threshold_42 : decode cX0_threshold 42 = .ok (.iload_n 1, 1) := by decide +kernel
theorem dX0_threshold_43 : decode cX0_threshold 43 = .ok (.iconst 1, 1) := by decide +kernel
theorem dX0_threshold_44 : decode cX0_threshold 44 = .ok (.isub, 1) := by decide +kernel
theorem dX0_threshold_45 : decode cX0_threshold 45 = .ok (.iload_n 2, 1) := by decide +kernel
theorem dX0_threshold_46 : decode cX0_threshold 46 = .ok (.invokevirtual 104, 3) := by decide +kernel
theorem dX0_threshold_49 : decode cX0_threshold 49 = .ok (.aload_n 0, 1) := by decide +kernel
theorem dX0_threshold_50 : decode cX0_threshold 50 = .ok (.iload_n 1, 1) := by decide +kernel
theorem dX0_threshold_51 : decode cX0_threshold 51 = .ok (.iconst 1, 1) := by decide +kernel
theorem dX0_threshold_52 : decode cX0_threshold 52 = .ok (.iadd, 1) := by decide +kernel
theorem dX0_threshold_53 : decode cX0_threshold 53 = .ok (.iload_n 2, 1) := by decide +kernel
theorem dX0_threshold_54 : decode cX0_threshold 54 = .ok (.invokevirtual 104, 3) := by decide +kernel
theorem dX0_threshold_57 : decode cX0_threshold 57 = .ok (.iadd, 1) := by decide +kernel
theorem dX0_threshold_58 : decode cX0_threshold 58 = .ok (.iconst 2, 1) := by decide +kernel
theorem dX0_threshold_59 : decode cX0_threshold 59 = .ok (.idiv, 1) := by decide +kernel
theorem dX0_threshold_60 : decode cX0_threshold 60 = .ok (.ireturn, 1) := by decide +kernel
theorem dX0_threshold_61 : decode cX0_threshold 61 = .ok (.iload_n 3, 1) := by decide +kernel
theorem dX0_threshold_62 : decode cX0_threshold 62 = .ok (.ifCond .eq 12, 3) := by decide +kernel
theorem dX0_threshold_65 : decode cX0_threshold 65 = .ok (.aload_n 0, 1) := by decide +kernel
theorem dX0_threshold_66 : decode cX0_threshold 66 = .ok (.iload_n 1, 1) := by decide +kernel
theorem dX0_threshold_67 : decode cX0_threshold 67 = .ok (.iconst 1, 1) := by decide +kernel
theorem dX0_threshold_68 : decode cX0_threshold 68 = .ok (.isub, 1) := by decide +kernel
theorem dX0_threshold_69 : decode cX0_threshold 69 = .ok (.iload_n 2, 1) := by decide +kernel
theorem dX0_threshold_70 : decode cX0_threshold 70 = .ok (.invokevirtual 104, 3) := by decide +kernel
theorem dX0_threshold_73 : decode cX0_threshold 73 = .ok (.ireturn, 1) := by decide +kernel
theorem dX0_threshold_74 : decode cX0_threshold 74 = .ok (.iload 4, 2) := by decide +kernel
theorem dX0_threshold_76 : decode cX0_threshold 76 = .ok (.ifCond .eq 12, 3) := by decide +kernel
theorem dX0_threshold_79 : decode cX0_threshold 79 = .ok (.aload_n 0, 1) := by decide +kernel
theorem dX0_threshold_80 : decode cX0_threshold 80 = .ok (.iload_n 1, 1) := by decide +kernel
theorem dX0_threshold_81 : decode cX0_threshold 81 = .ok (.iconst 1, 1) := by decide +kernel
theorem dX0_threshold_82 : decode cX0_threshold 82 = .ok (.iadd, 1) := by decide +kernel
theorem dX0_threshold_83 : decode cX0_threshold 83 = .ok (.iload_n 2, 1) := by decide +kernel
theorem dX0_threshold_84 : decode cX0_threshold 84 = .ok (.invokevirtual 104, 3) := by decide +kernel
theorem dX0_threshold_87 : decode cX0_threshold 87 = .ok (.ireturn, 1) := by decide +kernel
theorem dX0_threshold_88 : decode cX0_threshold 88 = .ok (.iload_n 2, 1) := by decide +kernel
theorem dX0_threshold_89 : decode cX0_threshold 89 = .ok (.ifCond .ne 9, 3) := by decide +kernel
theorem dX0_threshold_92 : decode cX0_threshold 92 = .ok (.sipush 300, 3) := by decide +kernel
theorem dX0_threshold_95 : decode cX0_threshold 95 = .ok (.goto 6, 3) := by decide +kernel
theorem dX0_threshold_98 : decode cX0_threshold 98 = .ok (.sipush 700, 3) := by decide +kernel
theorem dX0_threshold_101 : decode cX0_threshold 101 = .ok (.ireturn, 1) := by decide +kernel
theorem dX0_tell_0 : decode cX0_tell 0 = .ok (.iload_n 0, 1) := by decide +kernel
theorem dX0_tell_1 : decode cX0_tell 1 = .ok (.iload_n 1, 1) := by decide +kernel
theorem dX0_tell_2 : decode cX0_tell 2 = .ok (.if_icmp .ge 5, 3) := by decide +kernel
theorem dX0_tell_5 : decode cX0_tell 5 = .ok (.iconst 0, 1) := by decide +kernel
theorem dX0_tell_6 : decode cX0_tell 6 = .ok (.ireturn, 1) := by decide +kernel
theorem dX0_tell_7 : decode cX0_tell 7 = .ok (.iload_n 0, 1) := by decide +kernel
theorem dX0_tell_8 : decode cX0_tell 8 = .ok (.iload_n 2, 1) := by decide +kernel
theorem dX0_tell_9 : decode cX0_tell 9 = .ok (.if_icmp .lt 7, 3) := by decide +kernel
theorem dX0_tell_12 : decode cX0_tell 12 = .ok (.iconst 2, 1) := by decide +kernel
theorem dX0_tell_13 : decode cX0_tell 13 = .ok (.goto 4, 3) := by decide +kernel
theorem dX0_tell_16 : decode cX0_tell 16 = .ok (.iconst 1, 1) := by decide +kernel
theorem dX0_tell_17 : decode cX0_tell 17 = .ok (.ireturn, 1) := by decide +kernel
theorem dX0_wrongBy_0 : decode cX0_wrongBy 0 = .ok (.iconst 0, 1) := by decide +kernel
theorem dX0_wrongBy_1 : decode cX0_wrongBy 1 = .ok (.istore 4, 2) := by decide +kernel
theorem dX0_wrongBy_3 : decode cX0_wrongBy 3 = .ok (.iconst 0, 1) := by decide +kernel
theorem dX0_wrongBy_4 : decode cX0_wrongBy 4 = .ok (.istore 5, 2) := by decide +kernel
theorem dX0_wrongBy_6 : decode cX0_wrongBy 6 = .ok (.iload 5, 2) := by decide +kernel
theorem dX0_wrongBy_8 : decode cX0_wrongBy 8 = .ok (.bipush 8, 2) := by decide +kernel
theorem dX0_wrongBy_10 : decode cX0_wrongBy 10 = .ok (.if_icmp .ge 43, 3) := by decide +kernel
theorem dX0_wrongBy_13 : decode cX0_wrongBy 13 = .ok (.bipush 8, 2) := by decide +kernel
theorem dX0_wrongBy_15 : decode cX0_wrongBy 15 = .ok (.iload_n 1, 1) := by decide +kernel
theorem dX0_wrongBy_16 : decode cX0_wrongBy 16 = .ok (.imul, 1) := by decide +kernel
theorem dX0_wrongBy_17 : decode cX0_wrongBy 17 = .ok (.iload 5, 2) := by decide +kernel
theorem dX0_wrongBy_19 : decode cX0_wrongBy 19 = .ok (.iadd, 1) := by decide +kernel
theorem dX0_wrongBy_20 : decode cX0_wrongBy 20 = .ok (.istore 6, 2) := by decide +kernel
theorem dX0_wrongBy_22 : decode cX0_wrongBy 22 = .ok (.aload_n 0, 1) := by decide +kernel
theorem dX0_wrongBy_23 : decode cX0_wrongBy 23 = .ok (.getfield 15, 3) := by decide +kernel
theorem dX0_wrongBy_26 : decode cX0_wrongBy 26 = .ok (.iload 6, 2) := by decide +kernel
theorem dX0_wrongBy_28 : decode cX0_wrongBy 28 = .ok (.iaload, 1) := by decide +kernel
theorem dX0_wrongBy_29 : decode cX0_wrongBy 29 = .ok (.iload_n 2, 1) := by decide +kernel
theorem dX0_wrongBy_30 : decode cX0_wrongBy 30 = .ok (.iload_n 3, 1) := by decide +kernel
theorem dX0_wrongBy_31 : decode cX0_wrongBy 31 = .ok (.invokestatic 83, 3) := by decide +kernel
theorem dX0_wrongBy_34 : decode cX0_wrongBy 34 = .ok (.aload_n 0, 1) := by decide +kernel
theorem dX0_wrongBy_35 : decode cX0_wrongBy 35 = .ok (.getfield 9, 3) := by decide +kernel
theorem dX0_wrongBy_38 : decode cX0_wrongBy 38 = .ok (.iload 6, 2) := by decide +kernel
theorem dX0_wrongBy_40 : decode cX0_wrongBy 40 = .ok (.iaload, 1) := by decide +kernel
theorem dX0_wrongBy_41 : decode cX0_wrongBy 41 = .ok (.if_icmp .eq 6, 3) := by decide +kernel
theorem dX0_wrongBy_44 : decode cX0_wrongBy 44 = .ok (.iinc 4 1, 3) := by decide +kernel
theorem dX0_wrongBy_47 : decode cX0_wrongBy 47 = .ok (.iinc 5 1, 3) := by decide +kernel
theorem dX0_wrongBy_50 : decode cX0_wrongBy 50 = .ok (.goto (-44), 3) := by decide +kernel
theorem dX0_wrongBy_53 : decode cX0_wrongBy 53 = .ok (.iload 4, 2) := by decide +kernel
theorem dX0_wrongBy_55 : decode cX0_wrongBy 55 = .ok (.ireturn, 1) := by decide +kernel
theorem dX0_toldWord_0 : decode cX0_toldWord 0 = .ok (.aload_n 0, 1) := by decide +kernel
theorem dX0_toldWord_1 : decode cX0_toldWord 1 = .ok (.iload_n 1, 1) := by decide +kernel
theorem dX0_toldWord_2 : decode cX0_toldWord 2 = .ok (.iconst 0, 1) := by decide +kernel
theorem dX0_toldWord_3 : decode cX0_toldWord 3 = .ok (.invokevirtual 79, 3) := by decide +kernel
theorem dX0_toldWord_6 : decode cX0_toldWord 6 = .ok (.istore_n 2, 1) := by decide +kernel
theorem dX0_toldWord_7 : decode cX0_toldWord 7 = .ok (.aload_n 0, 1) := by decide +kernel
theorem dX0_toldWord_8 : decode cX0_toldWord 8 = .ok (.iload_n 1, 1) := by decide +kernel
theorem dX0_toldWord_9 : decode cX0_toldWord 9 = .ok (.iconst 1, 1) := by decide +kernel
theorem dX0_toldWord_10 : decode cX0_toldWord 10 = .ok (.invokevirtual 79, 3) := by decide +kernel
theorem dX0_toldWord_13 : decode cX0_toldWord 13 = .ok (.istore_n 3, 1) := by decide +kernel
theorem dX0_toldWord_14 : decode cX0_toldWord 14 = .ok (.iconst 0, 1) := by decide +kernel
theorem dX0_toldWord_15 : decode cX0_toldWord 15 = .ok (.istore 4, 2) := by decide +kernel
theorem dX0_toldWord_17 : decode cX0_toldWord 17 = .ok (.bipush 7, 2) := by decide +kernel
theorem dX0_toldWord_19 : decode cX0_toldWord 19 = .ok (.istore 5, 2) := by decide +kernel
theorem dX0_toldWord_21 : decode cX0_toldWord 21 = .ok (.iload 5, 2) := by decide +kernel
theorem dX0_toldWord_23 : decode cX0_toldWord 23 = .ok (.ifCond .lt 33, 3) := by decide +kernel
theorem dX0_toldWord_26 : decode cX0_toldWord 26 = .ok (.iconst 3, 1) := by decide +kernel
theorem dX0_toldWord_27 : decode cX0_toldWord 27 = .ok (.iload 4, 2) := by decide +kernel
theorem dX0_toldWord_29 : decode cX0_toldWord 29 = .ok (.imul, 1) := by decide +kernel
theorem dX0_toldWord_30 : decode cX0_toldWord 30 = .ok (.aload_n 0, 1) := by decide +kernel
theorem dX0_toldWord_31 : decode cX0_toldWord 31 = .ok (.getfield 15, 3) := by decide +kernel
theorem dX0_toldWord_34 : decode cX0_toldWord 34 = .ok (.bipush 8, 2) := by decide +kernel
theorem dX0_toldWord_36 : decode cX0_toldWord 36 = .ok (.iload_n 1, 1) := by decide +kernel
theorem dX0_toldWord_37 : decode cX0_toldWord 37 = .ok (.imul, 1) := by decide +kernel
theorem dX0_toldWord_38 : decode cX0_toldWord 38 = .ok (.iload 5, 2) := by decide +kernel
theorem dX0_toldWord_40 : decode cX0_toldWord 40 = .ok (.iadd, 1) := by decide +kernel
theorem dX0_toldWord_41 : decode cX0_toldWord 41 = .ok (.iaload, 1) := by decide +kernel
theorem dX0_toldWord_42 : decode cX0_toldWord 42 = .ok (.iload_n 2, 1) := by decide +kernel
theorem dX0_toldWord_43 : decode cX0_toldWord 43 = .ok (.iload_n 3, 1) := by decide +kernel
theorem dX0_toldWord_44 : decode cX0_toldWord 44 = .ok (.invokestatic 83, 3) := by decide +kernel
theorem dX0_toldWord_47 : decode cX0_toldWord 47 = .ok (.iadd, 1) := by decide +kernel
theorem dX0_toldWord_48 : decode cX0_toldWord 48 = .ok (.istore 4, 2) := by decide +kernel
theorem dX0_toldWord_50 : decode cX0_toldWord 50 = .ok (.iinc 5 (-1), 3) := by decide +kernel
theorem dX0_toldWord_53 : decode cX0_toldWord 53 = .ok (.goto (-32), 3) := by decide +kernel
theorem dX0_toldWord_56 : decode cX0_toldWord 56 = .ok (.iload 4, 2) := by decide +kernel
theorem dX0_toldWord_58 : decode cX0_toldWord 58 = .ok (.ireturn, 1) := by decide +kernel
theorem dX0_levelWord_0 : decode cX0_levelWord 0 = .ok (.iconst 0, 1) := by decide +kernel
theorem dX0_levelWord_1 : decode cX0_levelWord 1 = .ok (.istore_n 2, 1) := by decide +kernel
theorem dX0_levelWord_2 : decode cX0_levelWord 2 = .ok (.bipush 7, 2) := by decide +kernel
theorem dX0_levelWord_4 : decode cX0_levelWord 4 = .ok (.istore_n 3, 1) := by decide +kernel
theorem dX0_levelWord_5 : decode cX0_levelWord 5 = .ok (.iload_n 3, 1) := by decide +kernel
theorem dX0_levelWord_6 : decode cX0_levelWord 6 = .ok (.ifCond .lt 25, 3) := by decide +kernel
theorem dX0_levelWord_9 : decode cX0_levelWord 9 = .ok (.iconst 3, 1) := by decide +kernel
theorem dX0_levelWord_10 : decode cX0_levelWord 10 = .ok (.iload_n 2, 1) := by decide +kernel
theorem dX0_levelWord_11 : decode cX0_levelWord 11 = .ok (.imul, 1) := by decide +kernel
theorem dX0_levelWord_12 : decode cX0_levelWord 12 = .ok (.aload_n 0, 1) := by decide +kernel
theorem dX0_levelWord_13 : decode cX0_levelWord 13 = .ok (.getfield 9, 3) := by decide +kernel
theorem dX0_levelWord_16 : decode cX0_levelWord 16 = .ok (.bipush 8, 2) := by decide +kernel
theorem dX0_levelWord_18 : decode cX0_levelWord 18 = .ok (.iload_n 1, 1) := by decide +kernel
theorem dX0_levelWord_19 : decode cX0_levelWord 19 = .ok (.imul, 1) := by decide +kernel
theorem dX0_levelWord_20 : decode cX0_levelWord 20 = .ok (.iload_n 3, 1) := by decide +kernel
theorem dX0_levelWord_21 : decode cX0_levelWord 21 = .ok (.iadd, 1) := by decide +kernel
theorem dX0_levelWord_22 : decode cX0_levelWord 22 = .ok (.iaload, 1) := by decide +kernel
theorem dX0_levelWord_23 : decode cX0_levelWord 23 = .ok (.iadd, 1) := by decide +kernel
theorem dX0_levelWord_24 : decode cX0_levelWord 24 = .ok (.istore_n 2, 1) := by decide +kernel
theorem dX0_levelWord_25 : decode cX0_levelWord 25 = .ok (.iinc 3 (-1), 3) := by decide +kernel
theorem dX0_levelWord_28 : decode cX0_levelWord 28 = .ok (.goto (-23), 3) := by decide +kernel
theorem dX0_levelWord_31 : decode cX0_levelWord 31 = .ok (.iload_n 2, 1) := by decide +kernel
theorem dX0_levelWord_32 : decode cX0_levelWord 32 = .ok (.ireturn, 1) := by decide +kernel
theorem dX0_aim_0 : decode cX0_aim 0 = .ok (.bipush 100, 2) := by decide +kernel
theorem dX0_aim_2 : decode cX0_aim 2 = .ok (.sipush 400, 3) := by decide +kernel
theorem dX0_aim_5 : decode cX0_aim 5 = .ok (.iload_n 0, 1) := by decide +kernel
theorem dX0_aim_6 : decode cX0_aim 6 = .ok (.imul, 1) := by decide +kernel
theorem dX0_aim_7 : decode cX0_aim 7 = .ok (.iadd, 1) := by decide +kernel
theorem dX0_aim_8 : decode cX0_aim 8 = .ok (.ireturn, 1) := by decide +kernel
theorem dX0_put_0 : decode cX0_put 0 = .ok (.bipush 37, 2) := by decide +kernel
theorem dX0_put_2 : decode cX0_put 2 = .ok (.iload_n 1, 1) := by decide +kernel
theorem dX0_put_3 : decode cX0_put 3 = .ok (.imul, 1) := by decide +kernel
theorem dX0_put_4 : decode cX0_put 4 = .ok (.bipush 11, 2) := by decide +kernel
theorem dX0_put_6 : decode cX0_put 6 = .ok (.aload_n 0, 1) := by decide +kernel
theorem dX0_put_7 : decode cX0_put 7 = .ok (.getfield 18, 3) := by decide +kernel
theorem dX0_put_10 : decode cX0_put 10 = .ok (.iload_n 1, 1) := by decide +kernel
theorem dX0_put_11 : decode cX0_put 11 = .ok (.iaload, 1) := by decide +kernel
theorem dX0_put_12 : decode cX0_put 12 = .ok (.imul, 1) := by decide +kernel
theorem dX0_put_13 : decode cX0_put 13 = .ok (.iadd, 1) := by decide +kernel
theorem dX0_put_14 : decode cX0_put 14 = .ok (.bipush 21, 2) := by decide +kernel
theorem dX0_put_16 : decode cX0_put 16 = .ok (.irem, 1) := by decide +kernel
theorem dX0_put_17 : decode cX0_put 17 = .ok (.bipush 10, 2) := by decide +kernel
theorem dX0_put_19 : decode cX0_put 19 = .ok (.isub, 1) := by decide +kernel
theorem dX0_put_20 : decode cX0_put 20 = .ok (.istore_n 3, 1) := by decide +kernel
theorem dX0_put_21 : decode cX0_put 21 = .ok (.aload_n 0, 1) := by decide +kernel
theorem dX0_put_22 : decode cX0_put 22 = .ok (.getfield 9, 3) := by decide +kernel
theorem dX0_put_25 : decode cX0_put 25 = .ok (.iload_n 1, 1) := by decide +kernel
theorem dX0_put_26 : decode cX0_put 26 = .ok (.iload_n 2, 1) := by decide +kernel
theorem dX0_put_27 : decode cX0_put 27 = .ok (.iastore, 1) := by decide +kernel
theorem dX0_put_28 : decode cX0_put 28 = .ok (.aload_n 0, 1) := by decide +kernel
theorem dX0_put_29 : decode cX0_put 29 = .ok (.getfield 15, 3) := by decide +kernel
theorem dX0_put_32 : decode cX0_put 32 = .ok (.iload_n 1, 1) := by decide +kernel
theorem dX0_put_33 : decode cX0_put 33 = .ok (.iload_n 2, 1) := by decide +kernel
theorem dX0_put_34 : decode cX0_put 34 = .ok (.invokestatic 154, 3) := by decide +kernel
theorem dX0_put_37 : decode cX0_put 37 = .ok (.iload_n 3, 1) := by decide +kernel
theorem dX0_put_38 : decode cX0_put 38 = .ok (.iadd, 1) := by decide +kernel
theorem dX0_put_39 : decode cX0_put 39 = .ok (.iastore, 1) := by decide +kernel
theorem dX0_put_40 : decode cX0_put 40 = .ok (.aload_n 0, 1) := by decide +kernel
theorem dX0_put_41 : decode cX0_put 41 = .ok (.getfield 18, 3) := by decide +kernel
theorem dX0_put_44 : decode cX0_put 44 = .ok (.iload_n 1, 1) := by decide +kernel
theorem dX0_put_45 : decode cX0_put 45 = .ok (.dup2, 1) := by decide +kernel
theorem dX0_put_46 : decode cX0_put 46 = .ok (.iaload, 1) := by decide +kernel
theorem dX0_put_47 : decode cX0_put 47 = .ok (.iconst 1, 1) := by decide +kernel
theorem dX0_put_48 : decode cX0_put 48 = .ok (.iadd, 1) := by decide +kernel
theorem dX0_put_49 : decode cX0_put 49 = .ok (.iastore, 1) := by decide +kernel
theorem dX0_put_50 : decode cX0_put 50 = .ok (.aload_n 0, 1) := by decide +kernel
theorem dX0_put_51 : decode cX0_put 51 = .ok (.getfield 21, 3) := by decide +kernel
theorem dX0_put_54 : decode cX0_put 54 = .ok (.iload_n 1, 1) := by decide +kernel
theorem dX0_put_55 : decode cX0_put 55 = .ok (.aload_n 0, 1) := by decide +kernel
theorem dX0_put_56 : decode cX0_put 56 = .ok (.getfield 62, 3) := by decide +kernel
theorem dX0_put_59 : decode cX0_put 59 = .ok (.iastore, 1) := by decide +kernel
theorem dX0_put_60 : decode cX0_put 60 = .ok (.return_, 1) := by decide +kernel
theorem dX0_writeGuards_0 : decode cX0_writeGuards 0 = .ok (.iconst 0, 1) := by decide +kernel
theorem dX0_writeGuards_1 : decode cX0_writeGuards 1 = .ok (.istore_n 2, 1) := by decide +kernel
theorem dX0_writeGuards_2 : decode cX0_writeGuards 2 = .ok (.iload_n 2, 1) := by decide +kernel
theorem dX0_writeGuards_3 : decode cX0_writeGuards 3 = .ok (.iconst 3, 1) := by decide +kernel
theorem dX0_writeGuards_4 : decode cX0_writeGuards 4 = .ok (.if_icmp .ge 34, 3) := by decide +kernel
theorem dX0_writeGuards_7 : decode cX0_writeGuards 7 = .ok (.iconst 3, 1) := by decide +kernel
theorem dX0_writeGuards_8 : decode cX0_writeGuards 8 = .ok (.iload_n 1, 1) := by decide +kernel
theorem dX0_writeGuards_9 : decode cX0_writeGuards 9 = .ok (.imul, 1) := by decide +kernel
theorem dX0_writeGuards_10 : decode cX0_writeGuards 10 = .ok (.iload_n 2, 1) := by decide +kernel
theorem dX0_writeGuards_11 : decode cX0_writeGuards 11 = .ok (.iadd, 1) := by decide +kernel
theorem dX0_writeGuards_12 : decode cX0_writeGuards 12 = .ok (.istore_n 3, 1) := by decide +kernel
theorem dX0_writeGuards_13 : decode cX0_writeGuards 13 = .ok (.aload_n 0, 1) := by decide +kernel
theorem dX0_writeGuards_14 : decode cX0_writeGuards 14 = .ok (.getfield 27, 3) := by decide +kernel
theorem dX0_writeGuards_17 : decode cX0_writeGuards 17 = .ok (.iload_n 3, 1) := by decide +kernel
theorem dX0_writeGuards_18 : decode cX0_writeGuards 18 = .ok (.iaload, 1) := by decide +kernel
theorem dX0_writeGuards_19 : decode cX0_writeGuards 19 = .ok (.ifCond .ne 13, 3) := by decide +kernel
theorem dX0_writeGuards_22 : decode cX0_writeGuards 22 = .ok (.aload_n 0, 1) := by decide +kernel
theorem dX0_writeGuards_23 : decode cX0_writeGuards 23 = .ok (.getfield 24, 3) := by decide +kernel
theorem dX0_writeGuards_26 : decode cX0_writeGuards 26 = .ok (.iload_n 3, 1) := by decide +kernel
theorem dX0_writeGuards_27 : decode cX0_writeGuards 27 = .ok (.iload_n 2, 1) := by decide +kernel
theorem dX0_writeGuards_28 : decode cX0_writeGuards 28 = .ok (.invokestatic 154, 3) := by decide +kernel
theorem dX0_writeGuards_31 : decode cX0_writeGuards 31 = .ok (.iastore, 1) := by decide +kernel
theorem dX0_writeGuards_32 : decode cX0_writeGuards 32 = .ok (.iinc 2 1, 3) := by decide +kernel
theorem dX0_writeGuards_35 : decode cX0_writeGuards 35 = .ok (.goto (-33), 3) := by decide +kernel
theorem dX0_writeGuards_38 : decode cX0_writeGuards 38 = .ok (.aload_n 0, 1) := by decide +kernel
theorem dX0_writeGuards_39 : decode cX0_writeGuards 39 = .ok (.getfield 33, 3) := by decide +kernel
theorem dX0_writeGuards_42 : decode cX0_writeGuards 42 = .ok (.iload_n 1, 1) := by decide +kernel
theorem dX0_writeGuards_43 : decode cX0_writeGuards 43 = .ok (.aload_n 0, 1) := by decide +kernel
theorem dX0_writeGuards_44 : decode cX0_writeGuards 44 = .ok (.getfield 62, 3) := by decide +kernel
theorem dX0_writeGuards_47 : decode cX0_writeGuards 47 = .ok (.iastore, 1) := by decide +kernel
theorem dX0_writeGuards_48 : decode cX0_writeGuards 48 = .ok (.return_, 1) := by decide +kernel
theorem dX0_drift_0 : decode cX0_drift 0 = .ok (.iconst 0, 1) := by decide +kernel
theorem dX0_drift_1 : decode cX0_drift 1 = .ok (.istore_n 1, 1) := by decide +kernel
theorem dX0_drift_2 : decode cX0_drift 2 = .ok (.iload_n 1, 1) := by decide +kernel
theorem dX0_drift_3 : decode cX0_drift 3 = .ok (.bipush 48, 2) := by decide +kernel
theorem dX0_drift_5 : decode cX0_drift 5 = .ok (.if_icmp .ge 34, 3) := by decide +kernel
theorem dX0_drift_8 : decode cX0_drift 8 = .ok (.aload_n 0, 1) := by decide +kernel
theorem dX0_drift_9 : decode cX0_drift 9 = .ok (.getfield 15, 3) := by decide +kernel
theorem dX0_drift_12 : decode cX0_drift 12 = .ok (.iload_n 1, 1) := by decide +kernel
theorem dX0_drift_13 : decode cX0_drift 13 = .ok (.aload_n 0, 1) := by decide +kernel
theorem dX0_drift_14 : decode cX0_drift 14 = .ok (.aload_n 0, 1) := by decide +kernel
theorem dX0_drift_15 : decode cX0_drift 15 = .ok (.getfield 15, 3) := by decide +kernel
theorem dX0_drift_18 : decode cX0_drift 18 = .ok (.iload_n 1, 1) := by decide +kernel
theorem dX0_drift_19 : decode cX0_drift 19 = .ok (.iaload, 1) := by decide +kernel
theorem dX0_drift_20 : decode cX0_drift 20 = .ok (.aload_n 0, 1) := by decide +kernel
theorem dX0_drift_21 : decode cX0_drift 21 = .ok (.getfield 30, 3) := by decide +kernel
theorem dX0_drift_24 : decode cX0_drift 24 = .ok (.iload_n 1, 1) := by decide +kernel
theorem dX0_drift_25 : decode cX0_drift 25 = .ok (.bipush 8, 2) := by decide +kernel
theorem dX0_drift_27 : decode cX0_drift 27 = .ok (.idiv, 1) := by decide +kernel
theorem dX0_drift_28 : decode cX0_drift 28 = .ok (.iaload, 1) := by decide +kernel
theorem dX0_drift_29 : decode cX0_drift 29 = .ok (.invokevirtual 157, 3) := by decide +kernel
theorem dX0_drift_32 : decode cX0_drift 32 = .ok (.iastore, 1) := by decide +kernel
theorem dX0_drift_33 : decode cX0_drift 33 = .ok (.iinc 1 1, 3) := by decide +kernel
theorem dX0_drift_36 : decode cX0_drift 36 = .ok (.goto (-34), 3) := by decide +kernel
theorem dX0_drift_39 : decode cX0_drift 39 = .ok (.iconst 0, 1) := by decide +kernel
theorem dX0_drift_40 : decode cX0_drift 40 = .ok (.istore_n 1, 1) := by decide +kernel
theorem dX0_drift_41 : decode cX0_drift 41 = .ok (.iload_n 1, 1) := by decide +kernel
theorem dX0_drift_42 : decode cX0_drift 42 = .ok (.bipush 18, 2) := by decide +kernel
theorem dX0_drift_44 : decode cX0_drift 44 = .ok (.if_icmp .ge 42, 3) := by decide +kernel
theorem dX0_drift_47 : decode cX0_drift 47 = .ok (.aload_n 0, 1) := by decide +kernel
theorem dX0_drift_48 : decode cX0_drift 48 = .ok (.getfield 27, 3) := by decide +kernel
theorem dX0_drift_51 : decode cX0_drift 51 = .ok (.iload_n 1, 1) := by decide +kernel
theorem dX0_drift_52 : decode cX0_drift 52 = .ok (.iaload, 1) := by decide +kernel
theorem dX0_drift_53 : decode cX0_drift 53 = .ok (.ifCond .ne 27, 3) := by decide +kernel
theorem dX0_drift_56 : decode cX0_drift 56 = .ok (.aload_n 0, 1) := by decide +kernel
theorem dX0_drift_57 : decode cX0_drift 57 = .ok (.getfield 24, 3) := by decide +kernel
theorem dX0_drift_60 : decode cX0_drift 60 = .ok (.iload_n 1, 1) := by decide +kernel
theorem dX0_drift_61 : decode cX0_drift 61 = .ok (.aload_n 0, 1) := by decide +kernel
theorem dX0_drift_62 : decode cX0_drift 62 = .ok (.aload_n 0, 1) := by decide +kernel
theorem dX0_drift_63 : decode cX0_drift 63 = .ok (.getfield 24, 3) := by decide +kernel
theorem dX0_drift_66 : decode cX0_drift 66 = .ok (.iload_n 1, 1) := by decide +kernel
theorem dX0_drift_67 : decode cX0_drift 67 = .ok (.iaload, 1) := by decide +kernel
theorem dX0_drift_68 : decode cX0_drift 68 = .ok (.aload_n 0, 1) := by decide +kernel
theorem dX0_drift_69 : decode cX0_drift 69 = .ok (.getfield 30, 3) := by decide +kernel
theorem dX0_drift_72 : decode cX0_drift 72 = .ok (.iload_n 1, 1) := by decide +kernel
theorem dX0_drift_73 : decode cX0_drift 73 = .ok (.iconst 3, 1) := by decide +kernel
theorem dX0_drift_74 : decode cX0_drift 74 = .ok (.idiv, 1) := by decide +kernel
theorem dX0_drift_75 : decode cX0_drift 75 = .ok (.iaload, 1) := by decide +kernel
theorem dX0_drift_76 : decode cX0_drift 76 = .ok (.invokevirtual 157, 3) := by decide +kernel
theorem dX0_drift_79 : decode cX0_drift 79 = .ok (.iastore, 1) := by decide +kernel
theorem dX0_drift_80 : decode cX0_drift 80 = .ok (.iinc 1 1, 3) := by decide +kernel
theorem dX0_drift_83 : decode cX0_drift 83 = .ok (.goto (-42), 3) := by decide +kernel
theorem dX0_drift_86 : decode cX0_drift 86 = .ok (.return_, 1) := by decide +kernel
theorem dX0_nearer_0 : decode cX0_nearer 0 = .ok (.aload_n 0, 1) := by decide +kernel
theorem dX0_nearer_1 : decode cX0_nearer 1 = .ok (.getfield 45, 3) := by decide +kernel
theorem dX0_nearer_4 : decode cX0_nearer 4 = .ok (.iconst 0, 1) := by decide +kernel
theorem dX0_nearer_5 : decode cX0_nearer 5 = .ok (.iaload, 1) := by decide +kernel
theorem dX0_nearer_6 : decode cX0_nearer 6 = .ok (.istore_n 3, 1) := by decide +kernel
theorem dX0_nearer_7 : decode cX0_nearer 7 = .ok (.iload_n 1, 1) := by decide +kernel
theorem dX0_nearer_8 : decode cX0_nearer 8 = .ok (.iload_n 3, 1) := by decide +kernel
theorem dX0_nearer_9 : decode cX0_nearer 9 = .ok (.if_icmp .ge 19, 3) := by decide +kernel
theorem dX0_nearer_12 : decode cX0_nearer 12 = .ok (.iload_n 1, 1) := by decide +kernel
theorem dX0_nearer_13 : decode cX0_nearer 13 = .ok (.iconst 1, 1) := by decide +kernel
theorem dX0_nearer_14 : decode cX0_nearer 14 = .ok (.iload_n 3, 1) := by decide +kernel
theorem dX0_nearer_15 : decode cX0_nearer 15 = .ok (.iload_n 1, 1) := by decide +kernel
theorem dX0_nearer_16 : decode cX0_nearer 16 = .ok (.isub, 1) := by decide +kernel
theorem dX0_nearer_17 : decode cX0_nearer 17 = .ok (.iload_n 2, 1) := by decide +kernel
theorem dX0_nearer_18 : decode cX0_nearer 18 = .ok (.imul, 1) := by decide +kernel
theorem dX0_nearer_19 : decode cX0_nearer 19 = .ok (.sipush 1000, 3) := by decide +kernel
theorem dX0_nearer_22 : decode cX0_nearer 22 = .ok (.idiv, 1) := by decide +kernel
theorem dX0_nearer_23 : decode cX0_nearer 23 = .ok (.invokestatic 160, 3) := by decide +kernel
theorem dX0_nearer_26 : decode cX0_nearer 26 = .ok (.iadd, 1) := by decide +kernel
theorem dX0_nearer_27 : decode cX0_nearer 27 = .ok (.ireturn, 1) := by decide +kernel
theorem dX0_nearer_28 : decode cX0_nearer 28 = .ok (.iload_n 1, 1) := by decide +kernel
theorem dX0_nearer_29 : decode cX0_nearer 29 = .ok (.iload_n 3, 1) := by decide +kernel
theorem dX0_nearer_30 : decode cX0_nearer 30 = .ok (.if_icmp .le 19, 3) := by decide +kernel
theorem dX0_nearer_33 : decode cX0_nearer 33 = .ok (.iload_n 1, 1) := by decide +kernel
theorem dX0_nearer_34 : decode cX0_nearer 34 = .ok (.iconst 1, 1) := by decide +kernel
theorem dX0_nearer_35 : decode cX0_nearer 35 = .ok (.iload_n 1, 1) := by decide +kernel
theorem dX0_nearer_36 : decode cX0_nearer 36 = .ok (.iload_n 3, 1) := by decide +kernel
theorem dX0_nearer_37 : decode cX0_nearer 37 = .ok (.isub, 1) := by decide +kernel
theorem dX0_nearer_38 : decode cX0_nearer 38 = .ok (.iload_n 2, 1) := by decide +kernel
theorem dX0_nearer_39 : decode cX0_nearer 39 = .ok (.imul, 1) := by decide +kernel
theorem dX0_nearer_40 : decode cX0_nearer 40 = .ok (.sipush 1000, 3) := by decide +kernel
theorem dX0_nearer_43 : decode cX0_nearer 43 = .ok (.idiv, 1) := by decide +kernel
theorem dX0_nearer_44 : decode cX0_nearer 44 = .ok (.invokestatic 160, 3) := by decide +kernel
theorem dX0_nearer_47 : decode cX0_nearer 47 = .ok (.isub, 1) := by decide +kernel
theorem dX0_nearer_48 : decode cX0_nearer 48 = .ok (.ireturn, 1) := by decide +kernel
theorem dX0_nearer_49 : decode cX0_nearer 49 = .ok (.iload_n 1, 1) := by decide +kernel
theorem dX0_nearer_50 : decode cX0_nearer 50 = .ok (.ireturn, 1) := by decide +kernel
theorem dX0_age_0 : decode cX0_age 0 = .ok (.aload_n 0, 1) := by decide +kernel
theorem dX0_age_1 : decode cX0_age 1 = .ok (.getfield 62, 3) := by decide +kernel
theorem dX0_age_4 : decode cX0_age 4 = .ok (.aload_n 0, 1) := by decide +kernel
theorem dX0_age_5 : decode cX0_age 5 = .ok (.getfield 33, 3) := by decide +kernel
theorem dX0_age_8 : decode cX0_age 8 = .ok (.iload_n 1, 1) := by decide +kernel
theorem dX0_age_9 : decode cX0_age 9 = .ok (.iaload, 1) := by decide +kernel
theorem dX0_age_10 : decode cX0_age 10 = .ok (.isub, 1) := by decide +kernel
theorem dX0_age_11 : decode cX0_age 11 = .ok (.ireturn, 1) := by decide +kernel
theorem dX0_allWrongCells_0 : decode cX0_allWrongCells 0 = .ok (.iconst 0, 1) := by decide +kernel
theorem dX0_allWrongCells_1 : decode cX0_allWrongCells 1 = .ok (.istore_n 1, 1) := by decide +kernel
theorem dX0_allWrongCells_2 : decode cX0_allWrongCells 2 = .ok (.iconst 0, 1) := by decide +kernel
theorem dX0_allWrongCells_3 : decode cX0_allWrongCells 3 = .ok (.istore_n 2, 1) := by decide +kernel
theorem dX0_allWrongCells_4 : decode cX0_allWrongCells 4 = .ok (.iload_n 2, 1) := by decide +kernel
theorem dX0_allWrongCells_5 : decode cX0_allWrongCells 5 = .ok (.bipush 6, 2) := by decide +kernel
theorem dX0_allWrongCells_7 : decode cX0_allWrongCells 7 = .ok (.if_icmp .ge 17, 3) := by decide +kernel
theorem dX0_allWrongCells_10 : decode cX0_allWrongCells 10 = .ok (.iload_n 1, 1) := by decide +kernel
theorem dX0_allWrongCells_11 : decode cX0_allWrongCells 11 = .ok (.aload_n 0, 1) := by decide +kernel
theorem dX0_allWrongCells_12 : decode cX0_allWrongCells 12 = .ok (.iload_n 2, 1) := by decide +kernel
theorem dX0_allWrongCells_13 : decode cX0_allWrongCells 13 = .ok (.invokevirtual 122, 3) := by decide +kernel
theorem dX0_allWrongCells_16 : decode cX0_allWrongCells 16 = .ok (.iadd, 1) := by decide +kernel
theorem dX0_allWrongCells_17 : decode cX0_allWrongCells 17 = .ok (.istore_n 1, 1) := by decide +kernel
theorem dX0_allWrongCells_18 : decode cX0_allWrongCells 18 = .ok (.iinc 2 1, 3) := by decide +kernel
theorem dX0_allWrongCells_21 : decode cX0_allWrongCells 21 = .ok (.goto (-17), 3) := by decide +kernel
theorem dX0_allWrongCells_24 : decode cX0_allWrongCells 24 = .ok (.iload_n 1, 1) := by decide +kernel
theorem dX0_allWrongCells_25 : decode cX0_allWrongCells 25 = .ok (.ireturn, 1) := by decide +kernel
theorem dX0_rowsWithWrongCells_0 : decode cX0_rowsWithWrongCells 0 = .ok (.iconst 0, 1) := by decide +kernel
theorem dX0_rowsWithWrongCells_1 : decode cX0_rowsWithWrongCells 1 = .ok (.istore_n 1, 1) := by decide +kernel
theorem dX0_rowsWithWrongCells_2 : decode cX0_rowsWithWrongCells 2 = .ok (.iconst 0, 1) := by decide +kernel
theorem dX0_rowsWithWrongCells_3 : decode cX0_rowsWithWrongCells 3 = .ok (.istore_n 2, 1) := by decide +kernel
theorem dX0_rowsWithWrongCells_4 : decode cX0_rowsWithWrongCells 4 = .ok (.iload_n 2, 1) := by decide +kernel
theorem dX0_rowsWithWrongCells_5 : decode cX0_rowsWithWrongCells 5 = .ok (.bipush 6, 2) := by decide +kernel
theorem dX0_rowsWithWrongCells_7 : decode cX0_rowsWithWrongCells 7 = .ok (.if_icmp .ge 23, 3) := by decide +kernel
theorem dX0_rowsWithWrongCells_10 : decode cX0_rowsWithWrongCells 10 = .ok (.aload_n 0, 1) := by decide +kernel
theorem dX0_rowsWithWrongCells_11 : decode cX0_rowsWithWrongCells 11 = .ok (.iload_n 2, 1) := by decide +kernel
theorem dX0_rowsWithWrongCells_12 : decode cX0_rowsWithWrongCells 12 = .ok (.invokevirtual 122, 3) := by decide +kernel
theorem dX0_rowsWithWrongCells_15 : decode cX0_rowsWithWrongCells 15 = .ok (.ifCond .le 9, 3) := by decide +kernel
theorem dX0_rowsWithWrongCells_18 : decode cX0_rowsWithWrongCells 18 = .ok (.iload_n 1, 1) := by decide +kernel
theorem dX0_rowsWithWrongCells_19 : decode cX0_rowsWithWrongCells 19 = .ok (.iconst 1, 1) := by decide +kernel
theorem dX0_rowsWithWrongCells_20 : decode cX0_rowsWithWrongCells 20 = .ok (.iload_n 2, 1) := by decide +kernel
theorem dX0_rowsWithWrongCells_21 : decode cX0_rowsWithWrongCells 21 = .ok (.ishl, 1) := by decide +kernel
theorem dX0_rowsWithWrongCells_22 : decode cX0_rowsWithWrongCells 22 = .ok (.ior, 1) := by decide +kernel
theorem dX0_rowsWithWrongCells_23 : decode cX0_rowsWithWrongCells 23 = .ok (.istore_n 1, 1) := by decide +kernel
theorem dX0_rowsWithWrongCells_24 : decode cX0_rowsWithWrongCells 24 = .ok (.iinc 2 1, 3) := by decide +kernel
theorem dX0_rowsWithWrongCells_27 : decode cX0_rowsWithWrongCells 27 = .ok (.goto (-23), 3) := by decide +kernel
theorem dX0_rowsWithWrongCells_30 : decode cX0_rowsWithWrongCells 30 = .ok (.iload_n 1, 1) := by decide +kernel
theorem dX0_rowsWithWrongCells_31 : decode cX0_rowsWithWrongCells 31 = .ok (.ireturn, 1) := by decide +kernel
theorem dX0_rowsToldBy_0 : decode cX0_rowsToldBy 0 = .ok (.iconst 0, 1) := by decide +kernel
theorem dX0_rowsToldBy_1 : decode cX0_rowsToldBy 1 = .ok (.istore_n 2, 1) := by decide +kernel
theorem dX0_rowsToldBy_2 : decode cX0_rowsToldBy 2 = .ok (.iconst 0, 1) := by decide +kernel
theorem dX0_rowsToldBy_3 : decode cX0_rowsToldBy 3 = .ok (.istore_n 3, 1) := by decide +kernel
theorem dX0_rowsToldBy_4 : decode cX0_rowsToldBy 4 = .ok (.iload_n 3, 1) := by decide +kernel
theorem dX0_rowsToldBy_5 : decode cX0_rowsToldBy 5 = .ok (.bipush 6, 2) := by decide +kernel
theorem dX0_rowsToldBy_7 : decode cX0_rowsToldBy 7 = .ok (.if_icmp .ge 24, 3) := by decide +kernel
theorem dX0_rowsToldBy_10 : decode cX0_rowsToldBy 10 = .ok (.aload_n 0, 1) := by decide +kernel
theorem dX0_rowsToldBy_11 : decode cX0_rowsToldBy 11 = .ok (.iload_n 3, 1) := by decide +kernel
theorem dX0_rowsToldBy_12 : decode cX0_rowsToldBy 12 = .ok (.invokevirtual 119, 3) := by decide +kernel
theorem dX0_rowsToldBy_15 : decode cX0_rowsToldBy 15 = .ok (.iload_n 1, 1) := by decide +kernel
theorem dX0_rowsToldBy_16 : decode cX0_rowsToldBy 16 = .ok (.if_icmp .ne 9, 3) := by decide +kernel
theorem dX0_rowsToldBy_19 : decode cX0_rowsToldBy 19 = .ok (.iload_n 2, 1) := by decide +kernel
theorem dX0_rowsToldBy_20 : decode cX0_rowsToldBy 20 = .ok (.iconst 1, 1) := by decide +kernel
theorem dX0_rowsToldBy_21 : decode cX0_rowsToldBy 21 = .ok (.iload_n 3, 1) := by decide +kernel
theorem dX0_rowsToldBy_22 : decode cX0_rowsToldBy 22 = .ok (.ishl, 1) := by decide +kernel
theorem dX0_rowsToldBy_23 : decode cX0_rowsToldBy 23 = .ok (.ior, 1) := by decide +kernel
theorem dX0_rowsToldBy_24 : decode cX0_rowsToldBy 24 = .ok (.istore_n 2, 1) := by decide +kernel
theorem dX0_rowsToldBy_25 : decode cX0_rowsToldBy 25 = .ok (.iinc 3 1, 3) := by decide +kernel
theorem dX0_rowsToldBy_28 : decode cX0_rowsToldBy 28 = .ok (.goto (-24), 3) := by decide +kernel
theorem dX0_rowsToldBy_31 : decode cX0_rowsToldBy 31 = .ok (.iload_n 2, 1) := by decide +kernel
theorem dX0_rowsToldBy_32 : decode cX0_rowsToldBy 32 = .ok (.ireturn, 1) := by decide +kernel
theorem dX0_pairsTold_0 : decode cX0_pairsTold 0 = .ok (.iconst 0, 1) := by decide +kernel
theorem dX0_pairsTold_1 : decode cX0_pairsTold 1 = .ok (.istore_n 1, 1) := by decide +kernel
theorem dX0_pairsTold_2 : decode cX0_pairsTold 2 = .ok (.iconst 0, 1) := by decide +kernel
theorem dX0_pairsTold_3 : decode cX0_pairsTold 3 = .ok (.istore_n 2, 1) := by decide +kernel
theorem dX0_pairsTold_4 : decode cX0_pairsTold 4 = .ok (.iload_n 2, 1) := by decide +kernel
theorem dX0_pairsTold_5 : decode cX0_pairsTold 5 = .ok (.bipush 9, 2) := by decide +kernel
theorem dX0_pairsTold_7 : decode cX0_pairsTold 7 = .ok (.if_icmp .ge 21, 3) := by decide +kernel
theorem dX0_pairsTold_10 : decode cX0_pairsTold 10 = .ok (.aload_n 0, 1) := by decide +kernel
theorem dX0_pairsTold_11 : decode cX0_pairsTold 11 = .ok (.getfield 42, 3) := by decide +kernel
theorem dX0_pairsTold_14 : decode cX0_pairsTold 14 = .ok (.iload_n 2, 1) := by decide +kernel
theorem dX0_pairsTold_15 : decode cX0_pairsTold 15 = .ok (.iaload, 1) := by decide +kernel
theorem dX0_pairsTold_16 : decode cX0_pairsTold 16 = .ok (.ifCond .le 6, 3) := by decide +kernel
theorem dX0_pairsTold_19 : decode cX0_pairsTold 19 = .ok (.iinc 1 1, 3) := by decide +kernel
theorem dX0_pairsTold_22 : decode cX0_pairsTold 22 = .ok (.iinc 2 1, 3) := by decide +kernel
theorem dX0_pairsTold_25 : decode cX0_pairsTold 25 = .ok (.goto (-21), 3) := by decide +kernel
theorem dX0_pairsTold_28 : decode cX0_pairsTold 28 = .ok (.iload_n 1, 1) := by decide +kernel
theorem dX0_pairsTold_29 : decode cX0_pairsTold 29 = .ok (.ireturn, 1) := by decide +kernel
theorem dX0_cellsOfLevel_0 : decode cX0_cellsOfLevel 0 = .ok (.iconst 0, 1) := by decide +kernel
theorem dX0_cellsOfLevel_1 : decode cX0_cellsOfLevel 1 = .ok (.istore_n 2, 1) := by decide +kernel
theorem dX0_cellsOfLevel_2 : decode cX0_cellsOfLevel 2 = .ok (.iconst 0, 1) := by decide +kernel
theorem dX0_cellsOfLevel_3 : decode cX0_cellsOfLevel 3 = .ok (.istore_n 3, 1) := by decide +kernel
theorem dX0_cellsOfLevel_4 : decode cX0_cellsOfLevel 4 = .ok (.iload_n 3, 1) := by decide +kernel
theorem dX0_cellsOfLevel_5 : decode cX0_cellsOfLevel 5 = .ok (.bipush 48, 2) := by decide +kernel
theorem dX0_cellsOfLevel_7 : decode cX0_cellsOfLevel 7 = .ok (.if_icmp .ge 22, 3) := by decide +kernel
theorem dX0_cellsOfLevel_10 : decode cX0_cellsOfLevel 10 = .ok (.aload_n 0, 1) := by decide +kernel
theorem dX0_cellsOfLevel_11 : decode cX0_cellsOfLevel 11 = .ok (.getfield 9, 3) := by decide +kernel
theorem dX0_cellsOfLevel_14 : decode cX0_cellsOfLevel 14 = .ok (.iload_n 3, 1) := by decide +kernel
theorem dX0_cellsOfLevel_15 : decode cX0_cellsOfLevel 15 = .ok (.iaload, 1) := by decide +kernel
theorem dX0_cellsOfLevel_16 : decode cX0_cellsOfLevel 16 = .ok (.iload_n 1, 1) := by decide +kernel
theorem dX0_cellsOfLevel_17 : decode cX0_cellsOfLevel 17 = .ok (.if_icmp .ne 6, 3) := by decide +kernel
theorem dX0_cellsOfLevel_20 : decode cX0_cellsOfLevel 20 = .ok (.iinc 2 1, 3) := by decide +kernel
theorem dX0_cellsOfLevel_23 : decode cX0_cellsOfLevel 23 = .ok (.iinc 3 1, 3) := by decide +kernel
theorem dX0_cellsOfLevel_26 : decode cX0_cellsOfLevel 26 = .ok (.goto (-22), 3) := by decide +kernel
theorem dX0_cellsOfLevel_29 : decode cX0_cellsOfLevel 29 = .ok (.iload_n 2, 1) := by decide +kernel
theorem dX0_cellsOfLevel_30 : decode cX0_cellsOfLevel 30 = .ok (.ireturn, 1) := by decide +kernel
theorem dX0_sum_0 : decode cX0_sum 0 = .ok (.iconst 0, 1) := by decide +kernel
theorem dX0_sum_1 : decode cX0_sum 1 = .ok (.istore_n 1, 1) := by decide +kernel
theorem dX0_sum_2 : decode cX0_sum 2 = .ok (.iconst 0, 1) := by decide +kernel
theorem dX0_sum_3 : decode cX0_sum 3 = .ok (.istore_n 2, 1) := by decide +kernel
theorem dX0_sum_4 : decode cX0_sum 4 = .ok (.iload_n 2, 1) := by decide +kernel
theorem dX0_sum_5 : decode cX0_sum 5 = .ok (.aload_n 0, 1) := by decide +kernel
theorem dX0_sum_6 : decode cX0_sum 6 = .ok (.arraylength, 1) := by decide +kernel
theorem dX0_sum_7 : decode cX0_sum 7 = .ok (.if_icmp .ge 15, 3) := by decide +kernel
theorem dX0_sum_10 : decode cX0_sum 10 = .ok (.iload_n 1, 1) := by decide +kernel
theorem dX0_sum_11 : decode cX0_sum 11 = .ok (.aload_n 0, 1) := by decide +kernel
theorem dX0_sum_12 : decode cX0_sum 12 = .ok (.iload_n 2, 1) := by decide +kernel
theorem dX0_sum_13 : decode cX0_sum 13 = .ok (.iaload, 1) := by decide +kernel
theorem dX0_sum_14 : decode cX0_sum 14 = .ok (.iadd, 1) := by decide +kernel
theorem dX0_sum_15 : decode cX0_sum 15 = .ok (.istore_n 1, 1) := by decide +kernel
theorem dX0_sum_16 : decode cX0_sum 16 = .ok (.iinc 2 1, 3) := by decide +kernel
theorem dX0_sum_19 : decode cX0_sum 19 = .ok (.goto (-15), 3) := by decide +kernel
theorem dX0_sum_22 : decode cX0_sum 22 = .ok (.iload_n 1, 1) := by decide +kernel
theorem dX0_sum_23 : decode cX0_sum 23 = .ok (.ireturn, 1) := by decide +kernel
theorem dX0_isOutsideCell_0 : decode cX0_isOutsideCell 0 = .ok (.iload_n 0, 1) := by decide +kernel
theorem dX0_isOutsideCell_1 : decode cX0_isOutsideCell 1 = .ok (.iconst 0, 1) := by decide +kernel
theorem dX0_isOutsideCell_2 : decode cX0_isOutsideCell 2 = .ok (.iconst 5, 1) := by decide +kernel
theorem dX0_isOutsideCell_3 : decode cX0_isOutsideCell 3 = .ok (.invokestatic 70, 3) := by decide +kernel
theorem dX0_isOutsideCell_6 : decode cX0_isOutsideCell 6 = .ok (.ifCond .ne 13, 3) := by decide +kernel
theorem dX0_isOutsideCell_9 : decode cX0_isOutsideCell 9 = .ok (.iload_n 1, 1) := by decide +kernel
theorem dX0_isOutsideCell_10 : decode cX0_isOutsideCell 10 = .ok (.iconst 0, 1) := by decide +kernel
theorem dX0_isOutsideCell_11 : decode cX0_isOutsideCell 11 = .ok (.bipush 7, 2) := by decide +kernel
theorem dX0_isOutsideCell_13 : decode cX0_isOutsideCell 13 = .ok (.invokestatic 70, 3) := by decide +kernel
theorem dX0_isOutsideCell_16 : decode cX0_isOutsideCell 16 = .ok (.ifCond .eq 7, 3) := by decide +kernel
theorem dX0_isOutsideCell_19 : decode cX0_isOutsideCell 19 = .ok (.iconst 1, 1) := by decide +kernel
theorem dX0_isOutsideCell_20 : decode cX0_isOutsideCell 20 = .ok (.goto 4, 3) := by decide +kernel
theorem dX0_isOutsideCell_23 : decode cX0_isOutsideCell 23 = .ok (.iconst 0, 1) := by decide +kernel
theorem dX0_isOutsideCell_24 : decode cX0_isOutsideCell 24 = .ok (.ireturn, 1) := by decide +kernel
theorem dX0_isOutsideGuard_0 : decode cX0_isOutsideGuard 0 = .ok (.iload_n 0, 1) := by decide +kernel
theorem dX0_isOutsideGuard_1 : decode cX0_isOutsideGuard 1 = .ok (.iconst 0, 1) := by decide +kernel
theorem dX0_isOutsideGuard_2 : decode cX0_isOutsideGuard 2 = .ok (.iconst 5, 1) := by decide +kernel
theorem dX0_isOutsideGuard_3 : decode cX0_isOutsideGuard 3 = .ok (.invokestatic 70, 3) := by decide +kernel
theorem dX0_isOutsideGuard_6 : decode cX0_isOutsideGuard 6 = .ok (.ifCond .ne 12, 3) := by decide +kernel
theorem dX0_isOutsideGuard_9 : decode cX0_isOutsideGuard 9 = .ok (.iload_n 1, 1) := by decide +kernel
theorem dX0_isOutsideGuard_10 : decode cX0_isOutsideGuard 10 = .ok (.iconst 0, 1) := by decide +kernel
theorem dX0_isOutsideGuard_11 : decode cX0_isOutsideGuard 11 = .ok (.iconst 2, 1) := by decide +kernel
theorem dX0_isOutsideGuard_12 : decode cX0_isOutsideGuard 12 = .ok (.invokestatic 70, 3) := by decide +kernel
theorem dX0_isOutsideGuard_15 : decode cX0_isOutsideGuard 15 = .ok (.ifCond .eq 7, 3) := by decide +kernel
theorem dX0_isOutsideGuard_18 : decode cX0_isOutsideGuard 18 = .ok (.iconst 1, 1) := by decide +kernel
theorem dX0_isOutsideGuard_19 : decode cX0_isOutsideGuard 19 = .ok (.goto 4, 3) := by decide +kernel
theorem dX0_isOutsideGuard_22 : decode cX0_isOutsideGuard 22 = .ok (.iconst 0, 1) := by decide +kernel
theorem dX0_isOutsideGuard_23 : decode cX0_isOutsideGuard 23 = .ok (.ireturn, 1) := by decide +kernel
theorem dX0_isOutsideSetting_0 : decode cX0_isOutsideSetting 0 = .ok (.iload_n 0, 1) := by decide +kernel
theorem dX0_isOutsideSetting_1 : decode cX0_isOutsideSetting 1 = .ok (.lookupswitch 47 #[(0, 27), (1, 38)], 27) := by decide +kernel
theorem dX0_isOutsideSetting_28 : decode cX0_isOutsideSetting 28 = .ok (.iload_n 1, 1) := by decide +kernel
theorem dX0_isOutsideSetting_29 : decode cX0_isOutsideSetting 29 = .ok (.sipush 300, 3) := by decide +kernel
theorem dX0_isOutsideSetting_32 : decode cX0_isOutsideSetting 32 = .ok (.sipush 700, 3) := by decide +kernel
theorem dX0_isOutsideSetting_35 : decode cX0_isOutsideSetting 35 = .ok (.invokestatic 70, 3) := by decide +kernel
theorem dX0_isOutsideSetting_38 : decode cX0_isOutsideSetting 38 = .ok (.ireturn, 1) := by decide +kernel
theorem dX0_isOutsideSetting_39 : decode cX0_isOutsideSetting 39 = .ok (.iload_n 1, 1) := by decide +kernel
theorem dX0_isOutsideSetting_40 : decode cX0_isOutsideSetting 40 = .ok (.iconst 1, 1) := by decide +kernel
theorem dX0_isOutsideSetting_41 : decode cX0_isOutsideSetting 41 = .ok (.sipush 300, 3) := by decide +kernel
theorem dX0_isOutsideSetting_44 : decode cX0_isOutsideSetting 44 = .ok (.invokestatic 70, 3) := by decide +kernel
theorem dX0_isOutsideSetting_47 : decode cX0_isOutsideSetting 47 = .ok (.ireturn, 1) := by decide +kernel
theorem dX0_isOutsideSetting_48 : decode cX0_isOutsideSetting 48 = .ok (.iload_n 1, 1) := by decide +kernel
theorem dX0_isOutsideSetting_49 : decode cX0_isOutsideSetting 49 = .ok (.iconst 0, 1) := by decide +kernel
theorem dX0_isOutsideSetting_50 : decode cX0_isOutsideSetting 50 = .ok (.bipush 99, 2) := by decide +kernel
theorem dX0_isOutsideSetting_52 : decode cX0_isOutsideSetting 52 = .ok (.invokestatic 70, 3) := by decide +kernel
theorem dX0_isOutsideSetting_55 : decode cX0_isOutsideSetting 55 = .ok (.ireturn, 1) := by decide +kernel
theorem dX1_init_0 : decode cX1_init 0 = .ok (.aload_n 0, 1) := by decide +kernel
theorem dX1_init_1 : decode cX1_init 1 = .ok (.invokespecial 3, 3) := by decide +kernel
theorem dX1_init_4 : decode cX1_init 4 = .ok (.aload_n 0, 1) := by decide +kernel
theorem dX1_init_5 : decode cX1_init 5 = .ok (.bipush 60, 2) := by decide +kernel
theorem dX1_init_7 : decode cX1_init 7 = .ok (.newarray .char, 2) := by decide +kernel
theorem dX1_init_9 : decode cX1_init 9 = .ok (.putfield 9, 3) := by decide +kernel
theorem dX1_init_12 : decode cX1_init 12 = .ok (.aload_n 0, 1) := by decide +kernel
theorem dX1_init_13 : decode cX1_init 13 = .ok (.iconst 3, 1) := by decide +kernel
theorem dX1_init_14 : decode cX1_init 14 = .ok (.newarray .int, 2) := by decide +kernel
theorem dX1_init_16 : decode cX1_init 16 = .ok (.putfield 15, 3) := by decide +kernel
theorem dX1_init_19 : decode cX1_init 19 = .ok (.return_, 1) := by decide +kernel
theorem dX1_size_0 : decode cX1_size 0 = .ok (.aload_n 0, 1) := by decide +kernel
theorem dX1_size_1 : decode cX1_size 1 = .ok (.getfield 19, 3) := by decide +kernel
theorem dX1_size_4 : decode cX1_size 4 = .ok (.ireturn, 1) := by decide +kernel
theorem dX1_append_0 : decode cX1_append 0 = .ok (.iload_n 1, 1) := by decide +kernel
theorem dX1_append_1 : decode cX1_append 1 = .ok (.bipush 32, 2) := by decide +kernel
theorem dX1_append_3 : decode cX1_append 3 = .ok (.bipush 126, 2) := by decide +kernel
theorem dX1_append_5 : decode cX1_append 5 = .ok (.invokestatic 23, 3) := by decide +kernel
theorem dX1_append_8 : decode cX1_append 8 = .ok (.ifCond .eq 6, 3) := by decide +kernel
theorem dX1_append_11 : decode cX1_append 11 = .ok (.ldc 27, 2) := by decide +kernel
theorem dX1_append_13 : decode cX1_append 13 = .ok (.ireturn, 1) := by decide +kernel
theorem dX1_append_14 : decode cX1_append 14 = .ok (.aload_n 0, 1) := by decide +kernel
theorem dX1_append_15 : decode cX1_append 15 = .ok (.getfield 19, 3) := by decide +kernel
theorem dX1_append_18 : decode cX1_append 18 = .ok (.bipush 60, 2) := by decide +kernel
theorem dX1_append_20 : decode cX1_append 20 = .ok (.if_icmp .lt 6, 3) := by decide +kernel
theorem dX1_append_23 : decode cX1_append 23 = .ok (.ldc 28, 2) := by decide +kernel
theorem dX1_append_25 : decode cX1_append 25 = .ok (.ireturn, 1) := by decide +kernel
theorem dX1_append_26 : decode cX1_append 26 = .ok (.aload_n 0, 1) := by decide +kernel
theorem dX1_append_27 : decode cX1_append 27 = .ok (.getfield 9, 3) := by decide +kernel
theorem dX1_append_30 : decode cX1_append 30 = .ok (.aload_n 0, 1) := by decide +kernel
theorem dX1_append_31 : decode cX1_append 31 = .ok (.getfield 19, 3) := by decide +kernel
theorem dX1_append_34 : decode cX1_append 34 = .ok (.iload_n 1, 1) := by decide +kernel
theorem dX1_append_35 : decode cX1_append 35 = .ok (.i2c, 1) := by decide +kernel
theorem dX1_append_36 : decode cX1_append 36 = .ok (.castore, 1) := by decide +kernel
theorem dX1_append_37 : decode cX1_append 37 = .ok (.aload_n 0, 1) := by decide +kernel
theorem dX1_append_38 : decode cX1_append 38 = .ok (.dup, 1) := by decide +kernel
theorem dX1_append_39 : decode cX1_append 39 = .ok (.getfield 19, 3) := by decide +kernel
theorem dX1_append_42 : decode cX1_append 42 = .ok (.iconst 1, 1) := by decide +kernel
theorem dX1_append_43 : decode cX1_append 43 = .ok (.iadd, 1) := by decide +kernel
theorem dX1_append_44 : decode cX1_append 44 = .ok (.putfield 19, 3) := by decide +kernel
theorem dX1_append_47 : decode cX1_append 47 = .ok (.aload_n 0, 1) := by decide +kernel
theorem dX1_append_48 : decode cX1_append 48 = .ok (.getfield 19, 3) := by decide +kernel
theorem dX1_append_51 : decode cX1_append 51 = .ok (.ireturn, 1) := by decide +kernel
theorem dX1_empty_0 : decode cX1_empty 0 = .ok (.aload_n 0, 1) := by decide +kernel
theorem dX1_empty_1 : decode cX1_empty 1 = .ok (.getfield 19, 3) := by decide +kernel
theorem dX1_empty_4 : decode cX1_empty 4 = .ok (.istore_n 1, 1) := by decide +kernel
theorem dX1_empty_5 : decode cX1_empty 5 = .ok (.aload_n 0, 1) := by decide +kernel
theorem dX1_empty_6 : decode cX1_empty 6 = .ok (.iconst 0, 1) := by decide +kernel
theorem dX1_empty_7 : decode cX1_empty 7 = .ok (.putfield 19, 3) := by decide +kernel
theorem dX1_empty_10 : decode cX1_empty 10 = .ok (.iload_n 1, 1) := by decide +kernel
theorem dX1_empty_11 : decode cX1_empty 11 = .ok (.ireturn, 1) := by decide +kernel
theorem dX1_placeReached_0 : decode cX1_placeReached 0 = .ok (.aload_n 0, 1) := by decide +kernel
theorem dX1_placeReached_1 : decode cX1_placeReached 1 = .ok (.getfield 29, 3) := by decide +kernel
theorem dX1_placeReached_4 : decode cX1_placeReached 4 = .ok (.ireturn, 1) := by decide +kernel
theorem dX1_readOrder_0 : decode cX1_readOrder 0 = .ok (.aload_n 0, 1) := by decide +kernel
theorem dX1_readOrder_1 : decode cX1_readOrder 1 = .ok (.iload_n 1, 1) := by decide +kernel
theorem dX1_readOrder_2 : decode cX1_readOrder 2 = .ok (.putfield 29, 3) := by decide +kernel
theorem dX1_readOrder_5 : decode cX1_readOrder 5 = .ok (.aload_n 0, 1) := by decide +kernel
theorem dX1_readOrder_6 : decode cX1_readOrder 6 = .ok (.aload_n 0, 1) := by decide +kernel
theorem dX1_readOrder_7 : decode cX1_readOrder 7 = .ok (.iload_n 1, 1) := by decide +kernel
theorem dX1_readOrder_8 : decode cX1_readOrder 8 = .ok (.invokevirtual 32, 3) := by decide +kernel
theorem dX1_readOrder_11 : decode cX1_readOrder 11 = .ok (.putfield 36, 3) := by decide +kernel
theorem dX1_readOrder_14 : decode cX1_readOrder 14 = .ok (.aload_n 0, 1) := by decide +kernel
theorem dX1_readOrder_15 : decode cX1_readOrder 15 = .ok (.getfield 36, 3) := by decide +kernel
theorem dX1_readOrder_18 : decode cX1_readOrder 18 = .ok (.invokestatic 40, 3) := by decide +kernel
theorem dX1_readOrder_21 : decode cX1_readOrder 21 = .ok (.istore_n 2, 1) := by decide +kernel
theorem dX1_readOrder_22 : decode cX1_readOrder 22 = .ok (.iload_n 2, 1) := by decide +kernel
theorem dX1_readOrder_23 : decode cX1_readOrder 23 = .ok (.ifCond .ne 5, 3) := by decide +kernel
theorem dX1_readOrder_26 : decode cX1_readOrder 26 = .ok (.iconst 0, 1) := by decide +kernel
theorem dX1_readOrder_27 : decode cX1_readOrder 27 = .ok (.ireturn, 1) := by decide +kernel
theorem dX1_readOrder_28 : decode cX1_readOrder 28 = .ok (.aload_n 0, 1) := by decide +kernel
theorem dX1_readOrder_29 : decode cX1_readOrder 29 = .ok (.dup, 1) := by decide +kernel
theorem dX1_readOrder_30 : decode cX1_readOrder 30 = .ok (.getfield 29, 3) := by decide +kernel
theorem dX1_readOrder_33 : decode cX1_readOrder 33 = .ok (.iconst 1, 1) := by decide +kernel
theorem dX1_readOrder_34 : decode cX1_readOrder 34 = .ok (.iadd, 1) := by decide +kernel
theorem dX1_readOrder_35 : decode cX1_readOrder 35 = .ok (.putfield 29, 3) := by decide +kernel
theorem dX1_readOrder_38 : decode cX1_readOrder 38 = .ok (.iconst 0, 1) := by decide +kernel
theorem dX1_readOrder_39 : decode cX1_readOrder 39 = .ok (.istore_n 3, 1) := by decide +kernel
theorem dX1_readOrder_40 : decode cX1_readOrder 40 = .ok (.iload_n 3, 1) := by decide +kernel
theorem dX1_readOrder_41 : decode cX1_readOrder 41 = .ok (.iload_n 2, 1) := by decide +kernel
theorem dX1_readOrder_42 : decode cX1_readOrder 42 = .ok (.if_icmp .ge 60, 3) := by decide +kernel
theorem dX1_readOrder_45 : decode cX1_readOrder 45 = .ok (.aload_n 0, 1) := by decide +kernel
theorem dX1_readOrder_46 : decode cX1_readOrder 46 = .ok (.iload_n 3, 1) := by decide +kernel
theorem dX1_readOrder_47 : decode cX1_readOrder 47 = .ok (.invokevirtual 44, 3) := by decide +kernel
theorem dX1_readOrder_50 : decode cX1_readOrder 50 = .ok (.ifCond .ne 5, 3) := by decide +kernel
theorem dX1_readOrder_53 : decode cX1_readOrder 53 = .ok (.iconst 0, 1) := by decide +kernel
theorem dX1_readOrder_54 : decode cX1_readOrder 54 = .ok (.ireturn, 1) := by decide +kernel
theorem dX1_readOrder_55 : decode cX1_readOrder 55 = .ok (.iload_n 3, 1) := by decide +kernel
theorem dX1_readOrder_56 : decode cX1_readOrder 56 = .ok (.iload_n 2, 1) := by decide +kernel
theorem dX1_readOrder_57 : decode cX1_readOrder 57 = .ok (.iconst 1, 1) := by decide +kernel
theorem dX1_readOrder_58 : decode cX1_readOrder 58 = .ok (.isub, 1) := by decide +kernel
theorem dX1_readOrder_59 : decode cX1_readOrder 59 = .ok (.if_icmp .ge 8, 3) := by decide +kernel
theorem dX1_readOrder_62 : decode cX1_readOrder 62 = .ok (.bipush 44, 2) := by decide +kernel
theorem dX1_readOrder_64 : decode cX1_readOrder 64 = .ok (.goto 5, 3) := by decide +kernel
theorem dX1_readOrder_67 : decode cX1_readOrder 67 = .ok (.bipush 59, 2) := by decide +kernel
theorem dX1_readOrder_69 : decode cX1_readOrder 69 = .ok (.istore 4, 2) := by decide +kernel
theorem dX1_readOrder_71 : decode cX1_readOrder 71 = .ok (.aload_n 0, 1) := by decide +kernel
theorem dX1_readOrder_72 : decode cX1_readOrder 72 = .ok (.aload_n 0, 1) := by decide +kernel
theorem dX1_readOrder_73 : decode cX1_readOrder 73 = .ok (.getfield 29, 3) := by decide +kernel
theorem dX1_readOrder_76 : decode cX1_readOrder 76 = .ok (.invokevirtual 32, 3) := by decide +kernel
theorem dX1_readOrder_79 : decode cX1_readOrder 79 = .ok (.iload 4, 2) := by decide +kernel
theorem dX1_readOrder_81 : decode cX1_readOrder 81 = .ok (.if_icmp .eq 5, 3) := by decide +kernel
theorem dX1_readOrder_84 : decode cX1_readOrder 84 = .ok (.iconst 0, 1) := by decide +kernel
theorem dX1_readOrder_85 : decode cX1_readOrder 85 = .ok (.ireturn, 1) := by decide +kernel
theorem dX1_readOrder_86 : decode cX1_readOrder 86 = .ok (.aload_n 0, 1) := by decide +kernel
theorem dX1_readOrder_87 : decode cX1_readOrder 87 = .ok (.dup, 1) := by decide +kernel
theorem dX1_readOrder_88 : decode cX1_readOrder 88 = .ok (.getfield 29, 3) := by decide +kernel
theorem dX1_readOrder_91 : decode cX1_readOrder 91 = .ok (.iconst 1, 1) := by decide +kernel
theorem dX1_readOrder_92 : decode cX1_readOrder 92 = .ok (.iadd, 1) := by decide +kernel
theorem dX1_readOrder_93 : decode cX1_readOrder 93 = .ok (.putfield 29, 3) := by decide +kernel
theorem dX1_readOrder_96 : decode cX1_readOrder 96 = .ok (.iinc 3 1, 3) := by decide +kernel
theorem dX1_readOrder_99 : decode cX1_readOrder 99 = .ok (.goto (-59), 3) := by decide +kernel
theorem dX1_readOrder_102 : decode cX1_readOrder 102 = .ok (.iconst 1, 1) := by decide +kernel
theorem dX1_readOrder_103 : decode cX1_readOrder 103 = .ok (.ireturn, 1) := by decide +kernel
theorem dX1_doOrder_0 : decode cX1_doOrder 0 = .ok (.aload_n 0, 1) := by decide +kernel
theorem dX1_doOrder_1 : decode cX1_doOrder 1 = .ok (.getfield 36, 3) := by decide +kernel
theorem dX1_doOrder_4 : decode cX1_doOrder 4 = .ok (.lookupswitch 165 #[(97, 83), (100, 151), (102, 94), (109, 117), (114, 134), (119, 60)], 60) := by decide +kernel
theorem dX1_doOrder_64 : decode cX1_doOrder 64 = .ok (.aload_n 1, 1) := by decide +kernel
theorem dX1_doOrder_65 : decode cX1_doOrder 65 = .ok (.aload_n 0, 1) := by decide +kernel
theorem dX1_doOrder_66 : decode cX1_doOrder 66 = .ok (.getfield 15, 3) := by decide +kernel
theorem dX1_doOrder_69 : decode cX1_doOrder 69 = .ok (.iconst 0, 1) := by decide +kernel
theorem dX1_doOrder_70 : decode cX1_doOrder 70 = .ok (.iaload, 1) := by decide +kernel
theorem dX1_doOrder_71 : decode cX1_doOrder 71 = .ok (.aload_n 0, 1) := by decide +kernel
theorem dX1_doOrder_72 : decode cX1_doOrder 72 = .ok (.getfield 15, 3) := by decide +kernel
theorem dX1_doOrder_75 : decode cX1_doOrder 75 = .ok (.iconst 1, 1) := by decide +kernel
theorem dX1_doOrder_76 : decode cX1_doOrder 76 = .ok (.iaload, 1) := by decide +kernel
theorem dX1_doOrder_77 : decode cX1_doOrder 77 = .ok (.aload_n 0, 1) := by decide +kernel
theorem dX1_doOrder_78 : decode cX1_doOrder 78 = .ok (.getfield 15, 3) := by decide +kernel
theorem dX1_doOrder_81 : decode cX1_doOrder 81 = .ok (.iconst 2, 1) := by decide +kernel
theorem dX1_doOrder_82 : decode cX1_doOrder 82 = .ok (.iaload, 1) := by decide +kernel
theorem dX1_doOrder_83 : decode cX1_doOrder 83 = .ok (.invokevirtual 48, 3) := by decide +kernel
theorem dX1_doOrder_86 : decode cX1_doOrder 86 = .ok (.ireturn, 1) := by decide +kernel
theorem dX1_doOrder_87 : decode cX1_doOrder 87 = .ok (.aload_n 1, 1) := by decide +kernel
theorem dX1_doOrder_88 : decode cX1_doOrder 88 = .ok (.aload_n 0, 1) := by decide +kernel
theorem dX1_doOrder_89 : decode cX1_doOrder 89 = .ok (.getfield 15, 3) := by decide +kernel
theorem dX1_doOrder_92 : decode cX1_doOrder 92 = .ok (.iconst 0, 1) := by decide +kernel
theorem dX1_doOrder_93 : decode cX1_doOrder 93 = .ok (.iaload, 1) := by decide +kernel
theorem dX1_doOrder_94 : decode cX1_doOrder 94 = .ok (.invokevirtual 54, 3) := by decide +kernel
theorem dX1_doOrder_97 : decode cX1_doOrder 97 = .ok (.ireturn, 1) := by decide +kernel
theorem dX1_doOrder_98 : decode cX1_doOrder 98 = .ok (.aload_n 1, 1) := by decide +kernel
theorem dX1_doOrder_99 : decode cX1_doOrder 99 = .ok (.aload_n 0, 1) := by decide +kernel
theorem dX1_doOrder_100 : decode cX1_doOrder 100 = .ok (.getfield 15, 3) := by decide +kernel
theorem dX1_doOrder_103 : decode cX1_doOrder 103 = .ok (.iconst 0, 1) := by decide +kernel
theorem dX1_doOrder_104 : decode cX1_doOrder 104 = .ok (.iaload, 1) := by decide +kernel
theorem dX1_doOrder_105 : decode cX1_doOrder 105 = .ok (.aload_n 0, 1) := by decide +kernel
theorem dX1_doOrder_106 : decode cX1_doOrder 106 = .ok (.getfield 15, 3) := by decide +kernel
theorem dX1_doOrder_109 : decode cX1_doOrder 109 = .ok (.iconst 1, 1) := by decide +kernel
theorem dX1_doOrder_110 : decode cX1_doOrder 110 = .ok (.iaload, 1) := by decide +kernel
theorem dX1_doOrder_111 : decode cX1_doOrder 111 = .ok (.aload_n 0, 1) := by decide +kernel
theorem dX1_doOrder_112 : decode cX1_doOrder 112 = .ok (.getfield 15, 3) := by decide +kernel
theorem dX1_doOrder_115 : decode cX1_doOrder 115 = .ok (.iconst 2, 1) := by decide +kernel
theorem dX1_doOrder_116 : decode cX1_doOrder 116 = .ok (.iaload, 1) := by decide +kernel
theorem dX1_doOrder_117 : decode cX1_doOrder 117 = .ok (.invokevirtual 58, 3) := by decide +kernel
theorem dX1_doOrder_120 : decode cX1_doOrder 120 = .ok (.ireturn, 1) := by decide +kernel
theorem dX1_doOrder_121 : decode cX1_doOrder 121 = .ok (.aload_n 1, 1) := by decide +kernel
theorem dX1_doOrder_122 : decode cX1_doOrder 122 = .ok (.aload_n 0, 1) := by decide +kernel
theorem dX1_doOrder_123 : decode cX1_doOrder 123 = .ok (.getfield 15, 3) := by decide +kernel
theorem dX1_doOrder_126 : decode cX1_doOrder 126 = .ok (.iconst 0, 1) := by decide +kernel
theorem dX1_doOrder_127 : decode cX1_doOrder 127 = .ok (.iaload, 1) := by decide +kernel
theorem dX1_doOrder_128 : decode cX1_doOrder 128 = .ok (.aload_n 0, 1) := by decide +kernel
theorem dX1_doOrder_129 : decode cX1_doOrder 129 = .ok (.getfield 15, 3) := by decide +kernel
theorem dX1_doOrder_132 : decode cX1_doOrder 132 = .ok (.iconst 1, 1) := by decide +kernel
theorem dX1_doOrder_133 : decode cX1_doOrder 133 = .ok (.iaload, 1) := by decide +kernel
theorem dX1_doOrder_134 : decode cX1_doOrder 134 = .ok (.invokevirtual 61, 3) := by decide +kernel
theorem dX1_doOrder_137 : decode cX1_doOrder 137 = .ok (.ireturn, 1) := by decide +kernel
theorem dX1_doOrder_138 : decode cX1_doOrder 138 = .ok (.aload_n 1, 1) := by decide +kernel
theorem dX1_doOrder_139 : decode cX1_doOrder 139 = .ok (.aload_n 0, 1) := by decide +kernel
theorem dX1_doOrder_140 : decode cX1_doOrder 140 = .ok (.getfield 15, 3) := by decide +kernel
theorem dX1_doOrder_143 : decode cX1_doOrder 143 = .ok (.iconst 0, 1) := by decide +kernel
theorem dX1_doOrder_144 : decode cX1_doOrder 144 = .ok (.iaload, 1) := by decide +kernel
theorem dX1_doOrder_145 : decode cX1_doOrder 145 = .ok (.aload_n 0, 1) := by decide +kernel
theorem dX1_doOrder_146 : decode cX1_doOrder 146 = .ok (.getfield 15, 3) := by decide +kernel
theorem dX1_doOrder_149 : decode cX1_doOrder 149 = .ok (.iconst 1, 1) := by decide +kernel
theorem dX1_doOrder_150 : decode cX1_doOrder 150 = .ok (.iaload, 1) := by decide +kernel
theorem dX1_doOrder_151 : decode cX1_doOrder 151 = .ok (.invokevirtual 65, 3) := by decide +kernel
theorem dX1_doOrder_154 : decode cX1_doOrder 154 = .ok (.ireturn, 1) := by decide +kernel
theorem dX1_doOrder_155 : decode cX1_doOrder 155 = .ok (.aload_n 1, 1) := by decide +kernel
theorem dX1_doOrder_156 : decode cX1_doOrder 156 = .ok (.aload_n 0, 1) := by decide +kernel
theorem dX1_doOrder_157 : decode cX1_doOrder 157 = .ok (.getfield 15, 3) := by decide +kernel
theorem dX1_doOrder_160 : decode cX1_doOrder 160 = .ok (.iconst 0, 1) := by decide +kernel
theorem dX1_doOrder_161 : decode cX1_doOrder 161 = .ok (.iaload, 1) := by decide +kernel
theorem dX1_doOrder_162 : decode cX1_doOrder 162 = .ok (.sipush 9999, 3) := by decide +kernel
theorem dX1_doOrder_165 : decode cX1_doOrder 165 = .ok (.invokevirtual 68, 3) := by decide +kernel
theorem dX1_doOrder_168 : decode cX1_doOrder 168 = .ok (.ireturn, 1) := by decide +kernel
theorem dX1_doOrder_169 : decode cX1_doOrder 169 = .ok (.ldc 27, 2) := by decide +kernel
theorem dX1_doOrder_171 : decode cX1_doOrder 171 = .ok (.ireturn, 1) := by decide +kernel
theorem dX1_numbersOf_0 : decode cX1_numbersOf 0 = .ok (.iload_n 0, 1) := by decide +kernel
theorem dX1_numbersOf_1 : decode cX1_numbersOf 1 = .ok (.lookupswitch 65 #[(97, 63), (100, 63), (102, 59), (109, 61), (114, 61), (119, 59)], 59) := by decide +kernel
theorem dX1_numbersOf_60 : decode cX1_numbersOf 60 = .ok (.iconst 3, 1) := by decide +kernel
theorem dX1_numbersOf_61 : decode cX1_numbersOf 61 = .ok (.ireturn, 1) := by decide +kernel
theorem dX1_numbersOf_62 : decode cX1_numbersOf 62 = .ok (.iconst 2, 1) := by decide +kernel
theorem dX1_numbersOf_63 : decode cX1_numbersOf 63 = .ok (.ireturn, 1) := by decide +kernel
theorem dX1_numbersOf_64 : decode cX1_numbersOf 64 = .ok (.iconst 1, 1) := by decide +kernel
theorem dX1_numbersOf_65 : decode cX1_numbersOf 65 = .ok (.ireturn, 1) := by decide +kernel
theorem dX1_numbersOf_66 : decode cX1_numbersOf 66 = .ok (.iconst 0, 1) := by decide +kernel
theorem dX1_numbersOf_67 : decode cX1_numbersOf 67 = .ok (.ireturn, 1) := by decide +kernel
theorem dX1_readNumber_0 : decode cX1_readNumber 0 = .ok (.iconst 0, 1) := by decide +kernel
theorem dX1_readNumber_1 : decode cX1_readNumber 1 = .ok (.istore_n 2, 1) := by decide +kernel
theorem dX1_readNumber_2 : decode cX1_readNumber 2 = .ok (.iconst 0, 1) := by decide +kernel
theorem dX1_readNumber_3 : decode cX1_readNumber 3 = .ok (.istore_n 3, 1) := by decide +kernel
theorem dX1_readNumber_4 : decode cX1_readNumber 4 = .ok (.iload_n 3, 1) := by decide +kernel
theorem dX1_readNumber_5 : decode cX1_readNumber 5 = .ok (.iconst 3, 1) := by decide +kernel
theorem dX1_readNumber_6 : decode cX1_readNumber 6 = .ok (.if_icmp .ge 50, 3) := by decide +kernel
theorem dX1_readNumber_9 : decode cX1_readNumber 9 = .ok (.aload_n 0, 1) := by decide +kernel
theorem dX1_readNumber_10 : decode cX1_readNumber 10 = .ok (.aload_n 0, 1) := by decide +kernel
theorem dX1_readNumber_11 : decode cX1_readNumber 11 = .ok (.getfield 29, 3) := by decide +kernel
theorem dX1_readNumber_14 : decode cX1_readNumber 14 = .ok (.invokevirtual 32, 3) := by decide +kernel
theorem dX1_readNumber_17 : decode cX1_readNumber 17 = .ok (.invokestatic 71, 3) := by decide +kernel
theorem dX1_readNumber_20 : decode cX1_readNumber 20 = .ok (.ifCond .eq 36, 3) := by decide +kernel
theorem dX1_readNumber_23 : decode cX1_readNumber 23 = .ok (.bipush 10, 2) := by decide +kernel
theorem dX1_readNumber_25 : decode cX1_readNumber 25 = .ok (.iload_n 2, 1) := by decide +kernel
theorem dX1_readNumber_26 : decode cX1_readNumber 26 = .ok (.imul, 1) := by decide +kernel
theorem dX1_readNumber_27 : decode cX1_readNumber 27 = .ok (.aload_n 0, 1) := by decide +kernel
theorem dX1_readNumber_28 : decode cX1_readNumber 28 = .ok (.aload_n 0, 1) := by decide +kernel
theorem dX1_readNumber_29 : decode cX1_readNumber 29 = .ok (.getfield 29, 3) := by decide +kernel
theorem dX1_readNumber_32 : decode cX1_readNumber 32 = .ok (.invokevirtual 32, 3) := by decide +kernel
theorem dX1_readNumber_35 : decode cX1_readNumber 35 = .ok (.bipush 48, 2) := by decide +kernel
theorem dX1_readNumber_37 : decode cX1_readNumber 37 = .ok (.isub, 1) := by decide +kernel
theorem dX1_readNumber_38 : decode cX1_readNumber 38 = .ok (.iadd, 1) := by decide +kernel
theorem dX1_readNumber_39 : decode cX1_readNumber 39 = .ok (.istore_n 2, 1) := by decide +kernel
theorem dX1_readNumber_40 : decode cX1_readNumber 40 = .ok (.aload_n 0, 1) := by decide +kernel
theorem dX1_readNumber_41 : decode cX1_readNumber 41 = .ok (.dup, 1) := by decide +kernel
theorem dX1_readNumber_42 : decode cX1_readNumber 42 = .ok (.getfield 29, 3) := by decide +kernel
theorem dX1_readNumber_45 : decode cX1_readNumber 45 = .ok (.iconst 1, 1) := by decide +kernel
theorem dX1_readNumber_46 : decode cX1_readNumber 46 = .ok (.iadd, 1) := by decide +kernel
theorem dX1_readNumber_47 : decode cX1_readNumber 47 = .ok (.putfield 29, 3) := by decide +kernel
theorem dX1_readNumber_50 : decode cX1_readNumber 50 = .ok (.iinc 3 1, 3) := by decide +kernel
theorem dX1_readNumber_53 : decode cX1_readNumber 53 = .ok (.goto (-49), 3) := by decide +kernel
theorem dX1_readNumber_56 : decode cX1_readNumber 56 = .ok (.iload_n 3, 1) := by decide +kernel
theorem dX1_readNumber_57 : decode cX1_readNumber 57 = .ok (.ifCond .eq 12, 3) := by decide +kernel
theorem dX1_readNumber_60 : decode cX1_readNumber 60 = .ok (.iload_n 1, 1) := by decide +kernel
theorem dX1_readNumber_61 : decode cX1_readNumber 61 = .ok (.iconst 0, 1) := by decide +kernel
theorem dX1_readNumber_62 : decode cX1_readNumber 62 = .ok (.iconst 2, 1) := by decide +kernel
theorem dX1_readNumber_63 : decode cX1_readNumber 63 = .ok (.invokestatic 23, 3) := by decide +kernel
theorem dX1_readNumber_66 : decode cX1_readNumber 66 = .ok (.ifCond .eq 5, 3) := by decide +kernel
theorem dX1_readNumber_69 : decode cX1_readNumber 69 = .ok (.iconst 0, 1) := by decide +kernel
theorem dX1_readNumber_70 : decode cX1_readNumber 70 = .ok (.ireturn, 1) := by decide +kernel
theorem dX1_readNumber_71 : decode cX1_readNumber 71 = .ok (.aload_n 0, 1) := by decide +kernel
theorem dX1_readNumber_72 : decode cX1_readNumber 72 = .ok (.getfield 15, 3) := by decide +kernel
theorem dX1_readNumber_75 : decode cX1_readNumber 75 = .ok (.iload_n 1, 1) := by decide +kernel
theorem dX1_readNumber_76 : decode cX1_readNumber 76 = .ok (.iload_n 2, 1) := by decide +kernel
theorem dX1_readNumber_77 : decode cX1_readNumber 77 = .ok (.iastore, 1) := by decide +kernel
theorem dX1_readNumber_78 : decode cX1_readNumber 78 = .ok (.iconst 1, 1) := by decide +kernel
theorem dX1_readNumber_79 : decode cX1_readNumber 79 = .ok (.ireturn, 1) := by decide +kernel
theorem dX1_signAt_0 : decode cX1_signAt 0 = .ok (.iload_n 1, 1) := by decide +kernel
theorem dX1_signAt_1 : decode cX1_signAt 1 = .ok (.iconst 0, 1) := by decide +kernel
theorem dX1_signAt_2 : decode cX1_signAt 2 = .ok (.aload_n 0, 1) := by decide +kernel
theorem dX1_signAt_3 : decode cX1_signAt 3 = .ok (.getfield 19, 3) := by decide +kernel
theorem dX1_signAt_6 : decode cX1_signAt 6 = .ok (.iconst 1, 1) := by decide +kernel
theorem dX1_signAt_7 : decode cX1_signAt 7 = .ok (.isub, 1) := by decide +kernel
theorem dX1_signAt_8 : decode cX1_signAt 8 = .ok (.invokestatic 23, 3) := by decide +kernel
theorem dX1_signAt_11 : decode cX1_signAt 11 = .ok (.ifCond .eq 7, 3) := by decide +kernel
theorem dX1_signAt_14 : decode cX1_signAt 14 = .ok (.iconst 0, 1) := by decide +kernel
theorem dX1_signAt_15 : decode cX1_signAt 15 = .ok (.goto 9, 3) := by decide +kernel
theorem dX1_signAt_18 : decode cX1_signAt 18 = .ok (.aload_n 0, 1) := by decide +kernel
theorem dX1_signAt_19 : decode cX1_signAt 19 = .ok (.getfield 9, 3) := by decide +kernel
theorem dX1_signAt_22 : decode cX1_signAt 22 = .ok (.iload_n 1, 1) := by decide +kernel
theorem dX1_signAt_23 : decode cX1_signAt 23 = .ok (.caload, 1) := by decide +kernel
theorem dX1_signAt_24 : decode cX1_signAt 24 = .ok (.ireturn, 1) := by decide +kernel
theorem dX1_isDigit_0 : decode cX1_isDigit 0 = .ok (.iload_n 0, 1) := by decide +kernel
theorem dX1_isDigit_1 : decode cX1_isDigit 1 = .ok (.bipush 48, 2) := by decide +kernel
theorem dX1_isDigit_3 : decode cX1_isDigit 3 = .ok (.if_icmp .lt 13, 3) := by decide +kernel
theorem dX1_isDigit_6 : decode cX1_isDigit 6 = .ok (.iload_n 0, 1) := by decide +kernel
theorem dX1_isDigit_7 : decode cX1_isDigit 7 = .ok (.bipush 57, 2) := by decide +kernel
theorem dX1_isDigit_9 : decode cX1_isDigit 9 = .ok (.if_icmp .gt 7, 3) := by decide +kernel
theorem dX1_isDigit_12 : decode cX1_isDigit 12 = .ok (.iconst 1, 1) := by decide +kernel
theorem dX1_isDigit_13 : decode cX1_isDigit 13 = .ok (.goto 4, 3) := by decide +kernel
theorem dX1_isDigit_16 : decode cX1_isDigit 16 = .ok (.iconst 0, 1) := by decide +kernel
theorem dX1_isDigit_17 : decode cX1_isDigit 17 = .ok (.ireturn, 1) := by decide +kernel
theorem dX2_init_0 : decode cX2_init 0 = .ok (.aload_n 0, 1) := by decide +kernel
theorem dX2_init_1 : decode cX2_init 1 = .ok (.invokespecial 3, 3) := by decide +kernel
theorem dX2_init_4 : decode cX2_init 4 = .ok (.aload_n 0, 1) := by decide +kernel
theorem dX2_init_5 : decode cX2_init 5 = .ok (.new 9, 3) := by decide +kernel
theorem dX2_init_8 : decode cX2_init 8 = .ok (.dup, 1) := by decide +kernel
theorem dX2_init_9 : decode cX2_init 9 = .ok (.invokespecial 11, 3) := by decide +kernel
theorem dX2_init_12 : decode cX2_init 12 = .ok (.putfield 12, 3) := by decide +kernel
theorem dX2_init_15 : decode cX2_init 15 = .ok (.aload_n 0, 1) := by decide +kernel
theorem dX2_init_16 : decode cX2_init 16 = .ok (.new 9, 3) := by decide +kernel
theorem dX2_init_19 : decode cX2_init 19 = .ok (.dup, 1) := by decide +kernel
theorem dX2_init_20 : decode cX2_init 20 = .ok (.invokespecial 11, 3) := by decide +kernel
theorem dX2_init_23 : decode cX2_init 23 = .ok (.putfield 16, 3) := by decide +kernel
theorem dX2_init_26 : decode cX2_init 26 = .ok (.aload_n 0, 1) := by decide +kernel
theorem dX2_init_27 : decode cX2_init 27 = .ok (.new 9, 3) := by decide +kernel
theorem dX2_init_30 : decode cX2_init 30 = .ok (.dup, 1) := by decide +kernel
theorem dX2_init_31 : decode cX2_init 31 = .ok (.invokespecial 11, 3) := by decide +kernel
theorem dX2_init_34 : decode cX2_init 34 = .ok (.putfield 19, 3) := by decide +kernel
theorem dX2_init_37 : decode cX2_init 37 = .ok (.aload_n 0, 1) := by decide +kernel
theorem dX2_init_38 : decode cX2_init 38 = .ok (.iconst 4, 1) := by decide +kernel
theorem dX2_init_39 : decode cX2_init 39 = .ok (.anewarray 9, 3) := by decide +kernel
theorem dX2_init_42 : decode cX2_init 42 = .ok (.putfield 22, 3) := by decide +kernel
theorem dX2_init_45 : decode cX2_init 45 = .ok (.iconst 0, 1) := by decide +kernel
theorem dX2_init_46 : decode cX2_init 46 = .ok (.istore_n 1, 1) := by decide +kernel
theorem dX2_init_47 : decode cX2_init 47 = .ok (.iload_n 1, 1) := by decide +kernel
theorem dX2_init_48 : decode cX2_init 48 = .ok (.iconst 4, 1) := by decide +kernel
theorem dX2_init_49 : decode cX2_init 49 = .ok (.if_icmp .ge 22, 3) := by decide +kernel
theorem dX2_init_52 : decode cX2_init 52 = .ok (.aload_n 0, 1) := by decide +kernel
theorem dX2_init_53 : decode cX2_init 53 = .ok (.getfield 22, 3) := by decide +kernel
theorem dX2_init_56 : decode cX2_init 56 = .ok (.iload_n 1, 1) := by decide +kernel
theorem dX2_init_57 : decode cX2_init 57 = .ok (.new 9, 3) := by decide +kernel
theorem dX2_init_60 : decode cX2_init 60 = .ok (.dup, 1) := by decide +kernel
theorem dX2_init_61 : decode cX2_init 61 = .ok (.invokespecial 11, 3) := by decide +kernel
theorem dX2_init_64 : decode cX2_init 64 = .ok (.aastore, 1) := by decide +kernel
theorem dX2_init_65 : decode cX2_init 65 = .ok (.iinc 1 1, 3) := by decide +kernel
theorem dX2_init_68 : decode cX2_init 68 = .ok (.goto (-21), 3) := by decide +kernel
theorem dX2_init_71 : decode cX2_init 71 = .ok (.aload_n 0, 1) := by decide +kernel
theorem dX2_init_72 : decode cX2_init 72 = .ok (.new 26, 3) := by decide +kernel
theorem dX2_init_75 : decode cX2_init 75 = .ok (.dup, 1) := by decide +kernel
theorem dX2_init_76 : decode cX2_init 76 = .ok (.invokespecial 28, 3) := by decide +kernel
theorem dX2_init_79 : decode cX2_init 79 = .ok (.putfield 29, 3) := by decide +kernel
theorem dX2_init_82 : decode cX2_init 82 = .ok (.return_, 1) := by decide +kernel
theorem dX2_write_0 : decode cX2_write 0 = .ok (.aload_n 0, 1) := by decide +kernel
theorem dX2_write_1 : decode cX2_write 1 = .ok (.getfield 16, 3) := by decide +kernel
theorem dX2_write_4 : decode cX2_write 4 = .ok (.aload_n 0, 1) := by decide +kernel
theorem dX2_write_5 : decode cX2_write 5 = .ok (.getfield 12, 3) := by decide +kernel
theorem dX2_write_8 : decode cX2_write 8 = .ok (.invokevirtual 33, 3) := by decide +kernel
theorem dX2_write_11 : decode cX2_write 11 = .ok (.aload_n 0, 1) := by decide +kernel
theorem dX2_write_12 : decode cX2_write 12 = .ok (.aload_n 0, 1) := by decide +kernel
theorem dX2_write_13 : decode cX2_write 13 = .ok (.getfield 12, 3) := by decide +kernel
theorem dX2_write_16 : decode cX2_write 16 = .ok (.iload_n 1, 1) := by decide +kernel
theorem dX2_write_17 : decode cX2_write 17 = .ok (.iload_n 2, 1) := by decide +kernel
theorem dX2_write_18 : decode cX2_write 18 = .ok (.iload_n 3, 1) := by decide +kernel
theorem dX2_write_19 : decode cX2_write 19 = .ok (.invokevirtual 37, 3) := by decide +kernel
theorem dX2_write_22 : decode cX2_write 22 = .ok (.invokevirtual 41, 3) := by decide +kernel
theorem dX2_write_25 : decode cX2_write 25 = .ok (.ireturn, 1) := by decide +kernel
theorem dX2_fill_0 : decode cX2_fill 0 = .ok (.aload_n 0, 1) := by decide +kernel
theorem dX2_fill_1 : decode cX2_fill 1 = .ok (.getfield 16, 3) := by decide +kernel
theorem dX2_fill_4 : decode cX2_fill 4 = .ok (.aload_n 0, 1) := by decide +kernel
theorem dX2_fill_5 : decode cX2_fill 5 = .ok (.getfield 12, 3) := by decide +kernel
theorem dX2_fill_8 : decode cX2_fill 8 = .ok (.invokevirtual 33, 3) := by decide +kernel
theorem dX2_fill_11 : decode cX2_fill 11 = .ok (.aload_n 0, 1) := by decide +kernel
theorem dX2_fill_12 : decode cX2_fill 12 = .ok (.aload_n 0, 1) := by decide +kernel
theorem dX2_fill_13 : decode cX2_fill 13 = .ok (.getfield 12, 3) := by decide +kernel
theorem dX2_fill_16 : decode cX2_fill 16 = .ok (.iload_n 1, 1) := by decide +kernel
theorem dX2_fill_17 : decode cX2_fill 17 = .ok (.iload_n 2, 1) := by decide +kernel
theorem dX2_fill_18 : decode cX2_fill 18 = .ok (.invokevirtual 45, 3) := by decide +kernel
theorem dX2_fill_21 : decode cX2_fill 21 = .ok (.invokevirtual 41, 3) := by decide +kernel
theorem dX2_fill_24 : decode cX2_fill 24 = .ok (.ireturn, 1) := by decide +kernel
theorem dX2_anew_0 : decode cX2_anew 0 = .ok (.aload_n 0, 1) := by decide +kernel
theorem dX2_anew_1 : decode cX2_anew 1 = .ok (.getfield 16, 3) := by decide +kernel
theorem dX2_anew_4 : decode cX2_anew 4 = .ok (.aload_n 0, 1) := by decide +kernel
theorem dX2_anew_5 : decode cX2_anew 5 = .ok (.getfield 12, 3) := by decide +kernel
theorem dX2_anew_8 : decode cX2_anew 8 = .ok (.invokevirtual 33, 3) := by decide +kernel
theorem dX2_anew_11 : decode cX2_anew 11 = .ok (.aload_n 0, 1) := by decide +kernel
theorem dX2_anew_12 : decode cX2_anew 12 = .ok (.aload_n 0, 1) := by decide +kernel
theorem dX2_anew_13 : decode cX2_anew 13 = .ok (.getfield 12, 3) := by decide +kernel
theorem dX2_anew_16 : decode cX2_anew 16 = .ok (.iload_n 1, 1) := by decide +kernel
theorem dX2_anew_17 : decode cX2_anew 17 = .ok (.invokevirtual 49, 3) := by decide +kernel
theorem dX2_anew_20 : decode cX2_anew 20 = .ok (.invokevirtual 41, 3) := by decide +kernel
theorem dX2_anew_23 : decode cX2_anew 23 = .ok (.ireturn, 1) := by decide +kernel
theorem dX2_ask_0 : decode cX2_ask 0 = .ok (.aload_n 0, 1) := by decide +kernel
theorem dX2_ask_1 : decode cX2_ask 1 = .ok (.getfield 16, 3) := by decide +kernel
theorem dX2_ask_4 : decode cX2_ask 4 = .ok (.aload_n 0, 1) := by decide +kernel
theorem dX2_ask_5 : decode cX2_ask 5 = .ok (.getfield 12, 3) := by decide +kernel
theorem dX2_ask_8 : decode cX2_ask 8 = .ok (.invokevirtual 33, 3) := by decide +kernel
theorem dX2_ask_11 : decode cX2_ask 11 = .ok (.aload_n 0, 1) := by decide +kernel
theorem dX2_ask_12 : decode cX2_ask 12 = .ok (.aload_n 0, 1) := by decide +kernel
theorem dX2_ask_13 : decode cX2_ask 13 = .ok (.getfield 12, 3) := by decide +kernel
theorem dX2_ask_16 : decode cX2_ask 16 = .ok (.iload_n 1, 1) := by decide +kernel
theorem dX2_ask_17 : decode cX2_ask 17 = .ok (.iload_n 2, 1) := by decide +kernel
theorem dX2_ask_18 : decode cX2_ask 18 = .ok (.invokevirtual 52, 3) := by decide +kernel
theorem dX2_ask_21 : decode cX2_ask 21 = .ok (.invokevirtual 41, 3) := by decide +kernel
theorem dX2_ask_24 : decode cX2_ask 24 = .ok (.ireturn, 1) := by decide +kernel
theorem dX2_fail_0 : decode cX2_fail 0 = .ok (.aload_n 0, 1) := by decide +kernel
theorem dX2_fail_1 : decode cX2_fail 1 = .ok (.getfield 16, 3) := by decide +kernel
theorem dX2_fail_4 : decode cX2_fail 4 = .ok (.aload_n 0, 1) := by decide +kernel
theorem dX2_fail_5 : decode cX2_fail 5 = .ok (.getfield 12, 3) := by decide +kernel
theorem dX2_fail_8 : decode cX2_fail 8 = .ok (.invokevirtual 33, 3) := by decide +kernel
theorem dX2_fail_11 : decode cX2_fail 11 = .ok (.aload_n 0, 1) := by decide +kernel
theorem dX2_fail_12 : decode cX2_fail 12 = .ok (.aload_n 0, 1) := by decide +kernel
theorem dX2_fail_13 : decode cX2_fail 13 = .ok (.getfield 12, 3) := by decide +kernel
theorem dX2_fail_16 : decode cX2_fail 16 = .ok (.iload_n 1, 1) := by decide +kernel
theorem dX2_fail_17 : decode cX2_fail 17 = .ok (.iload_n 2, 1) := by decide +kernel
theorem dX2_fail_18 : decode cX2_fail 18 = .ok (.iload_n 3, 1) := by decide +kernel
theorem dX2_fail_19 : decode cX2_fail 19 = .ok (.invokevirtual 55, 3) := by decide +kernel
theorem dX2_fail_22 : decode cX2_fail 22 = .ok (.invokevirtual 41, 3) := by decide +kernel
theorem dX2_fail_25 : decode cX2_fail 25 = .ok (.ireturn, 1) := by decide +kernel
theorem dX2_mend_0 : decode cX2_mend 0 = .ok (.aload_n 0, 1) := by decide +kernel
theorem dX2_mend_1 : decode cX2_mend 1 = .ok (.getfield 16, 3) := by decide +kernel
theorem dX2_mend_4 : decode cX2_mend 4 = .ok (.aload_n 0, 1) := by decide +kernel
theorem dX2_mend_5 : decode cX2_mend 5 = .ok (.getfield 12, 3) := by decide +kernel
theorem dX2_mend_8 : decode cX2_mend 8 = .ok (.invokevirtual 33, 3) := by decide +kernel
theorem dX2_mend_11 : decode cX2_mend 11 = .ok (.aload_n 0, 1) := by decide +kernel
theorem dX2_mend_12 : decode cX2_mend 12 = .ok (.aload_n 0, 1) := by decide +kernel
theorem dX2_mend_13 : decode cX2_mend 13 = .ok (.getfield 12, 3) := by decide +kernel
theorem dX2_mend_16 : decode cX2_mend 16 = .ok (.iload_n 1, 1) := by decide +kernel
theorem dX2_mend_17 : decode cX2_mend 17 = .ok (.iload_n 2, 1) := by decide +kernel
theorem dX2_mend_18 : decode cX2_mend 18 = .ok (.invokevirtual 58, 3) := by decide +kernel
theorem dX2_mend_21 : decode cX2_mend 21 = .ok (.invokevirtual 41, 3) := by decide +kernel
theorem dX2_mend_24 : decode cX2_mend 24 = .ok (.ireturn, 1) := by decide +kernel
theorem dX2_rate_0 : decode cX2_rate 0 = .ok (.aload_n 0, 1) := by decide +kernel
theorem dX2_rate_1 : decode cX2_rate 1 = .ok (.getfield 16, 3) := by decide +kernel
theorem dX2_rate_4 : decode cX2_rate 4 = .ok (.aload_n 0, 1) := by decide +kernel
theorem dX2_rate_5 : decode cX2_rate 5 = .ok (.getfield 12, 3) := by decide +kernel
theorem dX2_rate_8 : decode cX2_rate 8 = .ok (.invokevirtual 33, 3) := by decide +kernel
theorem dX2_rate_11 : decode cX2_rate 11 = .ok (.aload_n 0, 1) := by decide +kernel
theorem dX2_rate_12 : decode cX2_rate 12 = .ok (.aload_n 0, 1) := by decide +kernel
theorem dX2_rate_13 : decode cX2_rate 13 = .ok (.getfield 12, 3) := by decide +kernel
theorem dX2_rate_16 : decode cX2_rate 16 = .ok (.iload_n 1, 1) := by decide +kernel
theorem dX2_rate_17 : decode cX2_rate 17 = .ok (.iload_n 2, 1) := by decide +kernel
theorem dX2_rate_18 : decode cX2_rate 18 = .ok (.invokevirtual 61, 3) := by decide +kernel
theorem dX2_rate_21 : decode cX2_rate 21 = .ok (.invokevirtual 41, 3) := by decide +kernel
theorem dX2_rate_24 : decode cX2_rate 24 = .ok (.ireturn, 1) := by decide +kernel
theorem dX2_days_0 : decode cX2_days 0 = .ok (.aload_n 0, 1) := by decide +kernel
theorem dX2_days_1 : decode cX2_days 1 = .ok (.getfield 16, 3) := by decide +kernel
theorem dX2_days_4 : decode cX2_days 4 = .ok (.aload_n 0, 1) := by decide +kernel
theorem dX2_days_5 : decode cX2_days 5 = .ok (.getfield 12, 3) := by decide +kernel
theorem dX2_days_8 : decode cX2_days 8 = .ok (.invokevirtual 33, 3) := by decide +kernel
theorem dX2_days_11 : decode cX2_days 11 = .ok (.aload_n 0, 1) := by decide +kernel
theorem dX2_days_12 : decode cX2_days 12 = .ok (.aload_n 0, 1) := by decide +kernel
theorem dX2_days_13 : decode cX2_days 13 = .ok (.getfield 12, 3) := by decide +kernel
theorem dX2_days_16 : decode cX2_days 16 = .ok (.iload_n 1, 1) := by decide +kernel
theorem dX2_days_17 : decode cX2_days 17 = .ok (.sipush 9999, 3) := by decide +kernel
theorem dX2_days_20 : decode cX2_days 20 = .ok (.invokevirtual 64, 3) := by decide +kernel
theorem dX2_days_23 : decode cX2_days 23 = .ok (.invokevirtual 41, 3) := by decide +kernel
theorem dX2_days_26 : decode cX2_days 26 = .ok (.ireturn, 1) := by decide +kernel
theorem dX2_set_0 : decode cX2_set 0 = .ok (.aload_n 0, 1) := by decide +kernel
theorem dX2_set_1 : decode cX2_set 1 = .ok (.getfield 16, 3) := by decide +kernel
theorem dX2_set_4 : decode cX2_set 4 = .ok (.aload_n 0, 1) := by decide +kernel
theorem dX2_set_5 : decode cX2_set 5 = .ok (.getfield 12, 3) := by decide +kernel
theorem dX2_set_8 : decode cX2_set 8 = .ok (.invokevirtual 33, 3) := by decide +kernel
theorem dX2_set_11 : decode cX2_set 11 = .ok (.aload_n 0, 1) := by decide +kernel
theorem dX2_set_12 : decode cX2_set 12 = .ok (.aload_n 0, 1) := by decide +kernel
theorem dX2_set_13 : decode cX2_set 13 = .ok (.getfield 12, 3) := by decide +kernel
theorem dX2_set_16 : decode cX2_set 16 = .ok (.iload_n 1, 1) := by decide +kernel
theorem dX2_set_17 : decode cX2_set 17 = .ok (.iload_n 2, 1) := by decide +kernel
theorem dX2_set_18 : decode cX2_set 18 = .ok (.invokevirtual 67, 3) := by decide +kernel
theorem dX2_set_21 : decode cX2_set 21 = .ok (.invokevirtual 41, 3) := by decide +kernel
theorem dX2_set_24 : decode cX2_set 24 = .ok (.ireturn, 1) := by decide +kernel
theorem dX2_cell_0 : decode cX2_cell 0 = .ok (.aload_n 0, 1) := by decide +kernel
theorem dX2_cell_1 : decode cX2_cell 1 = .ok (.getfield 12, 3) := by decide +kernel
theorem dX2_cell_4 : decode cX2_cell 4 = .ok (.iload_n 1, 1) := by decide +kernel
theorem dX2_cell_5 : decode cX2_cell 5 = .ok (.iload_n 2, 1) := by decide +kernel
theorem dX2_cell_6 : decode cX2_cell 6 = .ok (.iload_n 3, 1) := by decide +kernel
theorem dX2_cell_7 : decode cX2_cell 7 = .ok (.invokevirtual 70, 3) := by decide +kernel
theorem dX2_cell_10 : decode cX2_cell 10 = .ok (.ireturn, 1) := by decide +kernel
theorem dX2_guard_0 : decode cX2_guard 0 = .ok (.aload_n 0, 1) := by decide +kernel
theorem dX2_guard_1 : decode cX2_guard 1 = .ok (.getfield 12, 3) := by decide +kernel
theorem dX2_guard_4 : decode cX2_guard 4 = .ok (.iload_n 1, 1) := by decide +kernel
theorem dX2_guard_5 : decode cX2_guard 5 = .ok (.iload_n 2, 1) := by decide +kernel
theorem dX2_guard_6 : decode cX2_guard 6 = .ok (.iload_n 3, 1) := by decide +kernel
theorem dX2_guard_7 : decode cX2_guard 7 = .ok (.invokevirtual 73, 3) := by decide +kernel
theorem dX2_guard_10 : decode cX2_guard 10 = .ok (.ireturn, 1) := by decide +kernel
theorem dX2_row_0 : decode cX2_row 0 = .ok (.aload_n 0, 1) := by decide +kernel
theorem dX2_row_1 : decode cX2_row 1 = .ok (.getfield 12, 3) := by decide +kernel
theorem dX2_row_4 : decode cX2_row 4 = .ok (.iload_n 1, 1) := by decide +kernel
theorem dX2_row_5 : decode cX2_row 5 = .ok (.iload_n 2, 1) := by decide +kernel
theorem dX2_row_6 : decode cX2_row 6 = .ok (.invokevirtual 76, 3) := by decide +kernel
theorem dX2_row_9 : decode cX2_row 9 = .ok (.ireturn, 1) := by decide +kernel
theorem dX2_table_0 : decode cX2_table 0 = .ok (.aload_n 0, 1) := by decide +kernel
theorem dX2_table_1 : decode cX2_table 1 = .ok (.getfield 12, 3) := by decide +kernel
theorem dX2_table_4 : decode cX2_table 4 = .ok (.iload_n 1, 1) := by decide +kernel
theorem dX2_table_5 : decode cX2_table 5 = .ok (.iload_n 2, 1) := by decide +kernel
theorem dX2_table_6 : decode cX2_table 6 = .ok (.invokevirtual 79, 3) := by decide +kernel
theorem dX2_table_9 : decode cX2_table 9 = .ok (.ireturn, 1) := by decide +kernel
theorem dX2_wrongIn_0 : decode cX2_wrongIn 0 = .ok (.iload_n 1, 1) := by decide +kernel
theorem dX2_wrongIn_1 : decode cX2_wrongIn 1 = .ok (.iconst 0, 1) := by decide +kernel
theorem dX2_wrongIn_2 : decode cX2_wrongIn 2 = .ok (.iconst 5, 1) := by decide +kernel
theorem dX2_wrongIn_3 : decode cX2_wrongIn 3 = .ok (.invokestatic 82, 3) := by decide +kernel
theorem dX2_wrongIn_6 : decode cX2_wrongIn 6 = .ok (.ifCond .eq 6, 3) := by decide +kernel
theorem dX2_wrongIn_9 : decode cX2_wrongIn 9 = .ok (.ldc 86, 2) := by decide +kernel
theorem dX2_wrongIn_11 : decode cX2_wrongIn 11 = .ok (.ireturn, 1) := by decide +kernel
theorem dX2_wrongIn_12 : decode cX2_wrongIn 12 = .ok (.aload_n 0, 1) := by decide +kernel
theorem dX2_wrongIn_13 : decode cX2_wrongIn 13 = .ok (.getfield 19, 3) := by decide +kernel
theorem dX2_wrongIn_16 : decode cX2_wrongIn 16 = .ok (.aload_n 0, 1) := by decide +kernel
theorem dX2_wrongIn_17 : decode cX2_wrongIn 17 = .ok (.getfield 12, 3) := by decide +kernel
theorem dX2_wrongIn_20 : decode cX2_wrongIn 20 = .ok (.invokevirtual 33, 3) := by decide +kernel
theorem dX2_wrongIn_23 : decode cX2_wrongIn 23 = .ok (.iconst 0, 1) := by decide +kernel
theorem dX2_wrongIn_24 : decode cX2_wrongIn 24 = .ok (.istore_n 2, 1) := by decide +kernel
theorem dX2_wrongIn_25 : decode cX2_wrongIn 25 = .ok (.iload_n 2, 1) := by decide +kernel
theorem dX2_wrongIn_26 : decode cX2_wrongIn 26 = .ok (.sipush 300, 3) := by decide +kernel
theorem dX2_wrongIn_29 : decode cX2_wrongIn 29 = .ok (.if_icmp .gt 33, 3) := by decide +kernel
theorem dX2_wrongIn_32 : decode cX2_wrongIn 32 = .ok (.aload_n 0, 1) := by decide +kernel
theorem dX2_wrongIn_33 : decode cX2_wrongIn 33 = .ok (.getfield 19, 3) := by decide +kernel
theorem dX2_wrongIn_36 : decode cX2_wrongIn 36 = .ok (.iload_n 1, 1) := by decide +kernel
theorem dX2_wrongIn_37 : decode cX2_wrongIn 37 = .ok (.invokevirtual 87, 3) := by decide +kernel
theorem dX2_wrongIn_40 : decode cX2_wrongIn 40 = .ok (.ifCond .le 5, 3) := by decide +kernel
theorem dX2_wrongIn_43 : decode cX2_wrongIn 43 = .ok (.iload_n 2, 1) := by decide +kernel
theorem dX2_wrongIn_44 : decode cX2_wrongIn 44 = .ok (.ireturn, 1) := by decide +kernel
theorem dX2_wrongIn_45 : decode cX2_wrongIn 45 = .ok (.aload_n 0, 1) := by decide +kernel
theorem dX2_wrongIn_46 : decode cX2_wrongIn 46 = .ok (.getfield 19, 3) := by decide +kernel
theorem dX2_wrongIn_49 : decode cX2_wrongIn 49 = .ok (.iconst 1, 1) := by decide +kernel
theorem dX2_wrongIn_50 : decode cX2_wrongIn 50 = .ok (.ldc 90, 2) := by decide +kernel
theorem dX2_wrongIn_52 : decode cX2_wrongIn 52 = .ok (.invokevirtual 64, 3) := by decide +kernel
theorem dX2_wrongIn_55 : decode cX2_wrongIn 55 = .ok (.pop, 1) := by decide +kernel
theorem dX2_wrongIn_56 : decode cX2_wrongIn 56 = .ok (.iinc 2 1, 3) := by decide +kernel
theorem dX2_wrongIn_59 : decode cX2_wrongIn 59 = .ok (.goto (-34), 3) := by decide +kernel
theorem dX2_wrongIn_62 : decode cX2_wrongIn 62 = .ok (.ldc 91, 2) := by decide +kernel
theorem dX2_wrongIn_64 : decode cX2_wrongIn 64 = .ok (.ireturn, 1) := by decide +kernel
theorem dX2_rightFor_0 : decode cX2_rightFor 0 = .ok (.iload_n 1, 1) := by decide +kernel
theorem dX2_rightFor_1 : decode cX2_rightFor 1 = .ok (.iconst 0, 1) := by decide +kernel
theorem dX2_rightFor_2 : decode cX2_rightFor 2 = .ok (.iconst 5, 1) := by decide +kernel
theorem dX2_rightFor_3 : decode cX2_rightFor 3 = .ok (.invokestatic 82, 3) := by decide +kernel
theorem dX2_rightFor_6 : decode cX2_rightFor 6 = .ok (.ifCond .eq 6, 3) := by decide +kernel
theorem dX2_rightFor_9 : decode cX2_rightFor 9 = .ok (.ldc 86, 2) := by decide +kernel
theorem dX2_rightFor_11 : decode cX2_rightFor 11 = .ok (.ireturn, 1) := by decide +kernel
theorem dX2_rightFor_12 : decode cX2_rightFor 12 = .ok (.aload_n 0, 1) := by decide +kernel
theorem dX2_rightFor_13 : decode cX2_rightFor 13 = .ok (.getfield 19, 3) := by decide +kernel
theorem dX2_rightFor_16 : decode cX2_rightFor 16 = .ok (.aload_n 0, 1) := by decide +kernel
theorem dX2_rightFor_17 : decode cX2_rightFor 17 = .ok (.getfield 12, 3) := by decide +kernel
theorem dX2_rightFor_20 : decode cX2_rightFor 20 = .ok (.invokevirtual 33, 3) := by decide +kernel
theorem dX2_rightFor_23 : decode cX2_rightFor 23 = .ok (.aload_n 0, 1) := by decide +kernel
theorem dX2_rightFor_24 : decode cX2_rightFor 24 = .ok (.getfield 19, 3) := by decide +kernel
theorem dX2_rightFor_27 : decode cX2_rightFor 27 = .ok (.iconst 2, 1) := by decide +kernel
theorem dX2_rightFor_28 : decode cX2_rightFor 28 = .ok (.iconst 0, 1) := by decide +kernel
theorem dX2_rightFor_29 : decode cX2_rightFor 29 = .ok (.invokevirtual 67, 3) := by decide +kernel
theorem dX2_rightFor_32 : decode cX2_rightFor 32 = .ok (.pop, 1) := by decide +kernel
theorem dX2_rightFor_33 : decode cX2_rightFor 33 = .ok (.iconst 0, 1) := by decide +kernel
theorem dX2_rightFor_34 : decode cX2_rightFor 34 = .ok (.istore_n 2, 1) := by decide +kernel
theorem dX2_rightFor_35 : decode cX2_rightFor 35 = .ok (.iload_n 2, 1) := by decide +kernel
theorem dX2_rightFor_36 : decode cX2_rightFor 36 = .ok (.sipush 300, 3) := by decide +kernel
theorem dX2_rightFor_39 : decode cX2_rightFor 39 = .ok (.if_icmp .gt 33, 3) := by decide +kernel
theorem dX2_rightFor_42 : decode cX2_rightFor 42 = .ok (.aload_n 0, 1) := by decide +kernel
theorem dX2_rightFor_43 : decode cX2_rightFor 43 = .ok (.getfield 19, 3) := by decide +kernel
theorem dX2_rightFor_46 : decode cX2_rightFor 46 = .ok (.iload_n 1, 1) := by decide +kernel
theorem dX2_rightFor_47 : decode cX2_rightFor 47 = .ok (.invokevirtual 92, 3) := by decide +kernel
theorem dX2_rightFor_50 : decode cX2_rightFor 50 = .ok (.ifCond .ne 5, 3) := by decide +kernel
theorem dX2_rightFor_53 : decode cX2_rightFor 53 = .ok (.iload_n 2, 1) := by decide +kernel
theorem dX2_rightFor_54 : decode cX2_rightFor 54 = .ok (.ireturn, 1) := by decide +kernel
theorem dX2_rightFor_55 : decode cX2_rightFor 55 = .ok (.aload_n 0, 1) := by decide +kernel
theorem dX2_rightFor_56 : decode cX2_rightFor 56 = .ok (.getfield 19, 3) := by decide +kernel
theorem dX2_rightFor_59 : decode cX2_rightFor 59 = .ok (.iconst 1, 1) := by decide +kernel
theorem dX2_rightFor_60 : decode cX2_rightFor 60 = .ok (.ldc 90, 2) := by decide +kernel
theorem dX2_rightFor_62 : decode cX2_rightFor 62 = .ok (.invokevirtual 64, 3) := by decide +kernel
theorem dX2_rightFor_65 : decode cX2_rightFor 65 = .ok (.pop, 1) := by decide +kernel
theorem dX2_rightFor_66 : decode cX2_rightFor 66 = .ok (.iinc 2 1, 3) := by decide +kernel
theorem dX2_rightFor_69 : decode cX2_rightFor 69 = .ok (.goto (-34), 3) := by decide +kernel
theorem dX2_rightFor_72 : decode cX2_rightFor 72 = .ok (.ldc 91, 2) := by decide +kernel
theorem dX2_rightFor_74 : decode cX2_rightFor 74 = .ok (.ireturn, 1) := by decide +kernel
theorem dX2_safeAge_0 : decode cX2_safeAge 0 = .ok (.bipush 60, 2) := by decide +kernel
theorem dX2_safeAge_2 : decode cX2_safeAge 2 = .ok (.istore_n 1, 1) := by decide +kernel
theorem dX2_safeAge_3 : decode cX2_safeAge 3 = .ok (.iload_n 1, 1) := by decide +kernel
theorem dX2_safeAge_4 : decode cX2_safeAge 4 = .ok (.iconst 1, 1) := by decide +kernel
theorem dX2_safeAge_5 : decode cX2_safeAge 5 = .ok (.if_icmp .lt 19, 3) := by decide +kernel
theorem dX2_safeAge_8 : decode cX2_safeAge 8 = .ok (.aload_n 0, 1) := by decide +kernel
theorem dX2_safeAge_9 : decode cX2_safeAge 9 = .ok (.iload_n 1, 1) := by decide +kernel
theorem dX2_safeAge_10 : decode cX2_safeAge 10 = .ok (.invokevirtual 96, 3) := by decide +kernel
theorem dX2_safeAge_13 : decode cX2_safeAge 13 = .ok (.ifCond .eq 5, 3) := by decide +kernel
theorem dX2_safeAge_16 : decode cX2_safeAge 16 = .ok (.iload_n 1, 1) := by decide +kernel
theorem dX2_safeAge_17 : decode cX2_safeAge 17 = .ok (.ireturn, 1) := by decide +kernel
theorem dX2_safeAge_18 : decode cX2_safeAge 18 = .ok (.iinc 1 (-1), 3) := by decide +kernel
theorem dX2_safeAge_21 : decode cX2_safeAge 21 = .ok (.goto (-18), 3) := by decide +kernel
theorem dX2_safeAge_24 : decode cX2_safeAge 24 = .ok (.ldc 91, 2) := by decide +kernel
theorem dX2_safeAge_26 : decode cX2_safeAge 26 = .ok (.ireturn, 1) := by decide +kernel
theorem dX2_worst_0 : decode cX2_worst 0 = .ok (.iload_n 1, 1) := by decide +kernel
theorem dX2_worst_1 : decode cX2_worst 1 = .ok (.iconst 0, 1) := by decide +kernel
theorem dX2_worst_2 : decode cX2_worst 2 = .ok (.iconst 5, 1) := by decide +kernel
theorem dX2_worst_3 : decode cX2_worst 3 = .ok (.invokestatic 82, 3) := by decide +kernel
theorem dX2_worst_6 : decode cX2_worst 6 = .ok (.ifCond .eq 6, 3) := by decide +kernel
theorem dX2_worst_9 : decode cX2_worst 9 = .ok (.ldc 86, 2) := by decide +kernel
theorem dX2_worst_11 : decode cX2_worst 11 = .ok (.ireturn, 1) := by decide +kernel
theorem dX2_worst_12 : decode cX2_worst 12 = .ok (.iconst 0, 1) := by decide +kernel
theorem dX2_worst_13 : decode cX2_worst 13 = .ok (.istore_n 2, 1) := by decide +kernel
theorem dX2_worst_14 : decode cX2_worst 14 = .ok (.iconst 0, 1) := by decide +kernel
theorem dX2_worst_15 : decode cX2_worst 15 = .ok (.istore_n 3, 1) := by decide +kernel
theorem dX2_worst_16 : decode cX2_worst 16 = .ok (.iconst 0, 1) := by decide +kernel
theorem dX2_worst_17 : decode cX2_worst 17 = .ok (.istore 4, 2) := by decide +kernel
theorem dX2_worst_19 : decode cX2_worst 19 = .ok (.iload 4, 2) := by decide +kernel
theorem dX2_worst_21 : decode cX2_worst 21 = .ok (.iload_n 1, 1) := by decide +kernel
theorem dX2_worst_22 : decode cX2_worst 22 = .ok (.if_icmp .gt 24, 3) := by decide +kernel
theorem dX2_worst_25 : decode cX2_worst 25 = .ok (.aload_n 0, 1) := by decide +kernel
theorem dX2_worst_26 : decode cX2_worst 26 = .ok (.getfield 12, 3) := by decide +kernel
theorem dX2_worst_29 : decode cX2_worst 29 = .ok (.iload_n 2, 1) := by decide +kernel
theorem dX2_worst_30 : decode cX2_worst 30 = .ok (.invokevirtual 99, 3) := by decide +kernel
theorem dX2_worst_33 : decode cX2_worst 33 = .ok (.istore_n 3, 1) := by decide +kernel
theorem dX2_worst_34 : decode cX2_worst 34 = .ok (.iload_n 2, 1) := by decide +kernel
theorem dX2_worst_35 : decode cX2_worst 35 = .ok (.iconst 1, 1) := by decide +kernel
theorem dX2_worst_36 : decode cX2_worst 36 = .ok (.iload_n 3, 1) := by decide +kernel
theorem dX2_worst_37 : decode cX2_worst 37 = .ok (.ishl, 1) := by decide +kernel
theorem dX2_worst_38 : decode cX2_worst 38 = .ok (.ior, 1) := by decide +kernel
theorem dX2_worst_39 : decode cX2_worst 39 = .ok (.istore_n 2, 1) := by decide +kernel
theorem dX2_worst_40 : decode cX2_worst 40 = .ok (.iinc 4 1, 3) := by decide +kernel
theorem dX2_worst_43 : decode cX2_worst 43 = .ok (.goto (-24), 3) := by decide +kernel
theorem dX2_worst_46 : decode cX2_worst 46 = .ok (.iload_n 3, 1) := by decide +kernel
theorem dX2_worst_47 : decode cX2_worst 47 = .ok (.ireturn, 1) := by decide +kernel
theorem dX2_mean_0 : decode cX2_mean 0 = .ok (.aload_n 0, 1) := by decide +kernel
theorem dX2_mean_1 : decode cX2_mean 1 = .ok (.getfield 12, 3) := by decide +kernel
theorem dX2_mean_4 : decode cX2_mean 4 = .ok (.invokevirtual 102, 3) := by decide +kernel
theorem dX2_mean_7 : decode cX2_mean 7 = .ok (.i2f, 1) := by decide +kernel
theorem dX2_mean_8 : decode cX2_mean 8 = .ok (.ldc 106, 2) := by decide +kernel
theorem dX2_mean_10 : decode cX2_mean 10 = .ok (.fdiv, 1) := by decide +kernel
theorem dX2_mean_11 : decode cX2_mean 11 = .ok (.invokestatic 107, 3) := by decide +kernel
theorem dX2_mean_14 : decode cX2_mean 14 = .ok (.ireturn, 1) := by decide +kernel
theorem dX2_share_0 : decode cX2_share 0 = .ok (.aload_n 0, 1) := by decide +kernel
theorem dX2_share_1 : decode cX2_share 1 = .ok (.getfield 12, 3) := by decide +kernel
theorem dX2_share_4 : decode cX2_share 4 = .ok (.invokevirtual 111, 3) := by decide +kernel
theorem dX2_share_7 : decode cX2_share 7 = .ok (.istore_n 1, 1) := by decide +kernel
theorem dX2_share_8 : decode cX2_share 8 = .ok (.iload_n 1, 1) := by decide +kernel
theorem dX2_share_9 : decode cX2_share 9 = .ok (.ifCond .ne 6, 3) := by decide +kernel
theorem dX2_share_12 : decode cX2_share 12 = .ok (.ldc 91, 2) := by decide +kernel
theorem dX2_share_14 : decode cX2_share 14 = .ok (.ireturn, 1) := by decide +kernel
theorem dX2_share_15 : decode cX2_share 15 = .ok (.aload_n 0, 1) := by decide +kernel
theorem dX2_share_16 : decode cX2_share 16 = .ok (.getfield 12, 3) := by decide +kernel
theorem dX2_share_19 : decode cX2_share 19 = .ok (.invokevirtual 114, 3) := by decide +kernel
theorem dX2_share_22 : decode cX2_share 22 = .ok (.i2f, 1) := by decide +kernel
theorem dX2_share_23 : decode cX2_share 23 = .ok (.iload_n 1, 1) := by decide +kernel
theorem dX2_share_24 : decode cX2_share 24 = .ok (.i2f, 1) := by decide +kernel
theorem dX2_share_25 : decode cX2_share 25 = .ok (.fdiv, 1) := by decide +kernel
theorem dX2_share_26 : decode cX2_share 26 = .ok (.invokestatic 107, 3) := by decide +kernel
theorem dX2_share_29 : decode cX2_share 29 = .ok (.ireturn, 1) := by decide +kernel
theorem dX2_count_0 : decode cX2_count 0 = .ok (.iload_n 1, 1) := by decide +kernel
theorem dX2_count_1 : decode cX2_count 1 = .ok (.lookupswitch 40 #[(15, 27), (16, 32)], 27) := by decide +kernel
theorem dX2_count_28 : decode cX2_count 28 = .ok (.aload_n 0, 1) := by decide +kernel
theorem dX2_count_29 : decode cX2_count 29 = .ok (.getfield 117, 3) := by decide +kernel
theorem dX2_count_32 : decode cX2_count 32 = .ok (.ireturn, 1) := by decide +kernel
theorem dX2_count_33 : decode cX2_count 33 = .ok (.aload_n 0, 1) := by decide +kernel
theorem dX2_count_34 : decode cX2_count 34 = .ok (.getfield 29, 3) := by decide +kernel
theorem dX2_count_37 : decode cX2_count 37 = .ok (.invokevirtual 121, 3) := by decide +kernel
theorem dX2_count_40 : decode cX2_count 40 = .ok (.ireturn, 1) := by decide +kernel
theorem dX2_count_41 : decode cX2_count 41 = .ok (.aload_n 0, 1) := by decide +kernel
theorem dX2_count_42 : decode cX2_count 42 = .ok (.getfield 12, 3) := by decide +kernel
theorem dX2_count_45 : decode cX2_count 45 = .ok (.iload_n 1, 1) := by decide +kernel
theorem dX2_count_46 : decode cX2_count 46 = .ok (.invokevirtual 124, 3) := by decide +kernel
theorem dX2_count_49 : decode cX2_count 49 = .ok (.ireturn, 1) := by decide +kernel
theorem dX2_undo_0 : decode cX2_undo 0 = .ok (.aload_n 0, 1) := by decide +kernel
theorem dX2_undo_1 : decode cX2_undo 1 = .ok (.getfield 117, 3) := by decide +kernel
theorem dX2_undo_4 : decode cX2_undo 4 = .ok (.ifCond .le 11, 3) := by decide +kernel
theorem dX2_undo_7 : decode cX2_undo 7 = .ok (.aload_n 0, 1) := by decide +kernel
theorem dX2_undo_8 : decode cX2_undo 8 = .ok (.getfield 117, 3) := by decide +kernel
theorem dX2_undo_11 : decode cX2_undo 11 = .ok (.iconst 4, 1) := by decide +kernel
theorem dX2_undo_12 : decode cX2_undo 12 = .ok (.if_icmp .le 6, 3) := by decide +kernel
theorem dX2_undo_15 : decode cX2_undo 15 = .ok (.ldc 127, 2) := by decide +kernel
theorem dX2_undo_17 : decode cX2_undo 17 = .ok (.ireturn, 1) := by decide +kernel
theorem dX2_undo_18 : decode cX2_undo 18 = .ok (.aload_n 0, 1) := by decide +kernel
theorem dX2_undo_19 : decode cX2_undo 19 = .ok (.dup, 1) := by decide +kernel
theorem dX2_undo_20 : decode cX2_undo 20 = .ok (.getfield 117, 3) := by decide +kernel
theorem dX2_undo_23 : decode cX2_undo 23 = .ok (.iconst 1, 1) := by decide +kernel
theorem dX2_undo_24 : decode cX2_undo 24 = .ok (.isub, 1) := by decide +kernel
theorem dX2_undo_25 : decode cX2_undo 25 = .ok (.putfield 117, 3) := by decide +kernel
theorem dX2_undo_28 : decode cX2_undo 28 = .ok (.aload_n 0, 1) := by decide +kernel
theorem dX2_undo_29 : decode cX2_undo 29 = .ok (.getfield 12, 3) := by decide +kernel
theorem dX2_undo_32 : decode cX2_undo 32 = .ok (.astore_n 1, 1) := by decide +kernel
theorem dX2_undo_33 : decode cX2_undo 33 = .ok (.aload_n 0, 1) := by decide +kernel
theorem dX2_undo_34 : decode cX2_undo 34 = .ok (.aload_n 0, 1) := by decide +kernel
theorem dX2_undo_35 : decode cX2_undo 35 = .ok (.getfield 22, 3) := by decide +kernel
theorem dX2_undo_38 : decode cX2_undo 38 = .ok (.aload_n 0, 1) := by decide +kernel
theorem dX2_undo_39 : decode cX2_undo 39 = .ok (.getfield 117, 3) := by decide +kernel
theorem dX2_undo_42 : decode cX2_undo 42 = .ok (.aaload, 1) := by decide +kernel
theorem dX2_undo_43 : decode cX2_undo 43 = .ok (.putfield 12, 3) := by decide +kernel
theorem dX2_undo_46 : decode cX2_undo 46 = .ok (.aload_n 0, 1) := by decide +kernel
theorem dX2_undo_47 : decode cX2_undo 47 = .ok (.getfield 22, 3) := by decide +kernel
theorem dX2_undo_50 : decode cX2_undo 50 = .ok (.aload_n 0, 1) := by decide +kernel
theorem dX2_undo_51 : decode cX2_undo 51 = .ok (.getfield 117, 3) := by decide +kernel
theorem dX2_undo_54 : decode cX2_undo 54 = .ok (.aload_n 1, 1) := by decide +kernel
theorem dX2_undo_55 : decode cX2_undo 55 = .ok (.aastore, 1) := by decide +kernel
theorem dX2_undo_56 : decode cX2_undo 56 = .ok (.aload_n 0, 1) := by decide +kernel
theorem dX2_undo_57 : decode cX2_undo 57 = .ok (.getfield 117, 3) := by decide +kernel
theorem dX2_undo_60 : decode cX2_undo 60 = .ok (.ireturn, 1) := by decide +kernel
theorem dX2_type_0 : decode cX2_type 0 = .ok (.aload_n 0, 1) := by decide +kernel
theorem dX2_type_1 : decode cX2_type 1 = .ok (.getfield 29, 3) := by decide +kernel
theorem dX2_type_4 : decode cX2_type 4 = .ok (.iload_n 1, 1) := by decide +kernel
theorem dX2_type_5 : decode cX2_type 5 = .ok (.invokevirtual 128, 3) := by decide +kernel
theorem dX2_type_8 : decode cX2_type 8 = .ok (.ireturn, 1) := by decide +kernel
theorem dX2_clearText_0 : decode cX2_clearText 0 = .ok (.aload_n 0, 1) := by decide +kernel
theorem dX2_clearText_1 : decode cX2_clearText 1 = .ok (.getfield 29, 3) := by decide +kernel
theorem dX2_clearText_4 : decode cX2_clearText 4 = .ok (.invokevirtual 131, 3) := by decide +kernel
theorem dX2_clearText_7 : decode cX2_clearText 7 = .ok (.ireturn, 1) := by decide +kernel
theorem dX2_fault_0 : decode cX2_fault 0 = .ok (.iload_n 1, 1) := by decide +kernel
theorem dX2_fault_1 : decode cX2_fault 1 = .ok (.iconst 0, 1) := by decide +kernel
theorem dX2_fault_2 : decode cX2_fault 2 = .ok (.iconst 2, 1) := by decide +kernel
theorem dX2_fault_3 : decode cX2_fault 3 = .ok (.invokestatic 82, 3) := by decide +kernel
theorem dX2_fault_6 : decode cX2_fault 6 = .ok (.ifCond .eq 6, 3) := by decide +kernel
theorem dX2_fault_9 : decode cX2_fault 9 = .ok (.ldc 86, 2) := by decide +kernel
theorem dX2_fault_11 : decode cX2_fault 11 = .ok (.ireturn, 1) := by decide +kernel
theorem dX2_fault_12 : decode cX2_fault 12 = .ok (.aload_n 0, 1) := by decide +kernel
theorem dX2_fault_13 : decode cX2_fault 13 = .ok (.invokevirtual 134, 3) := by decide +kernel
theorem dX2_fault_16 : decode cX2_fault 16 = .ok (.ifCond .ne 6, 3) := by decide +kernel
theorem dX2_fault_19 : decode cX2_fault 19 = .ok (.ldc 91, 2) := by decide +kernel
theorem dX2_fault_21 : decode cX2_fault 21 = .ok (.ireturn, 1) := by decide +kernel
theorem dX2_fault_22 : decode cX2_fault 22 = .ok (.iload_n 1, 1) := by decide +kernel
theorem dX2_fault_23 : decode cX2_fault 23 = .ok (.lookupswitch 35 #[(0, 25), (1, 30)], 25) := by decide +kernel
theorem dX2_fault_48 : decode cX2_fault 48 = .ok (.aload_n 0, 1) := by decide +kernel
theorem dX2_fault_49 : decode cX2_fault 49 = .ok (.getfield 138, 3) := by decide +kernel
theorem dX2_fault_52 : decode cX2_fault 52 = .ok (.ireturn, 1) := by decide +kernel
theorem dX2_fault_53 : decode cX2_fault 53 = .ok (.aload_n 0, 1) := by decide +kernel
theorem dX2_fault_54 : decode cX2_fault 54 = .ok (.getfield 141, 3) := by decide +kernel
theorem dX2_fault_57 : decode cX2_fault 57 = .ok (.ireturn, 1) := by decide +kernel
theorem dX2_fault_58 : decode cX2_fault 58 = .ok (.aload_n 0, 1) := by decide +kernel
theorem dX2_fault_59 : decode cX2_fault 59 = .ok (.getfield 144, 3) := by decide +kernel
theorem dX2_fault_62 : decode cX2_fault 62 = .ok (.ireturn, 1) := by decide +kernel
theorem dX2_play_0 : decode cX2_play 0 = .ok (.aload_n 0, 1) := by decide +kernel
theorem dX2_play_1 : decode cX2_play 1 = .ok (.invokevirtual 134, 3) := by decide +kernel
theorem dX2_play_4 : decode cX2_play 4 = .ok (.ifCond .eq 6, 3) := by decide +kernel
theorem dX2_play_7 : decode cX2_play 7 = .ok (.ldc 127, 2) := by decide +kernel
theorem dX2_play_9 : decode cX2_play 9 = .ok (.ireturn, 1) := by decide +kernel
theorem dX2_play_10 : decode cX2_play 10 = .ok (.aload_n 0, 1) := by decide +kernel
theorem dX2_play_11 : decode cX2_play 11 = .ok (.getfield 16, 3) := by decide +kernel
theorem dX2_play_14 : decode cX2_play 14 = .ok (.aload_n 0, 1) := by decide +kernel
theorem dX2_play_15 : decode cX2_play 15 = .ok (.getfield 12, 3) := by decide +kernel
theorem dX2_play_18 : decode cX2_play 18 = .ok (.invokevirtual 33, 3) := by decide +kernel
theorem dX2_play_21 : decode cX2_play 21 = .ok (.aload_n 0, 1) := by decide +kernel
theorem dX2_play_22 : decode cX2_play 22 = .ok (.getfield 12, 3) := by decide +kernel
theorem dX2_play_25 : decode cX2_play 25 = .ok (.aload_n 0, 1) := by decide +kernel
theorem dX2_play_26 : decode cX2_play 26 = .ok (.getfield 19, 3) := by decide +kernel
theorem dX2_play_29 : decode cX2_play 29 = .ok (.invokevirtual 33, 3) := by decide +kernel
theorem dX2_play_32 : decode cX2_play 32 = .ok (.aload_n 0, 1) := by decide +kernel
theorem dX2_play_33 : decode cX2_play 33 = .ok (.aload_n 0, 1) := by decide +kernel
theorem dX2_play_34 : decode cX2_play 34 = .ok (.getfield 147, 3) := by decide +kernel
theorem dX2_play_37 : decode cX2_play 37 = .ok (.invokevirtual 41, 3) := by decide +kernel
theorem dX2_play_40 : decode cX2_play 40 = .ok (.ireturn, 1) := by decide +kernel
theorem dX2_recorded_0 : decode cX2_recorded 0 = .ok (.iload_n 1, 1) := by decide +kernel
theorem dX2_recorded_1 : decode cX2_recorded 1 = .ok (.ifCond .ge 5, 3) := by decide +kernel
theorem dX2_recorded_4 : decode cX2_recorded 4 = .ok (.iload_n 1, 1) := by decide +kernel
theorem dX2_recorded_5 : decode cX2_recorded 5 = .ok (.ireturn, 1) := by decide +kernel
theorem dX2_recorded_6 : decode cX2_recorded 6 = .ok (.aload_n 0, 1) := by decide +kernel
theorem dX2_recorded_7 : decode cX2_recorded 7 = .ok (.getfield 117, 3) := by decide +kernel
theorem dX2_recorded_10 : decode cX2_recorded 10 = .ok (.iconst 4, 1) := by decide +kernel
theorem dX2_recorded_11 : decode cX2_recorded 11 = .ok (.if_icmp .lt 7, 3) := by decide +kernel
theorem dX2_recorded_14 : decode cX2_recorded 14 = .ok (.aload_n 0, 1) := by decide +kernel
theorem dX2_recorded_15 : decode cX2_recorded 15 = .ok (.invokevirtual 150, 3) := by decide +kernel
theorem dX2_recorded_18 : decode cX2_recorded 18 = .ok (.aload_n 0, 1) := by decide +kernel
theorem dX2_recorded_19 : decode cX2_recorded 19 = .ok (.getfield 22, 3) := by decide +kernel
theorem dX2_recorded_22 : decode cX2_recorded 22 = .ok (.aload_n 0, 1) := by decide +kernel
theorem dX2_recorded_23 : decode cX2_recorded 23 = .ok (.getfield 117, 3) := by decide +kernel
theorem dX2_recorded_26 : decode cX2_recorded 26 = .ok (.aaload, 1) := by decide +kernel
theorem dX2_recorded_27 : decode cX2_recorded 27 = .ok (.astore_n 2, 1) := by decide +kernel
theorem dX2_recorded_28 : decode cX2_recorded 28 = .ok (.aload_n 0, 1) := by decide +kernel
theorem dX2_recorded_29 : decode cX2_recorded 29 = .ok (.getfield 22, 3) := by decide +kernel
theorem dX2_recorded_32 : decode cX2_recorded 32 = .ok (.aload_n 0, 1) := by decide +kernel
theorem dX2_recorded_33 : decode cX2_recorded 33 = .ok (.getfield 117, 3) := by decide +kernel
theorem dX2_recorded_36 : decode cX2_recorded 36 = .ok (.aload_n 0, 1) := by decide +kernel
theorem dX2_recorded_37 : decode cX2_recorded 37 = .ok (.getfield 16, 3) := by decide +kernel
theorem dX2_recorded_40 : decode cX2_recorded 40 = .ok (.aastore, 1) := by decide +kernel
theorem dX2_recorded_41 : decode cX2_recorded 41 = .ok (.aload_n 0, 1) := by decide +kernel
theorem dX2_recorded_42 : decode cX2_recorded 42 = .ok (.aload_n 2, 1) := by decide +kernel
theorem dX2_recorded_43 : decode cX2_recorded 43 = .ok (.putfield 16, 3) := by decide +kernel
theorem dX2_recorded_46 : decode cX2_recorded 46 = .ok (.aload_n 0, 1) := by decide +kernel
theorem dX2_recorded_47 : decode cX2_recorded 47 = .ok (.dup, 1) := by decide +kernel
theorem dX2_recorded_48 : decode cX2_recorded 48 = .ok (.getfield 117, 3) := by decide +kernel
theorem dX2_recorded_51 : decode cX2_recorded 51 = .ok (.iconst 1, 1) := by decide +kernel
theorem dX2_recorded_52 : decode cX2_recorded 52 = .ok (.iadd, 1) := by decide +kernel
theorem dX2_recorded_53 : decode cX2_recorded 53 = .ok (.putfield 117, 3) := by decide +kernel
theorem dX2_recorded_56 : decode cX2_recorded 56 = .ok (.iload_n 1, 1) := by decide +kernel
theorem dX2_recorded_57 : decode cX2_recorded 57 = .ok (.ireturn, 1) := by decide +kernel
theorem dX2_dropOldest_0 : decode cX2_dropOldest 0 = .ok (.aload_n 0, 1) := by decide +kernel
theorem dX2_dropOldest_1 : decode cX2_dropOldest 1 = .ok (.getfield 22, 3) := by decide +kernel
theorem dX2_dropOldest_4 : decode cX2_dropOldest 4 = .ok (.iconst 0, 1) := by decide +kernel
theorem dX2_dropOldest_5 : decode cX2_dropOldest 5 = .ok (.aaload, 1) := by decide +kernel
theorem dX2_dropOldest_6 : decode cX2_dropOldest 6 = .ok (.astore_n 1, 1) := by decide +kernel
theorem dX2_dropOldest_7 : decode cX2_dropOldest 7 = .ok (.iconst 1, 1) := by decide +kernel
theorem dX2_dropOldest_8 : decode cX2_dropOldest 8 = .ok (.istore_n 2, 1) := by decide +kernel
theorem dX2_dropOldest_9 : decode cX2_dropOldest 9 = .ok (.iload_n 2, 1) := by decide +kernel
theorem dX2_dropOldest_10 : decode cX2_dropOldest 10 = .ok (.iconst 4, 1) := by decide +kernel
theorem dX2_dropOldest_11 : decode cX2_dropOldest 11 = .ok (.if_icmp .ge 23, 3) := by decide +kernel
theorem dX2_dropOldest_14 : decode cX2_dropOldest 14 = .ok (.aload_n 0, 1) := by decide +kernel
theorem dX2_dropOldest_15 : decode cX2_dropOldest 15 = .ok (.getfield 22, 3) := by decide +kernel
theorem dX2_dropOldest_18 : decode cX2_dropOldest 18 = .ok (.iload_n 2, 1) := by decide +kernel
theorem dX2_dropOldest_19 : decode cX2_dropOldest 19 = .ok (.iconst 1, 1) := by decide +kernel
theorem dX2_dropOldest_20 : decode cX2_dropOldest 20 = .ok (.isub, 1) := by decide +kernel
theorem dX2_dropOldest_21 : decode cX2_dropOldest 21 = .ok (.aload_n 0, 1) := by decide +kernel
theorem dX2_dropOldest_22 : decode cX2_dropOldest 22 = .ok (.getfield 22, 3) := by decide +kernel
theorem dX2_dropOldest_25 : decode cX2_dropOldest 25 = .ok (.iload_n 2, 1) := by decide +kernel
theorem dX2_dropOldest_26 : decode cX2_dropOldest 26 = .ok (.aaload, 1) := by decide +kernel
theorem dX2_dropOldest_27 : decode cX2_dropOldest 27 = .ok (.aastore, 1) := by decide +kernel
theorem dX2_dropOldest_28 : decode cX2_dropOldest 28 = .ok (.iinc 2 1, 3) := by decide +kernel
theorem dX2_dropOldest_31 : decode cX2_dropOldest 31 = .ok (.goto (-22), 3) := by decide +kernel
theorem dX2_dropOldest_34 : decode cX2_dropOldest 34 = .ok (.aload_n 0, 1) := by decide +kernel
theorem dX2_dropOldest_35 : decode cX2_dropOldest 35 = .ok (.getfield 22, 3) := by decide +kernel
theorem dX2_dropOldest_38 : decode cX2_dropOldest 38 = .ok (.iconst 3, 1) := by decide +kernel
theorem dX2_dropOldest_39 : decode cX2_dropOldest 39 = .ok (.aload_n 1, 1) := by decide +kernel
theorem dX2_dropOldest_40 : decode cX2_dropOldest 40 = .ok (.aastore, 1) := by decide +kernel
theorem dX2_dropOldest_41 : decode cX2_dropOldest 41 = .ok (.aload_n 0, 1) := by decide +kernel
theorem dX2_dropOldest_42 : decode cX2_dropOldest 42 = .ok (.iconst 3, 1) := by decide +kernel
theorem dX2_dropOldest_43 : decode cX2_dropOldest 43 = .ok (.putfield 117, 3) := by decide +kernel
theorem dX2_dropOldest_46 : decode cX2_dropOldest 46 = .ok (.return_, 1) := by decide +kernel
theorem dX2_isSafe_0 : decode cX2_isSafe 0 = .ok (.aload_n 0, 1) := by decide +kernel
theorem dX2_isSafe_1 : decode cX2_isSafe 1 = .ok (.getfield 19, 3) := by decide +kernel
theorem dX2_isSafe_4 : decode cX2_isSafe 4 = .ok (.aload_n 0, 1) := by decide +kernel
theorem dX2_isSafe_5 : decode cX2_isSafe 5 = .ok (.getfield 12, 3) := by decide +kernel
theorem dX2_isSafe_8 : decode cX2_isSafe 8 = .ok (.invokevirtual 33, 3) := by decide +kernel
theorem dX2_isSafe_11 : decode cX2_isSafe 11 = .ok (.aload_n 0, 1) := by decide +kernel
theorem dX2_isSafe_12 : decode cX2_isSafe 12 = .ok (.getfield 19, 3) := by decide +kernel
theorem dX2_isSafe_15 : decode cX2_isSafe 15 = .ok (.iconst 2, 1) := by decide +kernel
theorem dX2_isSafe_16 : decode cX2_isSafe 16 = .ok (.iload_n 1, 1) := by decide +kernel
theorem dX2_isSafe_17 : decode cX2_isSafe 17 = .ok (.invokevirtual 67, 3) := by decide +kernel
theorem dX2_isSafe_20 : decode cX2_isSafe 20 = .ok (.pop, 1) := by decide +kernel
theorem dX2_isSafe_21 : decode cX2_isSafe 21 = .ok (.iconst 0, 1) := by decide +kernel
theorem dX2_isSafe_22 : decode cX2_isSafe 22 = .ok (.istore_n 2, 1) := by decide +kernel
theorem dX2_isSafe_23 : decode cX2_isSafe 23 = .ok (.iload_n 2, 1) := by decide +kernel
theorem dX2_isSafe_24 : decode cX2_isSafe 24 = .ok (.bipush 60, 2) := by decide +kernel
theorem dX2_isSafe_26 : decode cX2_isSafe 26 = .ok (.if_icmp .ge 24, 3) := by decide +kernel
theorem dX2_isSafe_29 : decode cX2_isSafe 29 = .ok (.aload_n 0, 1) := by decide +kernel
theorem dX2_isSafe_30 : decode cX2_isSafe 30 = .ok (.getfield 19, 3) := by decide +kernel
theorem dX2_isSafe_33 : decode cX2_isSafe 33 = .ok (.iconst 1, 1) := by decide +kernel
theorem dX2_isSafe_34 : decode cX2_isSafe 34 = .ok (.ldc 90, 2) := by decide +kernel
theorem dX2_isSafe_36 : decode cX2_isSafe 36 = .ok (.invokevirtual 64, 3) := by decide +kernel
theorem dX2_isSafe_39 : decode cX2_isSafe 39 = .ok (.ifCond .le 5, 3) := by decide +kernel
theorem dX2_isSafe_42 : decode cX2_isSafe 42 = .ok (.iconst 0, 1) := by decide +kernel
theorem dX2_isSafe_43 : decode cX2_isSafe 43 = .ok (.ireturn, 1) := by decide +kernel
theorem dX2_isSafe_44 : decode cX2_isSafe 44 = .ok (.iinc 2 1, 3) := by decide +kernel
theorem dX2_isSafe_47 : decode cX2_isSafe 47 = .ok (.goto (-24), 3) := by decide +kernel
theorem dX2_isSafe_50 : decode cX2_isSafe 50 = .ok (.iconst 1, 1) := by decide +kernel
theorem dX2_isSafe_51 : decode cX2_isSafe 51 = .ok (.ireturn, 1) := by decide +kernel
theorem dX2_findFault_0 : decode cX2_findFault 0 = .ok (.aload_n 0, 1) := by decide +kernel
theorem dX2_findFault_1 : decode cX2_findFault 1 = .ok (.getfield 19, 3) := by decide +kernel
theorem dX2_findFault_4 : decode cX2_findFault 4 = .ok (.aload_n 0, 1) := by decide +kernel
theorem dX2_findFault_5 : decode cX2_findFault 5 = .ok (.getfield 12, 3) := by decide +kernel
theorem dX2_findFault_8 : decode cX2_findFault 8 = .ok (.invokevirtual 33, 3) := by decide +kernel
theorem dX2_findFault_11 : decode cX2_findFault 11 = .ok (.aload_n 0, 1) := by decide +kernel
theorem dX2_findFault_12 : decode cX2_findFault 12 = .ok (.iconst 0, 1) := by decide +kernel
theorem dX2_findFault_13 : decode cX2_findFault 13 = .ok (.putfield 147, 3) := by decide +kernel
theorem dX2_findFault_16 : decode cX2_findFault 16 = .ok (.iconst 0, 1) := by decide +kernel
theorem dX2_findFault_17 : decode cX2_findFault 17 = .ok (.istore_n 1, 1) := by decide +kernel
theorem dX2_findFault_18 : decode cX2_findFault 18 = .ok (.aload_n 0, 1) := by decide +kernel
theorem dX2_findFault_19 : decode cX2_findFault 19 = .ok (.getfield 147, 3) := by decide +kernel
theorem dX2_findFault_22 : decode cX2_findFault 22 = .ok (.bipush 60, 2) := by decide +kernel
theorem dX2_findFault_24 : decode cX2_findFault 24 = .ok (.if_icmp .ge 86, 3) := by decide +kernel
theorem dX2_findFault_27 : decode cX2_findFault 27 = .ok (.iload_n 1, 1) := by decide +kernel
theorem dX2_findFault_28 : decode cX2_findFault 28 = .ok (.aload_n 0, 1) := by decide +kernel
theorem dX2_findFault_29 : decode cX2_findFault 29 = .ok (.getfield 29, 3) := by decide +kernel
theorem dX2_findFault_32 : decode cX2_findFault 32 = .ok (.invokevirtual 121, 3) := by decide +kernel
theorem dX2_findFault_35 : decode cX2_findFault 35 = .ok (.if_icmp .ge 75, 3) := by decide +kernel
theorem dX2_findFault_38 : decode cX2_findFault 38 = .ok (.aload_n 0, 1) := by decide +kernel
theorem dX2_findFault_39 : decode cX2_findFault 39 = .ok (.getfield 29, 3) := by decide +kernel
theorem dX2_findFault_42 : decode cX2_findFault 42 = .ok (.iload_n 1, 1) := by decide +kernel
theorem dX2_findFault_43 : decode cX2_findFault 43 = .ok (.invokevirtual 153, 3) := by decide +kernel
theorem dX2_findFault_46 : decode cX2_findFault 46 = .ok (.ifCond .ne 19, 3) := by decide +kernel
theorem dX2_findFault_49 : decode cX2_findFault 49 = .ok (.aload_n 0, 1) := by decide +kernel
theorem dX2_findFault_50 : decode cX2_findFault 50 = .ok (.iload_n 1, 1) := by decide +kernel
theorem dX2_findFault_51 : decode cX2_findFault 51 = .ok (.iconst 1, 1) := by decide +kernel
theorem dX2_findFault_52 : decode cX2_findFault 52 = .ok (.aload_n 0, 1) := by decide +kernel
theorem dX2_findFault_53 : decode cX2_findFault 53 = .ok (.getfield 29, 3) := by decide +kernel
theorem dX2_findFault_56 : decode cX2_findFault 56 = .ok (.invokevirtual 156, 3) := by decide +kernel
theorem dX2_findFault_59 : decode cX2_findFault 59 = .ok (.iload_n 1, 1) := by decide +kernel
theorem dX2_findFault_60 : decode cX2_findFault 60 = .ok (.isub, 1) := by decide +kernel
theorem dX2_findFault_61 : decode cX2_findFault 61 = .ok (.invokevirtual 159, 3) := by decide +kernel
theorem dX2_findFault_64 : decode cX2_findFault 64 = .ok (.ireturn, 1) := by decide +kernel
theorem dX2_findFault_65 : decode cX2_findFault 65 = .ok (.aload_n 0, 1) := by decide +kernel
theorem dX2_findFault_66 : decode cX2_findFault 66 = .ok (.getfield 29, 3) := by decide +kernel
theorem dX2_findFault_69 : decode cX2_findFault 69 = .ok (.aload_n 0, 1) := by decide +kernel
theorem dX2_findFault_70 : decode cX2_findFault 70 = .ok (.getfield 19, 3) := by decide +kernel
theorem dX2_findFault_73 : decode cX2_findFault 73 = .ok (.invokevirtual 162, 3) := by decide +kernel
theorem dX2_findFault_76 : decode cX2_findFault 76 = .ok (.istore_n 2, 1) := by decide +kernel
theorem dX2_findFault_77 : decode cX2_findFault 77 = .ok (.iload_n 2, 1) := by decide +kernel
theorem dX2_findFault_78 : decode cX2_findFault 78 = .ok (.ifCond .ge 11, 3) := by decide +kernel
theorem dX2_findFault_81 : decode cX2_findFault 81 = .ok (.aload_n 0, 1) := by decide +kernel
theorem dX2_findFault_82 : decode cX2_findFault 82 = .ok (.iload_n 1, 1) := by decide +kernel
theorem dX2_findFault_83 : decode cX2_findFault 83 = .ok (.iconst 2, 1) := by decide +kernel
theorem dX2_findFault_84 : decode cX2_findFault 84 = .ok (.iload_n 2, 1) := by decide +kernel
theorem dX2_findFault_85 : decode cX2_findFault 85 = .ok (.invokevirtual 159, 3) := by decide +kernel
theorem dX2_findFault_88 : decode cX2_findFault 88 = .ok (.ireturn, 1) := by decide +kernel
theorem dX2_findFault_89 : decode cX2_findFault 89 = .ok (.aload_n 0, 1) := by decide +kernel
theorem dX2_findFault_90 : decode cX2_findFault 90 = .ok (.dup, 1) := by decide +kernel
theorem dX2_findFault_91 : decode cX2_findFault 91 = .ok (.getfield 147, 3) := by decide +kernel
theorem dX2_findFault_94 : decode cX2_findFault 94 = .ok (.iconst 1, 1) := by decide +kernel
theorem dX2_findFault_95 : decode cX2_findFault 95 = .ok (.iadd, 1) := by decide +kernel
theorem dX2_findFault_96 : decode cX2_findFault 96 = .ok (.putfield 147, 3) := by decide +kernel
theorem dX2_findFault_99 : decode cX2_findFault 99 = .ok (.aload_n 0, 1) := by decide +kernel
theorem dX2_findFault_100 : decode cX2_findFault 100 = .ok (.getfield 29, 3) := by decide +kernel
theorem dX2_findFault_103 : decode cX2_findFault 103 = .ok (.invokevirtual 156, 3) := by decide +kernel
theorem dX2_findFault_106 : decode cX2_findFault 106 = .ok (.istore_n 1, 1) := by decide +kernel
theorem dX2_findFault_107 : decode cX2_findFault 107 = .ok (.goto (-89), 3) := by decide +kernel
theorem dX2_findFault_110 : decode cX2_findFault 110 = .ok (.iconst 0, 1) := by decide +kernel
theorem dX2_findFault_111 : decode cX2_findFault 111 = .ok (.ireturn, 1) := by decide +kernel
theorem dX2_noteFault_0 : decode cX2_noteFault 0 = .ok (.aload_n 0, 1) := by decide +kernel
theorem dX2_noteFault_1 : decode cX2_noteFault 1 = .ok (.iload_n 1, 1) := by decide +kernel
theorem dX2_noteFault_2 : decode cX2_noteFault 2 = .ok (.putfield 138, 3) := by decide +kernel
theorem dX2_noteFault_5 : decode cX2_noteFault 5 = .ok (.aload_n 0, 1) := by decide +kernel
theorem dX2_noteFault_6 : decode cX2_noteFault 6 = .ok (.iload_n 2, 1) := by decide +kernel
theorem dX2_noteFault_7 : decode cX2_noteFault 7 = .ok (.putfield 141, 3) := by decide +kernel
theorem dX2_noteFault_10 : decode cX2_noteFault 10 = .ok (.aload_n 0, 1) := by decide +kernel
theorem dX2_noteFault_11 : decode cX2_noteFault 11 = .ok (.iload_n 3, 1) := by decide +kernel
theorem dX2_noteFault_12 : decode cX2_noteFault 12 = .ok (.putfield 144, 3) := by decide +kernel
theorem dX2_noteFault_15 : decode cX2_noteFault 15 = .ok (.iconst 1, 1) := by decide +kernel
theorem dX2_noteFault_16 : decode cX2_noteFault 16 = .ok (.ireturn, 1) := by decide +kernel
theorem dX2_isOutside_0 : decode cX2_isOutside 0 = .ok (.iload_n 0, 1) := by decide +kernel
theorem dX2_isOutside_1 : decode cX2_isOutside 1 = .ok (.iload_n 1, 1) := by decide +kernel
theorem dX2_isOutside_2 : decode cX2_isOutside 2 = .ok (.if_icmp .lt 8, 3) := by decide +kernel
theorem dX2_isOutside_5 : decode cX2_isOutside 5 = .ok (.iload_n 0, 1) := by decide +kernel
theorem dX2_isOutside_6 : decode cX2_isOutside 6 = .ok (.iload_n 2, 1) := by decide +kernel
theorem dX2_isOutside_7 : decode cX2_isOutside 7 = .ok (.if_icmp .le 7, 3) := by decide +kernel
theorem dX2_isOutside_10 : decode cX2_isOutside 10 = .ok (.iconst 1, 1) := by decide +kernel
theorem dX2_isOutside_11 : decode cX2_isOutside 11 = .ok (.goto 4, 3) := by decide +kernel
theorem dX2_isOutside_14 : decode cX2_isOutside 14 = .ok (.iconst 0, 1) := by decide +kernel
theorem dX2_isOutside_15 : decode cX2_isOutside 15 = .ok (.ireturn, 1) := by decide +kernel
theorem dX2_bitsOf_0 : decode cX2_bitsOf 0 = .ok (.fload_n 0, 1) := by decide +kernel
theorem dX2_bitsOf_1 : decode cX2_bitsOf 1 = .ok (.fconst 0, 1) := by decide +kernel
theorem dX2_bitsOf_2 : decode cX2_bitsOf 2 = .ok (.fcmp .g, 1) := by decide +kernel
theorem dX2_bitsOf_3 : decode cX2_bitsOf 3 = .ok (.ifCond .gt 5, 3) := by decide +kernel
theorem dX2_bitsOf_6 : decode cX2_bitsOf 6 = .ok (.iconst 0, 1) := by decide +kernel
theorem dX2_bitsOf_7 : decode cX2_bitsOf 7 = .ok (.ireturn, 1) := by decide +kernel
theorem dX2_bitsOf_8 : decode cX2_bitsOf 8 = .ok (.fload_n 0, 1) := by decide +kernel
theorem dX2_bitsOf_9 : decode cX2_bitsOf 9 = .ok (.fstore_n 1, 1) := by decide +kernel
theorem dX2_bitsOf_10 : decode cX2_bitsOf 10 = .ok (.bipush 127, 2) := by decide +kernel
theorem dX2_bitsOf_12 : decode cX2_bitsOf 12 = .ok (.istore_n 2, 1) := by decide +kernel
theorem dX2_bitsOf_13 : decode cX2_bitsOf 13 = .ok (.fload_n 1, 1) := by decide +kernel
theorem dX2_bitsOf_14 : decode cX2_bitsOf 14 = .ok (.fconst 2, 1) := by decide +kernel
theorem dX2_bitsOf_15 : decode cX2_bitsOf 15 = .ok (.fcmp .l, 1) := by decide +kernel
theorem dX2_bitsOf_16 : decode cX2_bitsOf 16 = .ok (.ifCond .lt 20, 3) := by decide +kernel
theorem dX2_bitsOf_19 : decode cX2_bitsOf 19 = .ok (.iload_n 2, 1) := by decide +kernel
theorem dX2_bitsOf_20 : decode cX2_bitsOf 20 = .ok (.sipush 254, 3) := by decide +kernel
theorem dX2_bitsOf_23 : decode cX2_bitsOf 23 = .ok (.if_icmp .ge 13, 3) := by decide +kernel
theorem dX2_bitsOf_26 : decode cX2_bitsOf 26 = .ok (.fload_n 1, 1) := by decide +kernel
theorem dX2_bitsOf_27 : decode cX2_bitsOf 27 = .ok (.fconst 2, 1) := by decide +kernel
theorem dX2_bitsOf_28 : decode cX2_bitsOf 28 = .ok (.fdiv, 1) := by decide +kernel
theorem dX2_bitsOf_29 : decode cX2_bitsOf 29 = .ok (.fstore_n 1, 1) := by decide +kernel
theorem dX2_bitsOf_30 : decode cX2_bitsOf 30 = .ok (.iinc 2 1, 3) := by decide +kernel
theorem dX2_bitsOf_33 : decode cX2_bitsOf 33 = .ok (.goto (-20), 3) := by decide +kernel
theorem dX2_bitsOf_36 : decode cX2_bitsOf 36 = .ok (.fload_n 1, 1) := by decide +kernel
theorem dX2_bitsOf_37 : decode cX2_bitsOf 37 = .ok (.fconst 1, 1) := by decide +kernel
theorem dX2_bitsOf_38 : decode cX2_bitsOf 38 = .ok (.fcmp .g, 1) := by decide +kernel
theorem dX2_bitsOf_39 : decode cX2_bitsOf 39 = .ok (.ifCond .ge 18, 3) := by decide +kernel
theorem dX2_bitsOf_42 : decode cX2_bitsOf 42 = .ok (.iload_n 2, 1) := by decide +kernel
theorem dX2_bitsOf_43 : decode cX2_bitsOf 43 = .ok (.iconst 1, 1) := by decide +kernel
theorem dX2_bitsOf_44 : decode cX2_bitsOf 44 = .ok (.if_icmp .le 13, 3) := by decide +kernel
theorem dX2_bitsOf_47 : decode cX2_bitsOf 47 = .ok (.fload_n 1, 1) := by decide +kernel
theorem dX2_bitsOf_48 : decode cX2_bitsOf 48 = .ok (.fconst 2, 1) := by decide +kernel
theorem dX2_bitsOf_49 : decode cX2_bitsOf 49 = .ok (.fmul, 1) := by decide +kernel
theorem dX2_bitsOf_50 : decode cX2_bitsOf 50 = .ok (.fstore_n 1, 1) := by decide +kernel
theorem dX2_bitsOf_51 : decode cX2_bitsOf 51 = .ok (.iinc 2 (-1), 3) := by decide +kernel
theorem dX2_bitsOf_54 : decode cX2_bitsOf 54 = .ok (.goto (-18), 3) := by decide +kernel
theorem dX2_bitsOf_57 : decode cX2_bitsOf 57 = .ok (.fload_n 1, 1) := by decide +kernel
theorem dX2_bitsOf_58 : decode cX2_bitsOf 58 = .ok (.fconst 1, 1) := by decide +kernel
theorem dX2_bitsOf_59 : decode cX2_bitsOf 59 = .ok (.fsub, 1) := by decide +kernel
theorem dX2_bitsOf_60 : decode cX2_bitsOf 60 = .ok (.ldc 166, 2) := by decide +kernel
theorem dX2_bitsOf_62 : decode cX2_bitsOf 62 = .ok (.fmul, 1) := by decide +kernel
theorem dX2_bitsOf_63 : decode cX2_bitsOf 63 = .ok (.f2i, 1) := by decide +kernel
theorem dX2_bitsOf_64 : decode cX2_bitsOf 64 = .ok (.istore_n 3, 1) := by decide +kernel
theorem dX2_bitsOf_65 : decode cX2_bitsOf 65 = .ok (.iload_n 2, 1) := by decide +kernel
theorem dX2_bitsOf_66 : decode cX2_bitsOf 66 = .ok (.bipush 23, 2) := by decide +kernel
theorem dX2_bitsOf_68 : decode cX2_bitsOf 68 = .ok (.ishl, 1) := by decide +kernel
theorem dX2_bitsOf_69 : decode cX2_bitsOf 69 = .ok (.iload_n 3, 1) := by decide +kernel
theorem dX2_bitsOf_70 : decode cX2_bitsOf 70 = .ok (.ior, 1) := by decide +kernel
theorem dX2_bitsOf_71 : decode cX2_bitsOf 71 = .ok (.ireturn, 1) := by decide +kernel
theorem dX3_init_0 : decode cX3_init 0 = .ok (.aload_n 0, 1) := by decide +kernel
theorem dX3_init_1 : decode cX3_init 1 = .ok (.invokespecial 1, 3) := by decide +kernel
theorem dX3_init_4 : decode cX3_init 4 = .ok (.aload_n 0, 1) := by decide +kernel
theorem dX3_init_5 : decode cX3_init 5 = .ok (.sipush 269, 3) := by decide +kernel
theorem dX3_init_8 : decode cX3_init 8 = .ok (.newarray .int, 2) := by decide +kernel
theorem dX3_init_10 : decode cX3_init 10 = .ok (.putfield 7, 3) := by decide +kernel
theorem dX3_init_13 : decode cX3_init 13 = .ok (.aload_n 0, 1) := by decide +kernel
theorem dX3_init_14 : decode cX3_init 14 = .ok (.sipush 269, 3) := by decide +kernel
theorem dX3_init_17 : decode cX3_init 17 = .ok (.newarray .int, 2) := by decide +kernel
theorem dX3_init_19 : decode cX3_init 19 = .ok (.putfield 13, 3) := by decide +kernel
theorem dX3_init_22 : decode cX3_init 22 = .ok (.aload_n 0, 1) := by decide +kernel
theorem dX3_init_23 : decode cX3_init 23 = .ok (.sipush 269, 3) := by decide +kernel
theorem dX3_init_26 : decode cX3_init 26 = .ok (.newarray .int, 2) := by decide +kernel
theorem dX3_init_28 : decode cX3_init 28 = .ok (.putfield 16, 3) := by decide +kernel
theorem dX3_init_31 : decode cX3_init 31 = .ok (.aload_n 0, 1) := by decide +kernel
theorem dX3_init_32 : decode cX3_init 32 = .ok (.sipush 1076, 3) := by decide +kernel
theorem dX3_init_35 : decode cX3_init 35 = .ok (.newarray .int, 2) := by decide +kernel
theorem dX3_init_37 : decode cX3_init 37 = .ok (.putfield 19, 3) := by decide +kernel
theorem dX3_init_40 : decode cX3_init 40 = .ok (.aload_n 0, 1) := by decide +kernel
theorem dX3_init_41 : decode cX3_init 41 = .ok (.bipush 60, 2) := by decide +kernel
theorem dX3_init_43 : decode cX3_init 43 = .ok (.newarray .int, 2) := by decide +kernel
theorem dX3_init_45 : decode cX3_init 45 = .ok (.putfield 22, 3) := by decide +kernel
theorem dX3_init_48 : decode cX3_init 48 = .ok (.aload_n 0, 1) := by decide +kernel
theorem dX3_init_49 : decode cX3_init 49 = .ok (.iconst 3, 1) := by decide +kernel
theorem dX3_init_50 : decode cX3_init 50 = .ok (.newarray .int, 2) := by decide +kernel
theorem dX3_init_52 : decode cX3_init 52 = .ok (.putfield 25, 3) := by decide +kernel
theorem dX3_init_55 : decode cX3_init 55 = .ok (.aload_n 0, 1) := by decide +kernel
theorem dX3_init_56 : decode cX3_init 56 = .ok (.getfield 7, 3) := by decide +kernel
theorem dX3_init_59 : decode cX3_init 59 = .ok (.iconst 1, 1) := by decide +kernel
theorem dX3_init_60 : decode cX3_init 60 = .ok (.sipush 500, 3) := by decide +kernel
theorem dX3_init_63 : decode cX3_init 63 = .ok (.iastore, 1) := by decide +kernel
theorem dX3_init_64 : decode cX3_init 64 = .ok (.aload_n 0, 1) := by decide +kernel
theorem dX3_init_65 : decode cX3_init 65 = .ok (.getfield 7, 3) := by decide +kernel
theorem dX3_init_68 : decode cX3_init 68 = .ok (.iconst 2, 1) := by decide +kernel
theorem dX3_init_69 : decode cX3_init 69 = .ok (.bipush 40, 2) := by decide +kernel
theorem dX3_init_71 : decode cX3_init 71 = .ok (.iastore, 1) := by decide +kernel
theorem dX3_init_72 : decode cX3_init 72 = .ok (.iconst 0, 1) := by decide +kernel
theorem dX3_init_73 : decode cX3_init 73 = .ok (.istore_n 1, 1) := by decide +kernel
theorem dX3_init_74 : decode cX3_init 74 = .ok (.iload_n 1, 1) := by decide +kernel
theorem dX3_init_75 : decode cX3_init 75 = .ok (.bipush 6, 2) := by decide +kernel
theorem dX3_init_77 : decode cX3_init 77 = .ok (.if_icmp .ge 44, 3) := by decide +kernel
theorem dX3_init_80 : decode cX3_init 80 = .ok (.aload_n 0, 1) := by decide +kernel
theorem dX3_init_81 : decode cX3_init 81 = .ok (.iload_n 1, 1) := by decide +kernel
theorem dX3_init_82 : decode cX3_init 82 = .ok (.iconst 0, 1) := by decide +kernel
theorem dX3_init_83 : decode cX3_init 83 = .ok (.bipush 20, 2) := by decide +kernel
theorem dX3_init_85 : decode cX3_init 85 = .ok (.invokevirtual 28, 3) := by decide +kernel
theorem dX3_init_88 : decode cX3_init 88 = .ok (.aload_n 0, 1) := by decide +kernel
theorem dX3_init_89 : decode cX3_init 89 = .ok (.iload_n 1, 1) := by decide +kernel
theorem dX3_init_90 : decode cX3_init 90 = .ok (.invokevirtual 32, 3) := by decide +kernel
theorem dX3_init_93 : decode cX3_init 93 = .ok (.iconst 0, 1) := by decide +kernel
theorem dX3_init_94 : decode cX3_init 94 = .ok (.istore_n 2, 1) := by decide +kernel
theorem dX3_init_95 : decode cX3_init 95 = .ok (.iload_n 2, 1) := by decide +kernel
theorem dX3_init_96 : decode cX3_init 96 = .ok (.bipush 8, 2) := by decide +kernel
theorem dX3_init_98 : decode cX3_init 98 = .ok (.if_icmp .ge 17, 3) := by decide +kernel
theorem dX3_init_101 : decode cX3_init 101 = .ok (.aload_n 0, 1) := by decide +kernel
theorem dX3_init_102 : decode cX3_init 102 = .ok (.iload_n 1, 1) := by decide +kernel
theorem dX3_init_103 : decode cX3_init 103 = .ok (.iload_n 2, 1) := by decide +kernel
theorem dX3_init_104 : decode cX3_init 104 = .ok (.iconst 0, 1) := by decide +kernel
theorem dX3_init_105 : decode cX3_init 105 = .ok (.invokevirtual 36, 3) := by decide +kernel
theorem dX3_init_108 : decode cX3_init 108 = .ok (.pop, 1) := by decide +kernel
theorem dX3_init_109 : decode cX3_init 109 = .ok (.iinc 2 1, 3) := by decide +kernel
theorem dX3_init_112 : decode cX3_init 112 = .ok (.goto (-17), 3) := by decide +kernel
theorem dX3_init_115 : decode cX3_init 115 = .ok (.iinc 1 1, 3) := by decide +kernel
theorem dX3_init_118 : decode cX3_init 118 = .ok (.goto (-44), 3) := by decide +kernel
theorem dX3_init_121 : decode cX3_init 121 = .ok (.aload_n 0, 1) := by decide +kernel
theorem dX3_init_122 : decode cX3_init 122 = .ok (.getfield 7, 3) := by decide +kernel
theorem dX3_init_125 : decode cX3_init 125 = .ok (.iconst 5, 1) := by decide +kernel
theorem dX3_init_126 : decode cX3_init 126 = .ok (.iconst 0, 1) := by decide +kernel
theorem dX3_init_127 : decode cX3_init 127 = .ok (.iastore, 1) := by decide +kernel
theorem dX3_init_128 : decode cX3_init 128 = .ok (.return_, 1) := by decide +kernel
theorem dX3_in_0 : decode cX3_in 0 = .ok (.iload_n 0, 1) := by decide +kernel
theorem dX3_in_1 : decode cX3_in 1 = .ok (.iload_n 1, 1) := by decide +kernel
theorem dX3_in_2 : decode cX3_in 2 = .ok (.if_icmp .lt 12, 3) := by decide +kernel
theorem dX3_in_5 : decode cX3_in 5 = .ok (.iload_n 0, 1) := by decide +kernel
theorem dX3_in_6 : decode cX3_in 6 = .ok (.iload_n 2, 1) := by decide +kernel
theorem dX3_in_7 : decode cX3_in 7 = .ok (.if_icmp .gt 7, 3) := by decide +kernel
theorem dX3_in_10 : decode cX3_in 10 = .ok (.iconst 1, 1) := by decide +kernel
theorem dX3_in_11 : decode cX3_in 11 = .ok (.goto 4, 3) := by decide +kernel
theorem dX3_in_14 : decode cX3_in 14 = .ok (.iconst 0, 1) := by decide +kernel
theorem dX3_in_15 : decode cX3_in 15 = .ok (.ireturn, 1) := by decide +kernel
theorem dX3_copies_0 : decode cX3_copies 0 = .ok (.iconst 0, 1) := by decide +kernel
theorem dX3_copies_1 : decode cX3_copies 1 = .ok (.istore 4, 2) := by decide +kernel
theorem dX3_copies_3 : decode cX3_copies 3 = .ok (.iload 4, 2) := by decide +kernel
theorem dX3_copies_5 : decode cX3_copies 5 = .ok (.sipush 269, 3) := by decide +kernel
theorem dX3_copies_8 : decode cX3_copies 8 = .ok (.if_icmp .ge 21, 3) := by decide +kernel
theorem dX3_copies_11 : decode cX3_copies 11 = .ok (.aload_n 2, 1) := by decide +kernel
theorem dX3_copies_12 : decode cX3_copies 12 = .ok (.iload_n 3, 1) := by decide +kernel
theorem dX3_copies_13 : decode cX3_copies 13 = .ok (.iload 4, 2) := by decide +kernel
theorem dX3_copies_15 : decode cX3_copies 15 = .ok (.iadd, 1) := by decide +kernel
theorem dX3_copies_16 : decode cX3_copies 16 = .ok (.aload_n 0, 1) := by decide +kernel
theorem dX3_copies_17 : decode cX3_copies 17 = .ok (.iload_n 1, 1) := by decide +kernel
theorem dX3_copies_18 : decode cX3_copies 18 = .ok (.iload 4, 2) := by decide +kernel
theorem dX3_copies_20 : decode cX3_copies 20 = .ok (.iadd, 1) := by decide +kernel
theorem dX3_copies_21 : decode cX3_copies 21 = .ok (.iaload, 1) := by decide +kernel
theorem dX3_copies_22 : decode cX3_copies 22 = .ok (.iastore, 1) := by decide +kernel
theorem dX3_copies_23 : decode cX3_copies 23 = .ok (.iinc 4 1, 3) := by decide +kernel
theorem dX3_copies_26 : decode cX3_copies 26 = .ok (.goto (-23), 3) := by decide +kernel
theorem dX3_copies_29 : decode cX3_copies 29 = .ok (.return_, 1) := by decide +kernel
theorem dX3_records_0 : decode cX3_records 0 = .ok (.aload_n 0, 1) := by decide +kernel
theorem dX3_records_1 : decode cX3_records 1 = .ok (.getfield 40, 3) := by decide +kernel
theorem dX3_records_4 : decode cX3_records 4 = .ok (.iconst 4, 1) := by decide +kernel
theorem dX3_records_5 : decode cX3_records 5 = .ok (.if_icmp .ne 44, 3) := by decide +kernel
theorem dX3_records_8 : decode cX3_records 8 = .ok (.iconst 0, 1) := by decide +kernel
theorem dX3_records_9 : decode cX3_records 9 = .ok (.istore_n 1, 1) := by decide +kernel
theorem dX3_records_10 : decode cX3_records 10 = .ok (.iload_n 1, 1) := by decide +kernel
theorem dX3_records_11 : decode cX3_records 11 = .ok (.sipush 807, 3) := by decide +kernel
theorem dX3_records_14 : decode cX3_records 14 = .ok (.if_icmp .ge 25, 3) := by decide +kernel
theorem dX3_records_17 : decode cX3_records 17 = .ok (.aload_n 0, 1) := by decide +kernel
theorem dX3_records_18 : decode cX3_records 18 = .ok (.getfield 19, 3) := by decide +kernel
theorem dX3_records_21 : decode cX3_records 21 = .ok (.iload_n 1, 1) := by decide +kernel
theorem dX3_records_22 : decode cX3_records 22 = .ok (.aload_n 0, 1) := by decide +kernel
theorem dX3_records_23 : decode cX3_records 23 = .ok (.getfield 19, 3) := by decide +kernel
theorem dX3_records_26 : decode cX3_records 26 = .ok (.iload_n 1, 1) := by decide +kernel
theorem dX3_records_27 : decode cX3_records 27 = .ok (.sipush 269, 3) := by decide +kernel
theorem dX3_records_30 : decode cX3_records 30 = .ok (.iadd, 1) := by decide +kernel
theorem dX3_records_31 : decode cX3_records 31 = .ok (.iaload, 1) := by decide +kernel
theorem dX3_records_32 : decode cX3_records 32 = .ok (.iastore, 1) := by decide +kernel
theorem dX3_records_33 : decode cX3_records 33 = .ok (.iinc 1 1, 3) := by decide +kernel
theorem dX3_records_36 : decode cX3_records 36 = .ok (.goto (-26), 3) := by decide +kernel
theorem dX3_records_39 : decode cX3_records 39 = .ok (.aload_n 0, 1) := by decide +kernel
theorem dX3_records_40 : decode cX3_records 40 = .ok (.dup, 1) := by decide +kernel
theorem dX3_records_41 : decode cX3_records 41 = .ok (.getfield 40, 3) := by decide +kernel
theorem dX3_records_44 : decode cX3_records 44 = .ok (.iconst 1, 1) := by decide +kernel
theorem dX3_records_45 : decode cX3_records 45 = .ok (.isub, 1) := by decide +kernel
theorem dX3_records_46 : decode cX3_records 46 = .ok (.putfield 40, 3) := by decide +kernel
theorem dX3_records_49 : decode cX3_records 49 = .ok (.aload_n 0, 1) := by decide +kernel
theorem dX3_records_50 : decode cX3_records 50 = .ok (.getfield 7, 3) := by decide +kernel
theorem dX3_records_53 : decode cX3_records 53 = .ok (.iconst 0, 1) := by decide +kernel
theorem dX3_records_54 : decode cX3_records 54 = .ok (.aload_n 0, 1) := by decide +kernel
theorem dX3_records_55 : decode cX3_records 55 = .ok (.getfield 19, 3) := by decide +kernel
theorem dX3_records_58 : decode cX3_records 58 = .ok (.sipush 269, 3) := by decide +kernel
theorem dX3_records_61 : decode cX3_records 61 = .ok (.aload_n 0, 1) := by decide +kernel
theorem dX3_records_62 : decode cX3_records 62 = .ok (.getfield 40, 3) := by decide +kernel
theorem dX3_records_65 : decode cX3_records 65 = .ok (.imul, 1) := by decide +kernel
theorem dX3_records_66 : decode cX3_records 66 = .ok (.invokestatic 44, 3) := by decide +kernel
theorem dX3_records_69 : decode cX3_records 69 = .ok (.aload_n 0, 1) := by decide +kernel
theorem dX3_records_70 : decode cX3_records 70 = .ok (.dup, 1) := by decide +kernel
theorem dX3_records_71 : decode cX3_records 71 = .ok (.getfield 40, 3) := by decide +kernel
theorem dX3_records_74 : decode cX3_records 74 = .ok (.iconst 1, 1) := by decide +kernel
theorem dX3_records_75 : decode cX3_records 75 = .ok (.iadd, 1) := by decide +kernel
theorem dX3_records_76 : decode cX3_records 76 = .ok (.putfield 40, 3) := by decide +kernel
theorem dX3_records_79 : decode cX3_records 79 = .ok (.return_, 1) := by decide +kernel
theorem dX3_isRow_0 : decode cX3_isRow 0 = .ok (.iload_n 0, 1) := by decide +kernel
theorem dX3_isRow_1 : decode cX3_isRow 1 = .ok (.iconst 0, 1) := by decide +kernel
theorem dX3_isRow_2 : decode cX3_isRow 2 = .ok (.iconst 5, 1) := by decide +kernel
theorem dX3_isRow_3 : decode cX3_isRow 3 = .ok (.invokestatic 48, 3) := by decide +kernel
theorem dX3_isRow_6 : decode cX3_isRow 6 = .ok (.ireturn, 1) := by decide +kernel
theorem dX3_isCell_0 : decode cX3_isCell 0 = .ok (.iload_n 0, 1) := by decide +kernel
theorem dX3_isCell_1 : decode cX3_isCell 1 = .ok (.iconst 0, 1) := by decide +kernel
theorem dX3_isCell_2 : decode cX3_isCell 2 = .ok (.bipush 7, 2) := by decide +kernel
theorem dX3_isCell_4 : decode cX3_isCell 4 = .ok (.invokestatic 48, 3) := by decide +kernel
theorem dX3_isCell_7 : decode cX3_isCell 7 = .ok (.ireturn, 1) := by decide +kernel
theorem dX3_isThree_0 : decode cX3_isThree 0 = .ok (.iload_n 0, 1) := by decide +kernel
theorem dX3_isThree_1 : decode cX3_isThree 1 = .ok (.iconst 0, 1) := by decide +kernel
theorem dX3_isThree_2 : decode cX3_isThree 2 = .ok (.iconst 2, 1) := by decide +kernel
theorem dX3_isThree_3 : decode cX3_isThree 3 = .ok (.invokestatic 48, 3) := by decide +kernel
theorem dX3_isThree_6 : decode cX3_isThree 6 = .ok (.ireturn, 1) := by decide +kernel
theorem dX3_of_0 : decode cX3_of 0 = .ok (.aload_n 0, 1) := by decide +kernel
theorem dX3_of_1 : decode cX3_of 1 = .ok (.getfield 7, 3) := by decide +kernel
theorem dX3_of_4 : decode cX3_of 4 = .ok (.bipush 17, 2) := by decide +kernel
theorem dX3_of_6 : decode cX3_of 6 = .ok (.bipush 42, 2) := by decide +kernel
theorem dX3_of_8 : decode cX3_of 8 = .ok (.iload_n 1, 1) := by decide +kernel
theorem dX3_of_9 : decode cX3_of 9 = .ok (.imul, 1) := by decide +kernel
theorem dX3_of_10 : decode cX3_of 10 = .ok (.iadd, 1) := by decide +kernel
theorem dX3_of_11 : decode cX3_of 11 = .ok (.iload_n 2, 1) := by decide +kernel
theorem dX3_of_12 : decode cX3_of 12 = .ok (.iadd, 1) := by decide +kernel
theorem dX3_of_13 : decode cX3_of 13 = .ok (.iaload, 1) := by decide +kernel
theorem dX3_of_14 : decode cX3_of 14 = .ok (.ireturn, 1) := by decide +kernel
theorem dX3_lays_0 : decode cX3_lays 0 = .ok (.aload_n 0, 1) := by decide +kernel
theorem dX3_lays_1 : decode cX3_lays 1 = .ok (.getfield 7, 3) := by decide +kernel
theorem dX3_lays_4 : decode cX3_lays 4 = .ok (.bipush 17, 2) := by decide +kernel
theorem dX3_lays_6 : decode cX3_lays 6 = .ok (.bipush 42, 2) := by decide +kernel
theorem dX3_lays_8 : decode cX3_lays 8 = .ok (.iload_n 1, 1) := by decide +kernel
theorem dX3_lays_9 : decode cX3_lays 9 = .ok (.imul, 1) := by decide +kernel
theorem dX3_lays_10 : decode cX3_lays 10 = .ok (.iadd, 1) := by decide +kernel
theorem dX3_lays_11 : decode cX3_lays 11 = .ok (.iload_n 2, 1) := by decide +kernel
theorem dX3_lays_12 : decode cX3_lays 12 = .ok (.iadd, 1) := by decide +kernel
theorem dX3_lays_13 : decode cX3_lays 13 = .ok (.iload_n 3, 1) := by decide +kernel
theorem dX3_lays_14 : decode cX3_lays 14 = .ok (.iastore, 1) := by decide +kernel
theorem dX3_lays_15 : decode cX3_lays 15 = .ok (.return_, 1) := by decide +kernel
theorem dX3_ofCell_0 : decode cX3_ofCell 0 = .ok (.aload_n 0, 1) := by decide +kernel
theorem dX3_ofCell_1 : decode cX3_ofCell 1 = .ok (.iload_n 1, 1) := by decide +kernel
theorem dX3_ofCell_2 : decode cX3_ofCell 2 = .ok (.bipush 10, 2) := by decide +kernel
theorem dX3_ofCell_4 : decode cX3_ofCell 4 = .ok (.iconst 4, 1) := by decide +kernel
theorem dX3_ofCell_5 : decode cX3_ofCell 5 = .ok (.iload_n 2, 1) := by decide +kernel
theorem dX3_ofCell_6 : decode cX3_ofCell 6 = .ok (.imul, 1) := by decide +kernel
theorem dX3_ofCell_7 : decode cX3_ofCell 7 = .ok (.iadd, 1) := by decide +kernel
theorem dX3_ofCell_8 : decode cX3_ofCell 8 = .ok (.iload_n 3, 1) := by decide +kernel
theorem dX3_ofCell_9 : decode cX3_ofCell 9 = .ok (.iadd, 1) := by decide +kernel
theorem dX3_ofCell_10 : decode cX3_ofCell 10 = .ok (.invokevirtual 52, 3) := by decide +kernel
theorem dX3_ofCell_13 : decode cX3_ofCell 13 = .ok (.ireturn, 1) := by decide +kernel
theorem dX3_laysCell_0 : decode cX3_laysCell 0 = .ok (.aload_n 0, 1) := by decide +kernel
theorem dX3_laysCell_1 : decode cX3_laysCell 1 = .ok (.iload_n 1, 1) := by decide +kernel
theorem dX3_laysCell_2 : decode cX3_laysCell 2 = .ok (.bipush 10, 2) := by decide +kernel
theorem dX3_laysCell_4 : decode cX3_laysCell 4 = .ok (.iconst 4, 1) := by decide +kernel
theorem dX3_laysCell_5 : decode cX3_laysCell 5 = .ok (.iload_n 2, 1) := by decide +kernel
theorem dX3_laysCell_6 : decode cX3_laysCell 6 = .ok (.imul, 1) := by decide +kernel
theorem dX3_laysCell_7 : decode cX3_laysCell 7 = .ok (.iadd, 1) := by decide +kernel
theorem dX3_laysCell_8 : decode cX3_laysCell 8 = .ok (.iload_n 3, 1) := by decide +kernel
theorem dX3_laysCell_9 : decode cX3_laysCell 9 = .ok (.iadd, 1) := by decide +kernel
theorem dX3_laysCell_10 : decode cX3_laysCell 10 = .ok (.iload 4, 2) := by decide +kernel
theorem dX3_laysCell_12 : decode cX3_laysCell 12 = .ok (.invokevirtual 28, 3) := by decide +kernel
theorem dX3_laysCell_15 : decode cX3_laysCell 15 = .ok (.return_, 1) := by decide +kernel
theorem dX3_aim_0 : decode cX3_aim 0 = .ok (.bipush 100, 2) := by decide +kernel
theorem dX3_aim_2 : decode cX3_aim 2 = .ok (.sipush 400, 3) := by decide +kernel
theorem dX3_aim_5 : decode cX3_aim 5 = .ok (.iload_n 0, 1) := by decide +kernel
theorem dX3_aim_6 : decode cX3_aim 6 = .ok (.imul, 1) := by decide +kernel
theorem dX3_aim_7 : decode cX3_aim 7 = .ok (.iadd, 1) := by decide +kernel
theorem dX3_aim_8 : decode cX3_aim 8 = .ok (.ireturn, 1) := by decide +kernel
theorem dX3_size_0 : decode cX3_size 0 = .ok (.iload_n 0, 1) := by decide +kernel
theorem dX3_size_1 : decode cX3_size 1 = .ok (.ifCond .ge 8, 3) := by decide +kernel
theorem dX3_size_4 : decode cX3_size 4 = .ok (.iload_n 0, 1) := by decide +kernel
theorem dX3_size_5 : decode cX3_size 5 = .ok (.ineg, 1) := by decide +kernel
theorem dX3_size_6 : decode cX3_size 6 = .ok (.goto 4, 3) := by decide +kernel
theorem dX3_size_9 : decode cX3_size 9 = .ok (.iload_n 0, 1) := by decide +kernel
theorem dX3_size_10 : decode cX3_size 10 = .ok (.ireturn, 1) := by decide +kernel
theorem dX3_writes_0 : decode cX3_writes 0 = .ok (.aload_n 0, 1) := by decide +kernel
theorem dX3_writes_1 : decode cX3_writes 1 = .ok (.iload_n 1, 1) := by decide +kernel
theorem dX3_writes_2 : decode cX3_writes 2 = .ok (.iload_n 2, 1) := by decide +kernel
theorem dX3_writes_3 : decode cX3_writes 3 = .ok (.iconst 2, 1) := by decide +kernel
theorem dX3_writes_4 : decode cX3_writes 4 = .ok (.invokevirtual 56, 3) := by decide +kernel
theorem dX3_writes_7 : decode cX3_writes 7 = .ok (.istore 4, 2) := by decide +kernel
theorem dX3_writes_9 : decode cX3_writes 9 = .ok (.bipush 37, 2) := by decide +kernel
theorem dX3_writes_11 : decode cX3_writes 11 = .ok (.bipush 8, 2) := by decide +kernel
theorem dX3_writes_13 : decode cX3_writes 13 = .ok (.iload_n 1, 1) := by decide +kernel
theorem dX3_writes_14 : decode cX3_writes 14 = .ok (.imul, 1) := by decide +kernel
theorem dX3_writes_15 : decode cX3_writes 15 = .ok (.iload_n 2, 1) := by decide +kernel
theorem dX3_writes_16 : decode cX3_writes 16 = .ok (.iadd, 1) := by decide +kernel
theorem dX3_writes_17 : decode cX3_writes 17 = .ok (.imul, 1) := by decide +kernel
theorem dX3_writes_18 : decode cX3_writes 18 = .ok (.bipush 11, 2) := by decide +kernel
theorem dX3_writes_20 : decode cX3_writes 20 = .ok (.iload 4, 2) := by decide +kernel
theorem dX3_writes_22 : decode cX3_writes 22 = .ok (.imul, 1) := by decide +kernel
theorem dX3_writes_23 : decode cX3_writes 23 = .ok (.iadd, 1) := by decide +kernel
theorem dX3_writes_24 : decode cX3_writes 24 = .ok (.bipush 21, 2) := by decide +kernel
theorem dX3_writes_26 : decode cX3_writes 26 = .ok (.irem, 1) := by decide +kernel
theorem dX3_writes_27 : decode cX3_writes 27 = .ok (.bipush 10, 2) := by decide +kernel
theorem dX3_writes_29 : decode cX3_writes 29 = .ok (.isub, 1) := by decide +kernel
theorem dX3_writes_30 : decode cX3_writes 30 = .ok (.istore 5, 2) := by decide +kernel
theorem dX3_writes_32 : decode cX3_writes 32 = .ok (.aload_n 0, 1) := by decide +kernel
theorem dX3_writes_33 : decode cX3_writes 33 = .ok (.iload_n 1, 1) := by decide +kernel
end
section
theorem dX3_writes_34 : decode cX3_writes 34 = .ok (.iload_n 2, 1) := by decide +kernel
theorem dX3_writes_35 : decode cX3_writes 35 = .ok (.iconst 0, 1) := by decide +kernel
theorem dX3_writes_36 : decode cX3_writes 36 = .ok (.iload_n 3, 1) := by decide +kernel
theorem dX3_writes_37 : decode cX3_writes 37 = .ok (.invokevirtual 59, 3) := by decide +kernel
theorem dX3_writes_40 : decode cX3_writes 40 = .ok (.aload_n 0, 1) := by decide +kernel
theorem dX3_writes_41 : decode cX3_writes 41 = .ok (.iload_n 1, 1) := by decide +kernel
theorem dX3_writes_42 : decode cX3_writes 42 = .ok (.iload_n 2, 1) := by decide +kernel
theorem dX3_writes_43 : decode cX3_writes 43 = .ok (.iconst 1, 1) := by decide +kernel
theorem dX3_writes_44 : decode cX3_writes 44 = .ok (.iload_n 3, 1) := by decide +kernel
theorem dX3_writes_45 : decode cX3_writes 45 = .ok (.invokestatic 63, 3) := by decide +kernel
theorem dX3_writes_48 : decode cX3_writes 48 = .ok (.iload 5, 2) := by decide +kernel
theorem dX3_writes_50 : decode cX3_writes 50 = .ok (.iadd, 1) := by decide +kernel
theorem dX3_writes_51 : decode cX3_writes 51 = .ok (.invokevirtual 59, 3) := by decide +kernel
theorem dX3_writes_54 : decode cX3_writes 54 = .ok (.aload_n 0, 1) := by decide +kernel
theorem dX3_writes_55 : decode cX3_writes 55 = .ok (.iload_n 1, 1) := by decide +kernel
theorem dX3_writes_56 : decode cX3_writes 56 = .ok (.iload_n 2, 1) := by decide +kernel
theorem dX3_writes_57 : decode cX3_writes 57 = .ok (.iconst 2, 1) := by decide +kernel
theorem dX3_writes_58 : decode cX3_writes 58 = .ok (.iload 4, 2) := by decide +kernel
theorem dX3_writes_60 : decode cX3_writes 60 = .ok (.iconst 1, 1) := by decide +kernel
theorem dX3_writes_61 : decode cX3_writes 61 = .ok (.iadd, 1) := by decide +kernel
theorem dX3_writes_62 : decode cX3_writes 62 = .ok (.invokevirtual 59, 3) := by decide +kernel
theorem dX3_writes_65 : decode cX3_writes 65 = .ok (.aload_n 0, 1) := by decide +kernel
theorem dX3_writes_66 : decode cX3_writes 66 = .ok (.iload_n 1, 1) := by decide +kernel
theorem dX3_writes_67 : decode cX3_writes 67 = .ok (.iload_n 2, 1) := by decide +kernel
theorem dX3_writes_68 : decode cX3_writes 68 = .ok (.iconst 3, 1) := by decide +kernel
theorem dX3_writes_69 : decode cX3_writes 69 = .ok (.aload_n 0, 1) := by decide +kernel
theorem dX3_writes_70 : decode cX3_writes 70 = .ok (.getfield 7, 3) := by decide +kernel
theorem dX3_writes_73 : decode cX3_writes 73 = .ok (.iconst 0, 1) := by decide +kernel
theorem dX3_writes_74 : decode cX3_writes 74 = .ok (.iaload, 1) := by decide +kernel
theorem dX3_writes_75 : decode cX3_writes 75 = .ok (.invokevirtual 59, 3) := by decide +kernel
theorem dX3_writes_78 : decode cX3_writes 78 = .ok (.aload_n 0, 1) := by decide +kernel
theorem dX3_writes_79 : decode cX3_writes 79 = .ok (.getfield 7, 3) := by decide +kernel
theorem dX3_writes_82 : decode cX3_writes 82 = .ok (.iconst 5, 1) := by decide +kernel
theorem dX3_writes_83 : decode cX3_writes 83 = .ok (.dup2, 1) := by decide +kernel
theorem dX3_writes_84 : decode cX3_writes 84 = .ok (.iaload, 1) := by decide +kernel
theorem dX3_writes_85 : decode cX3_writes 85 = .ok (.iconst 1, 1) := by decide +kernel
theorem dX3_writes_86 : decode cX3_writes 86 = .ok (.iadd, 1) := by decide +kernel
theorem dX3_writes_87 : decode cX3_writes 87 = .ok (.iastore, 1) := by decide +kernel
theorem dX3_writes_88 : decode cX3_writes 88 = .ok (.iload_n 3, 1) := by decide +kernel
theorem dX3_writes_89 : decode cX3_writes 89 = .ok (.invokestatic 63, 3) := by decide +kernel
theorem dX3_writes_92 : decode cX3_writes 92 = .ok (.iload 5, 2) := by decide +kernel
theorem dX3_writes_94 : decode cX3_writes 94 = .ok (.iadd, 1) := by decide +kernel
theorem dX3_writes_95 : decode cX3_writes 95 = .ok (.ireturn, 1) := by decide +kernel
theorem dX3_writesGuards_0 : decode cX3_writesGuards 0 = .ok (.iconst 0, 1) := by decide +kernel
theorem dX3_writesGuards_1 : decode cX3_writesGuards 1 = .ok (.istore_n 2, 1) := by decide +kernel
theorem dX3_writesGuards_2 : decode cX3_writesGuards 2 = .ok (.iload_n 2, 1) := by decide +kernel
theorem dX3_writesGuards_3 : decode cX3_writesGuards 3 = .ok (.iconst 3, 1) := by decide +kernel
theorem dX3_writesGuards_4 : decode cX3_writesGuards 4 = .ok (.if_icmp .ge 45, 3) := by decide +kernel
theorem dX3_writesGuards_7 : decode cX3_writesGuards 7 = .ok (.aload_n 0, 1) := by decide +kernel
theorem dX3_writesGuards_8 : decode cX3_writesGuards 8 = .ok (.iload_n 1, 1) := by decide +kernel
theorem dX3_writesGuards_9 : decode cX3_writesGuards 9 = .ok (.iconst 4, 1) := by decide +kernel
theorem dX3_writesGuards_10 : decode cX3_writesGuards 10 = .ok (.iload_n 2, 1) := by decide +kernel
theorem dX3_writesGuards_11 : decode cX3_writesGuards 11 = .ok (.iadd, 1) := by decide +kernel
theorem dX3_writesGuards_12 : decode cX3_writesGuards 12 = .ok (.aload_n 0, 1) := by decide +kernel
theorem dX3_writesGuards_13 : decode cX3_writesGuards 13 = .ok (.iload_n 1, 1) := by decide +kernel
theorem dX3_writesGuards_14 : decode cX3_writesGuards 14 = .ok (.bipush 7, 2) := by decide +kernel
theorem dX3_writesGuards_16 : decode cX3_writesGuards 16 = .ok (.iload_n 2, 1) := by decide +kernel
theorem dX3_writesGuards_17 : decode cX3_writesGuards 17 = .ok (.iadd, 1) := by decide +kernel
theorem dX3_writesGuards_18 : decode cX3_writesGuards 18 = .ok (.invokevirtual 52, 3) := by decide +kernel
theorem dX3_writesGuards_21 : decode cX3_writesGuards 21 = .ok (.iconst 1, 1) := by decide +kernel
theorem dX3_writesGuards_22 : decode cX3_writesGuards 22 = .ok (.if_icmp .ne 14, 3) := by decide +kernel
theorem dX3_writesGuards_25 : decode cX3_writesGuards 25 = .ok (.aload_n 0, 1) := by decide +kernel
theorem dX3_writesGuards_26 : decode cX3_writesGuards 26 = .ok (.iload_n 1, 1) := by decide +kernel
theorem dX3_writesGuards_27 : decode cX3_writesGuards 27 = .ok (.iconst 4, 1) := by decide +kernel
theorem dX3_writesGuards_28 : decode cX3_writesGuards 28 = .ok (.iload_n 2, 1) := by decide +kernel
theorem dX3_writesGuards_29 : decode cX3_writesGuards 29 = .ok (.iadd, 1) := by decide +kernel
theorem dX3_writesGuards_30 : decode cX3_writesGuards 30 = .ok (.invokevirtual 52, 3) := by decide +kernel
theorem dX3_writesGuards_33 : decode cX3_writesGuards 33 = .ok (.goto 7, 3) := by decide +kernel
theorem dX3_writesGuards_36 : decode cX3_writesGuards 36 = .ok (.iload_n 2, 1) := by decide +kernel
theorem dX3_writesGuards_37 : decode cX3_writesGuards 37 = .ok (.invokestatic 63, 3) := by decide +kernel
theorem dX3_writesGuards_40 : decode cX3_writesGuards 40 = .ok (.invokevirtual 28, 3) := by decide +kernel
theorem dX3_writesGuards_43 : decode cX3_writesGuards 43 = .ok (.iinc 2 1, 3) := by decide +kernel
theorem dX3_writesGuards_46 : decode cX3_writesGuards 46 = .ok (.goto (-44), 3) := by decide +kernel
theorem dX3_writesGuards_49 : decode cX3_writesGuards 49 = .ok (.aload_n 0, 1) := by decide +kernel
theorem dX3_writesGuards_50 : decode cX3_writesGuards 50 = .ok (.iload_n 1, 1) := by decide +kernel
theorem dX3_writesGuards_51 : decode cX3_writesGuards 51 = .ok (.iconst 1, 1) := by decide +kernel
theorem dX3_writesGuards_52 : decode cX3_writesGuards 52 = .ok (.aload_n 0, 1) := by decide +kernel
theorem dX3_writesGuards_53 : decode cX3_writesGuards 53 = .ok (.getfield 7, 3) := by decide +kernel
theorem dX3_writesGuards_56 : decode cX3_writesGuards 56 = .ok (.iconst 0, 1) := by decide +kernel
theorem dX3_writesGuards_57 : decode cX3_writesGuards 57 = .ok (.iaload, 1) := by decide +kernel
theorem dX3_writesGuards_58 : decode cX3_writesGuards 58 = .ok (.invokevirtual 28, 3) := by decide +kernel
theorem dX3_writesGuards_61 : decode cX3_writesGuards 61 = .ok (.return_, 1) := by decide +kernel
theorem dX3_own_0 : decode cX3_own 0 = .ok (.aload_n 0, 1) := by decide +kernel
theorem dX3_own_1 : decode cX3_own 1 = .ok (.iload_n 1, 1) := by decide +kernel
theorem dX3_own_2 : decode cX3_own 2 = .ok (.iconst 4, 1) := by decide +kernel
theorem dX3_own_3 : decode cX3_own 3 = .ok (.iload_n 2, 1) := by decide +kernel
theorem dX3_own_4 : decode cX3_own 4 = .ok (.iadd, 1) := by decide +kernel
theorem dX3_own_5 : decode cX3_own 5 = .ok (.invokevirtual 52, 3) := by decide +kernel
theorem dX3_own_8 : decode cX3_own 8 = .ok (.aload_n 0, 1) := by decide +kernel
theorem dX3_own_9 : decode cX3_own 9 = .ok (.iload_n 1, 1) := by decide +kernel
theorem dX3_own_10 : decode cX3_own 10 = .ok (.iconst 4, 1) := by decide +kernel
theorem dX3_own_11 : decode cX3_own 11 = .ok (.iload_n 2, 1) := by decide +kernel
theorem dX3_own_12 : decode cX3_own 12 = .ok (.iadd, 1) := by decide +kernel
theorem dX3_own_13 : decode cX3_own 13 = .ok (.iconst 1, 1) := by decide +kernel
theorem dX3_own_14 : decode cX3_own 14 = .ok (.iadd, 1) := by decide +kernel
theorem dX3_own_15 : decode cX3_own 15 = .ok (.invokevirtual 52, 3) := by decide +kernel
theorem dX3_own_18 : decode cX3_own 18 = .ok (.iadd, 1) := by decide +kernel
theorem dX3_own_19 : decode cX3_own 19 = .ok (.iconst 2, 1) := by decide +kernel
theorem dX3_own_20 : decode cX3_own 20 = .ok (.idiv, 1) := by decide +kernel
theorem dX3_own_21 : decode cX3_own 21 = .ok (.ireturn, 1) := by decide +kernel
theorem dX3_isRight_0 : decode cX3_isRight 0 = .ok (.aload_n 0, 1) := by decide +kernel
theorem dX3_isRight_1 : decode cX3_isRight 1 = .ok (.iload_n 1, 1) := by decide +kernel
theorem dX3_isRight_2 : decode cX3_isRight 2 = .ok (.iconst 5, 1) := by decide +kernel
theorem dX3_isRight_3 : decode cX3_isRight 3 = .ok (.invokevirtual 52, 3) := by decide +kernel
theorem dX3_isRight_6 : decode cX3_isRight 6 = .ok (.aload_n 0, 1) := by decide +kernel
theorem dX3_isRight_7 : decode cX3_isRight 7 = .ok (.iload_n 1, 1) := by decide +kernel
theorem dX3_isRight_8 : decode cX3_isRight 8 = .ok (.iconst 4, 1) := by decide +kernel
theorem dX3_isRight_9 : decode cX3_isRight 9 = .ok (.invokevirtual 52, 3) := by decide +kernel
theorem dX3_isRight_12 : decode cX3_isRight 12 = .ok (.aload_n 0, 1) := by decide +kernel
theorem dX3_isRight_13 : decode cX3_isRight 13 = .ok (.getfield 7, 3) := by decide +kernel
theorem dX3_isRight_16 : decode cX3_isRight 16 = .ok (.iconst 2, 1) := by decide +kernel
theorem dX3_isRight_17 : decode cX3_isRight 17 = .ok (.iaload, 1) := by decide +kernel
theorem dX3_isRight_18 : decode cX3_isRight 18 = .ok (.iadd, 1) := by decide +kernel
theorem dX3_isRight_19 : decode cX3_isRight 19 = .ok (.if_icmp .lt 30, 3) := by decide +kernel
theorem dX3_isRight_22 : decode cX3_isRight 22 = .ok (.aload_n 0, 1) := by decide +kernel
theorem dX3_isRight_23 : decode cX3_isRight 23 = .ok (.iload_n 1, 1) := by decide +kernel
theorem dX3_isRight_24 : decode cX3_isRight 24 = .ok (.bipush 6, 2) := by decide +kernel
theorem dX3_isRight_26 : decode cX3_isRight 26 = .ok (.invokevirtual 52, 3) := by decide +kernel
theorem dX3_isRight_29 : decode cX3_isRight 29 = .ok (.aload_n 0, 1) := by decide +kernel
theorem dX3_isRight_30 : decode cX3_isRight 30 = .ok (.iload_n 1, 1) := by decide +kernel
theorem dX3_isRight_31 : decode cX3_isRight 31 = .ok (.iconst 5, 1) := by decide +kernel
theorem dX3_isRight_32 : decode cX3_isRight 32 = .ok (.invokevirtual 52, 3) := by decide +kernel
theorem dX3_isRight_35 : decode cX3_isRight 35 = .ok (.aload_n 0, 1) := by decide +kernel
theorem dX3_isRight_36 : decode cX3_isRight 36 = .ok (.getfield 7, 3) := by decide +kernel
theorem dX3_isRight_39 : decode cX3_isRight 39 = .ok (.iconst 2, 1) := by decide +kernel
theorem dX3_isRight_40 : decode cX3_isRight 40 = .ok (.iaload, 1) := by decide +kernel
theorem dX3_isRight_41 : decode cX3_isRight 41 = .ok (.iadd, 1) := by decide +kernel
theorem dX3_isRight_42 : decode cX3_isRight 42 = .ok (.if_icmp .lt 7, 3) := by decide +kernel
theorem dX3_isRight_45 : decode cX3_isRight 45 = .ok (.iconst 1, 1) := by decide +kernel
theorem dX3_isRight_46 : decode cX3_isRight 46 = .ok (.goto 4, 3) := by decide +kernel
theorem dX3_isRight_49 : decode cX3_isRight 49 = .ok (.iconst 0, 1) := by decide +kernel
theorem dX3_isRight_50 : decode cX3_isRight 50 = .ok (.ireturn, 1) := by decide +kernel
theorem dX3_helps_0 : decode cX3_helps 0 = .ok (.iload_n 1, 1) := by decide +kernel
theorem dX3_helps_1 : decode cX3_helps 1 = .ok (.invokestatic 67, 3) := by decide +kernel
theorem dX3_helps_4 : decode cX3_helps 4 = .ok (.ifCond .eq 15, 3) := by decide +kernel
theorem dX3_helps_7 : decode cX3_helps 7 = .ok (.aload_n 0, 1) := by decide +kernel
theorem dX3_helps_8 : decode cX3_helps 8 = .ok (.iload_n 1, 1) := by decide +kernel
theorem dX3_helps_9 : decode cX3_helps 9 = .ok (.invokevirtual 71, 3) := by decide +kernel
theorem dX3_helps_12 : decode cX3_helps 12 = .ok (.ifCond .eq 7, 3) := by decide +kernel
theorem dX3_helps_15 : decode cX3_helps 15 = .ok (.iconst 1, 1) := by decide +kernel
theorem dX3_helps_16 : decode cX3_helps 16 = .ok (.goto 4, 3) := by decide +kernel
theorem dX3_helps_19 : decode cX3_helps 19 = .ok (.iconst 0, 1) := by decide +kernel
theorem dX3_helps_20 : decode cX3_helps 20 = .ok (.ireturn, 1) := by decide +kernel
theorem dX3_source_0 : decode cX3_source 0 = .ok (.aload_n 0, 1) := by decide +kernel
theorem dX3_source_1 : decode cX3_source 1 = .ok (.iload_n 1, 1) := by decide +kernel
theorem dX3_source_2 : decode cX3_source 2 = .ok (.invokevirtual 71, 3) := by decide +kernel
theorem dX3_source_5 : decode cX3_source 5 = .ok (.ifCond .eq 7, 3) := by decide +kernel
theorem dX3_source_8 : decode cX3_source 8 = .ok (.iconst 0, 1) := by decide +kernel
theorem dX3_source_9 : decode cX3_source 9 = .ok (.goto 28, 3) := by decide +kernel
theorem dX3_source_12 : decode cX3_source 12 = .ok (.aload_n 0, 1) := by decide +kernel
theorem dX3_source_13 : decode cX3_source 13 = .ok (.iload_n 1, 1) := by decide +kernel
theorem dX3_source_14 : decode cX3_source 14 = .ok (.iconst 1, 1) := by decide +kernel
theorem dX3_source_15 : decode cX3_source 15 = .ok (.isub, 1) := by decide +kernel
theorem dX3_source_16 : decode cX3_source 16 = .ok (.invokevirtual 74, 3) := by decide +kernel
theorem dX3_source_19 : decode cX3_source 19 = .ok (.ifCond .ne 13, 3) := by decide +kernel
theorem dX3_source_22 : decode cX3_source 22 = .ok (.aload_n 0, 1) := by decide +kernel
theorem dX3_source_23 : decode cX3_source 23 = .ok (.iload_n 1, 1) := by decide +kernel
theorem dX3_source_24 : decode cX3_source 24 = .ok (.iconst 1, 1) := by decide +kernel
theorem dX3_source_25 : decode cX3_source 25 = .ok (.iadd, 1) := by decide +kernel
theorem dX3_source_26 : decode cX3_source 26 = .ok (.invokevirtual 74, 3) := by decide +kernel
theorem dX3_source_29 : decode cX3_source 29 = .ok (.ifCond .eq 7, 3) := by decide +kernel
theorem dX3_source_32 : decode cX3_source 32 = .ok (.iconst 1, 1) := by decide +kernel
theorem dX3_source_33 : decode cX3_source 33 = .ok (.goto 4, 3) := by decide +kernel
theorem dX3_source_36 : decode cX3_source 36 = .ok (.iconst 2, 1) := by decide +kernel
theorem dX3_source_37 : decode cX3_source 37 = .ok (.ireturn, 1) := by decide +kernel
theorem dX3_threshold_0 : decode cX3_threshold 0 = .ok (.aload_n 0, 1) := by decide +kernel
theorem dX3_threshold_1 : decode cX3_threshold 1 = .ok (.iload_n 1, 1) := by decide +kernel
theorem dX3_threshold_2 : decode cX3_threshold 2 = .ok (.invokevirtual 71, 3) := by decide +kernel
theorem dX3_threshold_5 : decode cX3_threshold 5 = .ok (.ifCond .eq 10, 3) := by decide +kernel
theorem dX3_threshold_8 : decode cX3_threshold 8 = .ok (.aload_n 0, 1) := by decide +kernel
theorem dX3_threshold_9 : decode cX3_threshold 9 = .ok (.iload_n 1, 1) := by decide +kernel
theorem dX3_threshold_10 : decode cX3_threshold 10 = .ok (.iload_n 2, 1) := by decide +kernel
theorem dX3_threshold_11 : decode cX3_threshold 11 = .ok (.invokevirtual 77, 3) := by decide +kernel
theorem dX3_threshold_14 : decode cX3_threshold 14 = .ok (.ireturn, 1) := by decide +kernel
theorem dX3_threshold_15 : decode cX3_threshold 15 = .ok (.aload_n 0, 1) := by decide +kernel
theorem dX3_threshold_16 : decode cX3_threshold 16 = .ok (.iload_n 1, 1) := by decide +kernel
theorem dX3_threshold_17 : decode cX3_threshold 17 = .ok (.iconst 1, 1) := by decide +kernel
theorem dX3_threshold_18 : decode cX3_threshold 18 = .ok (.isub, 1) := by decide +kernel
theorem dX3_threshold_19 : decode cX3_threshold 19 = .ok (.invokevirtual 74, 3) := by decide +kernel
theorem dX3_threshold_22 : decode cX3_threshold 22 = .ok (.ifCond .eq 14, 3) := by decide +kernel
theorem dX3_threshold_25 : decode cX3_threshold 25 = .ok (.aload_n 0, 1) := by decide +kernel
theorem dX3_threshold_26 : decode cX3_threshold 26 = .ok (.iload_n 1, 1) := by decide +kernel
theorem dX3_threshold_27 : decode cX3_threshold 27 = .ok (.iconst 1, 1) := by decide +kernel
theorem dX3_threshold_28 : decode cX3_threshold 28 = .ok (.isub, 1) := by decide +kernel
theorem dX3_threshold_29 : decode cX3_threshold 29 = .ok (.iload_n 2, 1) := by decide +kernel
theorem dX3_threshold_30 : decode cX3_threshold 30 = .ok (.invokevirtual 77, 3) := by decide +kernel
theorem dX3_threshold_33 : decode cX3_threshold 33 = .ok (.goto 4, 3) := by decide +kernel
theorem dX3_threshold_36 : decode cX3_threshold 36 = .ok (.iconst 0, 1) := by decide +kernel
theorem dX3_threshold_37 : decode cX3_threshold 37 = .ok (.aload_n 0, 1) := by decide +kernel
theorem dX3_threshold_38 : decode cX3_threshold 38 = .ok (.iload_n 1, 1) := by decide +kernel
theorem dX3_threshold_39 : decode cX3_threshold 39 = .ok (.iconst 1, 1) := by decide +kernel
theorem dX3_threshold_40 : decode cX3_threshold 40 = .ok (.iadd, 1) := by decide +kernel
theorem dX3_threshold_41 : decode cX3_threshold 41 = .ok (.invokevirtual 74, 3) := by decide +kernel
theorem dX3_threshold_44 : decode cX3_threshold 44 = .ok (.ifCond .eq 14, 3) := by decide +kernel
theorem dX3_threshold_47 : decode cX3_threshold 47 = .ok (.aload_n 0, 1) := by decide +kernel
theorem dX3_threshold_48 : decode cX3_threshold 48 = .ok (.iload_n 1, 1) := by decide +kernel
theorem dX3_threshold_49 : decode cX3_threshold 49 = .ok (.iconst 1, 1) := by decide +kernel
theorem dX3_threshold_50 : decode cX3_threshold 50 = .ok (.iadd, 1) := by decide +kernel
theorem dX3_threshold_51 : decode cX3_threshold 51 = .ok (.iload_n 2, 1) := by decide +kernel
theorem dX3_threshold_52 : decode cX3_threshold 52 = .ok (.invokevirtual 77, 3) := by decide +kernel
theorem dX3_threshold_55 : decode cX3_threshold 55 = .ok (.goto 4, 3) := by decide +kernel
theorem dX3_threshold_58 : decode cX3_threshold 58 = .ok (.iconst 0, 1) := by decide +kernel
theorem dX3_threshold_59 : decode cX3_threshold 59 = .ok (.iadd, 1) := by decide +kernel
theorem dX3_threshold_60 : decode cX3_threshold 60 = .ok (.istore_n 3, 1) := by decide +kernel
theorem dX3_threshold_61 : decode cX3_threshold 61 = .ok (.aload_n 0, 1) := by decide +kernel
theorem dX3_threshold_62 : decode cX3_threshold 62 = .ok (.iload_n 1, 1) := by decide +kernel
theorem dX3_threshold_63 : decode cX3_threshold 63 = .ok (.iconst 1, 1) := by decide +kernel
theorem dX3_threshold_64 : decode cX3_threshold 64 = .ok (.isub, 1) := by decide +kernel
theorem dX3_threshold_65 : decode cX3_threshold 65 = .ok (.invokevirtual 74, 3) := by decide +kernel
theorem dX3_threshold_68 : decode cX3_threshold 68 = .ok (.ifCond .eq 7, 3) := by decide +kernel
theorem dX3_threshold_71 : decode cX3_threshold 71 = .ok (.iconst 1, 1) := by decide +kernel
theorem dX3_threshold_72 : decode cX3_threshold 72 = .ok (.goto 4, 3) := by decide +kernel
theorem dX3_threshold_75 : decode cX3_threshold 75 = .ok (.iconst 0, 1) := by decide +kernel
theorem dX3_threshold_76 : decode cX3_threshold 76 = .ok (.aload_n 0, 1) := by decide +kernel
theorem dX3_threshold_77 : decode cX3_threshold 77 = .ok (.iload_n 1, 1) := by decide +kernel
theorem dX3_threshold_78 : decode cX3_threshold 78 = .ok (.iconst 1, 1) := by decide +kernel
theorem dX3_threshold_79 : decode cX3_threshold 79 = .ok (.iadd, 1) := by decide +kernel
theorem dX3_threshold_80 : decode cX3_threshold 80 = .ok (.invokevirtual 74, 3) := by decide +kernel
theorem dX3_threshold_83 : decode cX3_threshold 83 = .ok (.ifCond .eq 7, 3) := by decide +kernel
theorem dX3_threshold_86 : decode cX3_threshold 86 = .ok (.iconst 1, 1) := by decide +kernel
theorem dX3_threshold_87 : decode cX3_threshold 87 = .ok (.goto 4, 3) := by decide +kernel
theorem dX3_threshold_90 : decode cX3_threshold 90 = .ok (.iconst 0, 1) := by decide +kernel
theorem dX3_threshold_91 : decode cX3_threshold 91 = .ok (.iadd, 1) := by decide +kernel
theorem dX3_threshold_92 : decode cX3_threshold 92 = .ok (.istore 4, 2) := by decide +kernel
theorem dX3_threshold_94 : decode cX3_threshold 94 = .ok (.iload 4, 2) := by decide +kernel
theorem dX3_threshold_96 : decode cX3_threshold 96 = .ok (.ifCond .le 10, 3) := by decide +kernel
theorem dX3_threshold_99 : decode cX3_threshold 99 = .ok (.iload_n 3, 1) := by decide +kernel
theorem dX3_threshold_100 : decode cX3_threshold 100 = .ok (.iload 4, 2) := by decide +kernel
theorem dX3_threshold_102 : decode cX3_threshold 102 = .ok (.idiv, 1) := by decide +kernel
theorem dX3_threshold_103 : decode cX3_threshold 103 = .ok (.goto 16, 3) := by decide +kernel
theorem dX3_threshold_106 : decode cX3_threshold 106 = .ok (.iload_n 2, 1) := by decide +kernel
theorem dX3_threshold_107 : decode cX3_threshold 107 = .ok (.ifCond .ne 9, 3) := by decide +kernel
theorem dX3_threshold_110 : decode cX3_threshold 110 = .ok (.sipush 300, 3) := by decide +kernel
theorem dX3_threshold_113 : decode cX3_threshold 113 = .ok (.goto 6, 3) := by decide +kernel
theorem dX3_threshold_116 : decode cX3_threshold 116 = .ok (.sipush 700, 3) := by decide +kernel
theorem dX3_threshold_119 : decode cX3_threshold 119 = .ok (.ireturn, 1) := by decide +kernel
theorem dX3_by_0 : decode cX3_by 0 = .ok (.iload_n 0, 1) := by decide +kernel
theorem dX3_by_1 : decode cX3_by 1 = .ok (.iload_n 1, 1) := by decide +kernel
theorem dX3_by_2 : decode cX3_by 2 = .ok (.if_icmp .ge 7, 3) := by decide +kernel
theorem dX3_by_5 : decode cX3_by 5 = .ok (.iconst 0, 1) := by decide +kernel
theorem dX3_by_6 : decode cX3_by 6 = .ok (.goto 13, 3) := by decide +kernel
theorem dX3_by_9 : decode cX3_by 9 = .ok (.iload_n 0, 1) := by decide +kernel
theorem dX3_by_10 : decode cX3_by 10 = .ok (.iload_n 2, 1) := by decide +kernel
theorem dX3_by_11 : decode cX3_by 11 = .ok (.if_icmp .lt 7, 3) := by decide +kernel
theorem dX3_by_14 : decode cX3_by 14 = .ok (.iconst 2, 1) := by decide +kernel
theorem dX3_by_15 : decode cX3_by 15 = .ok (.goto 4, 3) := by decide +kernel
theorem dX3_by_18 : decode cX3_by 18 = .ok (.iconst 1, 1) := by decide +kernel
theorem dX3_by_19 : decode cX3_by 19 = .ok (.ireturn, 1) := by decide +kernel
theorem dX3_told_0 : decode cX3_told 0 = .ok (.aload_n 0, 1) := by decide +kernel
theorem dX3_told_1 : decode cX3_told 1 = .ok (.iload_n 1, 1) := by decide +kernel
theorem dX3_told_2 : decode cX3_told 2 = .ok (.iload_n 2, 1) := by decide +kernel
theorem dX3_told_3 : decode cX3_told 3 = .ok (.iconst 1, 1) := by decide +kernel
theorem dX3_told_4 : decode cX3_told 4 = .ok (.invokevirtual 56, 3) := by decide +kernel
theorem dX3_told_7 : decode cX3_told 7 = .ok (.aload_n 0, 1) := by decide +kernel
theorem dX3_told_8 : decode cX3_told 8 = .ok (.iload_n 1, 1) := by decide +kernel
theorem dX3_told_9 : decode cX3_told 9 = .ok (.iconst 0, 1) := by decide +kernel
theorem dX3_told_10 : decode cX3_told 10 = .ok (.invokevirtual 80, 3) := by decide +kernel
theorem dX3_told_13 : decode cX3_told 13 = .ok (.aload_n 0, 1) := by decide +kernel
theorem dX3_told_14 : decode cX3_told 14 = .ok (.iload_n 1, 1) := by decide +kernel
theorem dX3_told_15 : decode cX3_told 15 = .ok (.iconst 1, 1) := by decide +kernel
theorem dX3_told_16 : decode cX3_told 16 = .ok (.invokevirtual 80, 3) := by decide +kernel
theorem dX3_told_19 : decode cX3_told 19 = .ok (.invokestatic 83, 3) := by decide +kernel
theorem dX3_told_22 : decode cX3_told 22 = .ok (.ireturn, 1) := by decide +kernel
theorem dX3_wrong_0 : decode cX3_wrong 0 = .ok (.iconst 0, 1) := by decide +kernel
theorem dX3_wrong_1 : decode cX3_wrong 1 = .ok (.istore_n 2, 1) := by decide +kernel
theorem dX3_wrong_2 : decode cX3_wrong 2 = .ok (.iconst 0, 1) := by decide +kernel
theorem dX3_wrong_3 : decode cX3_wrong 3 = .ok (.istore_n 3, 1) := by decide +kernel
theorem dX3_wrong_4 : decode cX3_wrong 4 = .ok (.iload_n 3, 1) := by decide +kernel
theorem dX3_wrong_5 : decode cX3_wrong 5 = .ok (.bipush 8, 2) := by decide +kernel
theorem dX3_wrong_7 : decode cX3_wrong 7 = .ok (.if_icmp .ge 33, 3) := by decide +kernel
theorem dX3_wrong_10 : decode cX3_wrong 10 = .ok (.iload_n 2, 1) := by decide +kernel
theorem dX3_wrong_11 : decode cX3_wrong 11 = .ok (.aload_n 0, 1) := by decide +kernel
theorem dX3_wrong_12 : decode cX3_wrong 12 = .ok (.iload_n 1, 1) := by decide +kernel
theorem dX3_wrong_13 : decode cX3_wrong 13 = .ok (.iload_n 3, 1) := by decide +kernel
theorem dX3_wrong_14 : decode cX3_wrong 14 = .ok (.invokevirtual 86, 3) := by decide +kernel
theorem dX3_wrong_17 : decode cX3_wrong 17 = .ok (.aload_n 0, 1) := by decide +kernel
theorem dX3_wrong_18 : decode cX3_wrong 18 = .ok (.iload_n 1, 1) := by decide +kernel
theorem dX3_wrong_19 : decode cX3_wrong 19 = .ok (.iload_n 3, 1) := by decide +kernel
theorem dX3_wrong_20 : decode cX3_wrong 20 = .ok (.iconst 0, 1) := by decide +kernel
theorem dX3_wrong_21 : decode cX3_wrong 21 = .ok (.invokevirtual 56, 3) := by decide +kernel
theorem dX3_wrong_24 : decode cX3_wrong 24 = .ok (.if_icmp .ne 7, 3) := by decide +kernel
theorem dX3_wrong_27 : decode cX3_wrong 27 = .ok (.iconst 0, 1) := by decide +kernel
theorem dX3_wrong_28 : decode cX3_wrong 28 = .ok (.goto 4, 3) := by decide +kernel
theorem dX3_wrong_31 : decode cX3_wrong 31 = .ok (.iconst 1, 1) := by decide +kernel
theorem dX3_wrong_32 : decode cX3_wrong 32 = .ok (.iadd, 1) := by decide +kernel
theorem dX3_wrong_33 : decode cX3_wrong 33 = .ok (.istore_n 2, 1) := by decide +kernel
theorem dX3_wrong_34 : decode cX3_wrong 34 = .ok (.iinc 3 1, 3) := by decide +kernel
theorem dX3_wrong_37 : decode cX3_wrong 37 = .ok (.goto (-33), 3) := by decide +kernel
theorem dX3_wrong_40 : decode cX3_wrong 40 = .ok (.iload_n 2, 1) := by decide +kernel
theorem dX3_wrong_41 : decode cX3_wrong 41 = .ok (.ireturn, 1) := by decide +kernel
theorem dX3_wordTold_0 : decode cX3_wordTold 0 = .ok (.iconst 0, 1) := by decide +kernel
theorem dX3_wordTold_1 : decode cX3_wordTold 1 = .ok (.istore_n 2, 1) := by decide +kernel
theorem dX3_wordTold_2 : decode cX3_wordTold 2 = .ok (.bipush 7, 2) := by decide +kernel
theorem dX3_wordTold_4 : decode cX3_wordTold 4 = .ok (.istore_n 3, 1) := by decide +kernel
theorem dX3_wordTold_5 : decode cX3_wordTold 5 = .ok (.iload_n 3, 1) := by decide +kernel
theorem dX3_wordTold_6 : decode cX3_wordTold 6 = .ok (.ifCond .lt 20, 3) := by decide +kernel
theorem dX3_wordTold_9 : decode cX3_wordTold 9 = .ok (.iconst 3, 1) := by decide +kernel
theorem dX3_wordTold_10 : decode cX3_wordTold 10 = .ok (.iload_n 2, 1) := by decide +kernel
theorem dX3_wordTold_11 : decode cX3_wordTold 11 = .ok (.imul, 1) := by decide +kernel
theorem dX3_wordTold_12 : decode cX3_wordTold 12 = .ok (.aload_n 0, 1) := by decide +kernel
theorem dX3_wordTold_13 : decode cX3_wordTold 13 = .ok (.iload_n 1, 1) := by decide +kernel
theorem dX3_wordTold_14 : decode cX3_wordTold 14 = .ok (.iload_n 3, 1) := by decide +kernel
theorem dX3_wordTold_15 : decode cX3_wordTold 15 = .ok (.invokevirtual 86, 3) := by decide +kernel
theorem dX3_wordTold_18 : decode cX3_wordTold 18 = .ok (.iadd, 1) := by decide +kernel
theorem dX3_wordTold_19 : decode cX3_wordTold 19 = .ok (.istore_n 2, 1) := by decide +kernel
theorem dX3_wordTold_20 : decode cX3_wordTold 20 = .ok (.iinc 3 (-1), 3) := by decide +kernel
theorem dX3_wordTold_23 : decode cX3_wordTold 23 = .ok (.goto (-18), 3) := by decide +kernel
theorem dX3_wordTold_26 : decode cX3_wordTold 26 = .ok (.iload_n 2, 1) := by decide +kernel
theorem dX3_wordTold_27 : decode cX3_wordTold 27 = .ok (.ireturn, 1) := by decide +kernel
theorem dX3_wordOf_0 : decode cX3_wordOf 0 = .ok (.iconst 0, 1) := by decide +kernel
theorem dX3_wordOf_1 : decode cX3_wordOf 1 = .ok (.istore_n 2, 1) := by decide +kernel
theorem dX3_wordOf_2 : decode cX3_wordOf 2 = .ok (.bipush 7, 2) := by decide +kernel
theorem dX3_wordOf_4 : decode cX3_wordOf 4 = .ok (.istore_n 3, 1) := by decide +kernel
theorem dX3_wordOf_5 : decode cX3_wordOf 5 = .ok (.iload_n 3, 1) := by decide +kernel
theorem dX3_wordOf_6 : decode cX3_wordOf 6 = .ok (.ifCond .lt 21, 3) := by decide +kernel
theorem dX3_wordOf_9 : decode cX3_wordOf 9 = .ok (.iconst 3, 1) := by decide +kernel
theorem dX3_wordOf_10 : decode cX3_wordOf 10 = .ok (.iload_n 2, 1) := by decide +kernel
theorem dX3_wordOf_11 : decode cX3_wordOf 11 = .ok (.imul, 1) := by decide +kernel
theorem dX3_wordOf_12 : decode cX3_wordOf 12 = .ok (.aload_n 0, 1) := by decide +kernel
theorem dX3_wordOf_13 : decode cX3_wordOf 13 = .ok (.iload_n 1, 1) := by decide +kernel
theorem dX3_wordOf_14 : decode cX3_wordOf 14 = .ok (.iload_n 3, 1) := by decide +kernel
theorem dX3_wordOf_15 : decode cX3_wordOf 15 = .ok (.iconst 0, 1) := by decide +kernel
theorem dX3_wordOf_16 : decode cX3_wordOf 16 = .ok (.invokevirtual 56, 3) := by decide +kernel
theorem dX3_wordOf_19 : decode cX3_wordOf 19 = .ok (.iadd, 1) := by decide +kernel
theorem dX3_wordOf_20 : decode cX3_wordOf 20 = .ok (.istore_n 2, 1) := by decide +kernel
theorem dX3_wordOf_21 : decode cX3_wordOf 21 = .ok (.iinc 3 (-1), 3) := by decide +kernel
theorem dX3_wordOf_24 : decode cX3_wordOf 24 = .ok (.goto (-19), 3) := by decide +kernel
theorem dX3_wordOf_27 : decode cX3_wordOf 27 = .ok (.iload_n 2, 1) := by decide +kernel
theorem dX3_wordOf_28 : decode cX3_wordOf 28 = .ok (.ireturn, 1) := by decide +kernel
theorem dX3_writesWord_0 : decode cX3_writesWord 0 = .ok (.iload_n 2, 1) := by decide +kernel
theorem dX3_writesWord_1 : decode cX3_writesWord 1 = .ok (.istore_n 3, 1) := by decide +kernel
theorem dX3_writesWord_2 : decode cX3_writesWord 2 = .ok (.iconst 0, 1) := by decide +kernel
theorem dX3_writesWord_3 : decode cX3_writesWord 3 = .ok (.istore 4, 2) := by decide +kernel
theorem dX3_writesWord_5 : decode cX3_writesWord 5 = .ok (.iload 4, 2) := by decide +kernel
theorem dX3_writesWord_7 : decode cX3_writesWord 7 = .ok (.bipush 8, 2) := by decide +kernel
theorem dX3_writesWord_9 : decode cX3_writesWord 9 = .ok (.if_icmp .ge 25, 3) := by decide +kernel
theorem dX3_writesWord_12 : decode cX3_writesWord 12 = .ok (.aload_n 0, 1) := by decide +kernel
theorem dX3_writesWord_13 : decode cX3_writesWord 13 = .ok (.iload_n 1, 1) := by decide +kernel
theorem dX3_writesWord_14 : decode cX3_writesWord 14 = .ok (.iload 4, 2) := by decide +kernel
theorem dX3_writesWord_16 : decode cX3_writesWord 16 = .ok (.iload_n 3, 1) := by decide +kernel
theorem dX3_writesWord_17 : decode cX3_writesWord 17 = .ok (.iconst 3, 1) := by decide +kernel
theorem dX3_writesWord_18 : decode cX3_writesWord 18 = .ok (.irem, 1) := by decide +kernel
theorem dX3_writesWord_19 : decode cX3_writesWord 19 = .ok (.invokevirtual 36, 3) := by decide +kernel
theorem dX3_writesWord_22 : decode cX3_writesWord 22 = .ok (.istore 5, 2) := by decide +kernel
theorem dX3_writesWord_24 : decode cX3_writesWord 24 = .ok (.iload_n 3, 1) := by decide +kernel
theorem dX3_writesWord_25 : decode cX3_writesWord 25 = .ok (.iconst 3, 1) := by decide +kernel
theorem dX3_writesWord_26 : decode cX3_writesWord 26 = .ok (.idiv, 1) := by decide +kernel
theorem dX3_writesWord_27 : decode cX3_writesWord 27 = .ok (.istore_n 3, 1) := by decide +kernel
theorem dX3_writesWord_28 : decode cX3_writesWord 28 = .ok (.iinc 4 1, 3) := by decide +kernel
theorem dX3_writesWord_31 : decode cX3_writesWord 31 = .ok (.goto (-26), 3) := by decide +kernel
theorem dX3_writesWord_34 : decode cX3_writesWord 34 = .ok (.return_, 1) := by decide +kernel
theorem dX3_writesAnew_0 : decode cX3_writesAnew 0 = .ok (.aload_n 0, 1) := by decide +kernel
theorem dX3_writesAnew_1 : decode cX3_writesAnew 1 = .ok (.iload_n 1, 1) := by decide +kernel
theorem dX3_writesAnew_2 : decode cX3_writesAnew 2 = .ok (.invokevirtual 89, 3) := by decide +kernel
theorem dX3_writesAnew_5 : decode cX3_writesAnew 5 = .ok (.istore_n 2, 1) := by decide +kernel
theorem dX3_writesAnew_6 : decode cX3_writesAnew 6 = .ok (.aload_n 0, 1) := by decide +kernel
theorem dX3_writesAnew_7 : decode cX3_writesAnew 7 = .ok (.iload_n 1, 1) := by decide +kernel
theorem dX3_writesAnew_8 : decode cX3_writesAnew 8 = .ok (.aload_n 0, 1) := by decide +kernel
theorem dX3_writesAnew_9 : decode cX3_writesAnew 9 = .ok (.iload_n 1, 1) := by decide +kernel
theorem dX3_writesAnew_10 : decode cX3_writesAnew 10 = .ok (.invokevirtual 92, 3) := by decide +kernel
theorem dX3_writesAnew_13 : decode cX3_writesAnew 13 = .ok (.invokevirtual 95, 3) := by decide +kernel
theorem dX3_writesAnew_16 : decode cX3_writesAnew 16 = .ok (.aload_n 0, 1) := by decide +kernel
theorem dX3_writesAnew_17 : decode cX3_writesAnew 17 = .ok (.iload_n 1, 1) := by decide +kernel
theorem dX3_writesAnew_18 : decode cX3_writesAnew 18 = .ok (.invokevirtual 32, 3) := by decide +kernel
theorem dX3_writesAnew_21 : decode cX3_writesAnew 21 = .ok (.aload_n 0, 1) := by decide +kernel
theorem dX3_writesAnew_22 : decode cX3_writesAnew 22 = .ok (.iload_n 1, 1) := by decide +kernel
theorem dX3_writesAnew_23 : decode cX3_writesAnew 23 = .ok (.iconst 2, 1) := by decide +kernel
theorem dX3_writesAnew_24 : decode cX3_writesAnew 24 = .ok (.aload_n 0, 1) := by decide +kernel
theorem dX3_writesAnew_25 : decode cX3_writesAnew 25 = .ok (.iload_n 1, 1) := by decide +kernel
theorem dX3_writesAnew_26 : decode cX3_writesAnew 26 = .ok (.iconst 2, 1) := by decide +kernel
theorem dX3_writesAnew_27 : decode cX3_writesAnew 27 = .ok (.invokevirtual 52, 3) := by decide +kernel
theorem dX3_writesAnew_30 : decode cX3_writesAnew 30 = .ok (.iload_n 2, 1) := by decide +kernel
theorem dX3_writesAnew_31 : decode cX3_writesAnew 31 = .ok (.iadd, 1) := by decide +kernel
theorem dX3_writesAnew_32 : decode cX3_writesAnew 32 = .ok (.invokevirtual 28, 3) := by decide +kernel
theorem dX3_writesAnew_35 : decode cX3_writesAnew 35 = .ok (.aload_n 0, 1) := by decide +kernel
theorem dX3_writesAnew_36 : decode cX3_writesAnew 36 = .ok (.iload_n 1, 1) := by decide +kernel
theorem dX3_writesAnew_37 : decode cX3_writesAnew 37 = .ok (.iconst 3, 1) := by decide +kernel
theorem dX3_writesAnew_38 : decode cX3_writesAnew 38 = .ok (.aload_n 0, 1) := by decide +kernel
theorem dX3_writesAnew_39 : decode cX3_writesAnew 39 = .ok (.iload_n 1, 1) := by decide +kernel
theorem dX3_writesAnew_40 : decode cX3_writesAnew 40 = .ok (.iconst 3, 1) := by decide +kernel
theorem dX3_writesAnew_41 : decode cX3_writesAnew 41 = .ok (.invokevirtual 52, 3) := by decide +kernel
theorem dX3_writesAnew_44 : decode cX3_writesAnew 44 = .ok (.iconst 1, 1) := by decide +kernel
theorem dX3_writesAnew_45 : decode cX3_writesAnew 45 = .ok (.iadd, 1) := by decide +kernel
theorem dX3_writesAnew_46 : decode cX3_writesAnew 46 = .ok (.invokevirtual 28, 3) := by decide +kernel
theorem dX3_writesAnew_49 : decode cX3_writesAnew 49 = .ok (.aload_n 0, 1) := by decide +kernel
theorem dX3_writesAnew_50 : decode cX3_writesAnew 50 = .ok (.getfield 7, 3) := by decide +kernel
theorem dX3_writesAnew_53 : decode cX3_writesAnew 53 = .ok (.iconst 4, 1) := by decide +kernel
theorem dX3_writesAnew_54 : decode cX3_writesAnew 54 = .ok (.dup2, 1) := by decide +kernel
theorem dX3_writesAnew_55 : decode cX3_writesAnew 55 = .ok (.iaload, 1) := by decide +kernel
theorem dX3_writesAnew_56 : decode cX3_writesAnew 56 = .ok (.iload_n 2, 1) := by decide +kernel
theorem dX3_writesAnew_57 : decode cX3_writesAnew 57 = .ok (.iadd, 1) := by decide +kernel
theorem dX3_writesAnew_58 : decode cX3_writesAnew 58 = .ok (.iastore, 1) := by decide +kernel
theorem dX3_writesAnew_59 : decode cX3_writesAnew 59 = .ok (.aload_n 0, 1) := by decide +kernel
theorem dX3_writesAnew_60 : decode cX3_writesAnew 60 = .ok (.getfield 7, 3) := by decide +kernel
theorem dX3_writesAnew_63 : decode cX3_writesAnew 63 = .ok (.bipush 6, 2) := by decide +kernel
theorem dX3_writesAnew_65 : decode cX3_writesAnew 65 = .ok (.dup2, 1) := by decide +kernel
theorem dX3_writesAnew_66 : decode cX3_writesAnew 66 = .ok (.iaload, 1) := by decide +kernel
theorem dX3_writesAnew_67 : decode cX3_writesAnew 67 = .ok (.iconst 1, 1) := by decide +kernel
theorem dX3_writesAnew_68 : decode cX3_writesAnew 68 = .ok (.iadd, 1) := by decide +kernel
theorem dX3_writesAnew_69 : decode cX3_writesAnew 69 = .ok (.iastore, 1) := by decide +kernel
theorem dX3_writesAnew_70 : decode cX3_writesAnew 70 = .ok (.iload_n 2, 1) := by decide +kernel
theorem dX3_writesAnew_71 : decode cX3_writesAnew 71 = .ok (.ireturn, 1) := by decide +kernel
theorem dX3_drifted_0 : decode cX3_drifted 0 = .ok (.aload_n 0, 1) := by decide +kernel
theorem dX3_drifted_1 : decode cX3_drifted 1 = .ok (.getfield 7, 3) := by decide +kernel
theorem dX3_drifted_4 : decode cX3_drifted 4 = .ok (.iconst 1, 1) := by decide +kernel
theorem dX3_drifted_5 : decode cX3_drifted 5 = .ok (.iaload, 1) := by decide +kernel
theorem dX3_drifted_6 : decode cX3_drifted 6 = .ok (.iload_n 1, 1) := by decide +kernel
theorem dX3_drifted_7 : decode cX3_drifted 7 = .ok (.isub, 1) := by decide +kernel
theorem dX3_drifted_8 : decode cX3_drifted 8 = .ok (.istore_n 3, 1) := by decide +kernel
theorem dX3_drifted_9 : decode cX3_drifted 9 = .ok (.iload_n 3, 1) := by decide +kernel
theorem dX3_drifted_10 : decode cX3_drifted 10 = .ok (.invokestatic 99, 3) := by decide +kernel
theorem dX3_drifted_13 : decode cX3_drifted 13 = .ok (.iload_n 2, 1) := by decide +kernel
theorem dX3_drifted_14 : decode cX3_drifted 14 = .ok (.imul, 1) := by decide +kernel
theorem dX3_drifted_15 : decode cX3_drifted 15 = .ok (.sipush 1000, 3) := by decide +kernel
theorem dX3_drifted_18 : decode cX3_drifted 18 = .ok (.idiv, 1) := by decide +kernel
theorem dX3_drifted_19 : decode cX3_drifted 19 = .ok (.istore 4, 2) := by decide +kernel
theorem dX3_drifted_21 : decode cX3_drifted 21 = .ok (.iload 4, 2) := by decide +kernel
theorem dX3_drifted_23 : decode cX3_drifted 23 = .ok (.iconst 1, 1) := by decide +kernel
theorem dX3_drifted_24 : decode cX3_drifted 24 = .ok (.if_icmp .ge 7, 3) := by decide +kernel
theorem dX3_drifted_27 : decode cX3_drifted 27 = .ok (.iconst 1, 1) := by decide +kernel
theorem dX3_drifted_28 : decode cX3_drifted 28 = .ok (.goto 5, 3) := by decide +kernel
theorem dX3_drifted_31 : decode cX3_drifted 31 = .ok (.iload 4, 2) := by decide +kernel
theorem dX3_drifted_33 : decode cX3_drifted 33 = .ok (.istore 4, 2) := by decide +kernel
theorem dX3_drifted_35 : decode cX3_drifted 35 = .ok (.iload_n 3, 1) := by decide +kernel
theorem dX3_drifted_36 : decode cX3_drifted 36 = .ok (.ifCond .ne 7, 3) := by decide +kernel
theorem dX3_drifted_39 : decode cX3_drifted 39 = .ok (.iload_n 1, 1) := by decide +kernel
theorem dX3_drifted_40 : decode cX3_drifted 40 = .ok (.goto 18, 3) := by decide +kernel
theorem dX3_drifted_43 : decode cX3_drifted 43 = .ok (.iload_n 3, 1) := by decide +kernel
theorem dX3_drifted_44 : decode cX3_drifted 44 = .ok (.ifCond .le 10, 3) := by decide +kernel
theorem dX3_drifted_47 : decode cX3_drifted 47 = .ok (.iload_n 1, 1) := by decide +kernel
theorem dX3_drifted_48 : decode cX3_drifted 48 = .ok (.iload 4, 2) := by decide +kernel
theorem dX3_drifted_50 : decode cX3_drifted 50 = .ok (.iadd, 1) := by decide +kernel
theorem dX3_drifted_51 : decode cX3_drifted 51 = .ok (.goto 7, 3) := by decide +kernel
theorem dX3_drifted_54 : decode cX3_drifted 54 = .ok (.iload_n 1, 1) := by decide +kernel
theorem dX3_drifted_55 : decode cX3_drifted 55 = .ok (.iload 4, 2) := by decide +kernel
theorem dX3_drifted_57 : decode cX3_drifted 57 = .ok (.isub, 1) := by decide +kernel
theorem dX3_drifted_58 : decode cX3_drifted 58 = .ok (.ireturn, 1) := by decide +kernel
theorem dX3_drifts_0 : decode cX3_drifts 0 = .ok (.iconst 0, 1) := by decide +kernel
theorem dX3_drifts_1 : decode cX3_drifts 1 = .ok (.istore_n 1, 1) := by decide +kernel
theorem dX3_drifts_2 : decode cX3_drifts 2 = .ok (.iload_n 1, 1) := by decide +kernel
theorem dX3_drifts_3 : decode cX3_drifts 3 = .ok (.bipush 6, 2) := by decide +kernel
theorem dX3_drifts_5 : decode cX3_drifts 5 = .ok (.if_icmp .ge 110, 3) := by decide +kernel
theorem dX3_drifts_8 : decode cX3_drifts 8 = .ok (.iconst 0, 1) := by decide +kernel
theorem dX3_drifts_9 : decode cX3_drifts 9 = .ok (.istore_n 2, 1) := by decide +kernel
theorem dX3_drifts_10 : decode cX3_drifts 10 = .ok (.iload_n 2, 1) := by decide +kernel
theorem dX3_drifts_11 : decode cX3_drifts 11 = .ok (.iconst 3, 1) := by decide +kernel
theorem dX3_drifts_12 : decode cX3_drifts 12 = .ok (.if_icmp .ge 59, 3) := by decide +kernel
theorem dX3_drifts_15 : decode cX3_drifts 15 = .ok (.aload_n 0, 1) := by decide +kernel
theorem dX3_drifts_16 : decode cX3_drifts 16 = .ok (.iload_n 1, 1) := by decide +kernel
theorem dX3_drifts_17 : decode cX3_drifts 17 = .ok (.iconst 4, 1) := by decide +kernel
theorem dX3_drifts_18 : decode cX3_drifts 18 = .ok (.iload_n 2, 1) := by decide +kernel
theorem dX3_drifts_19 : decode cX3_drifts 19 = .ok (.iadd, 1) := by decide +kernel
theorem dX3_drifts_20 : decode cX3_drifts 20 = .ok (.aload_n 0, 1) := by decide +kernel
theorem dX3_drifts_21 : decode cX3_drifts 21 = .ok (.iload_n 1, 1) := by decide +kernel
theorem dX3_drifts_22 : decode cX3_drifts 22 = .ok (.bipush 7, 2) := by decide +kernel
theorem dX3_drifts_24 : decode cX3_drifts 24 = .ok (.iload_n 2, 1) := by decide +kernel
theorem dX3_drifts_25 : decode cX3_drifts 25 = .ok (.iadd, 1) := by decide +kernel
theorem dX3_drifts_26 : decode cX3_drifts 26 = .ok (.invokevirtual 52, 3) := by decide +kernel
theorem dX3_drifts_29 : decode cX3_drifts 29 = .ok (.iconst 1, 1) := by decide +kernel
theorem dX3_drifts_30 : decode cX3_drifts 30 = .ok (.if_icmp .ne 14, 3) := by decide +kernel
theorem dX3_drifts_33 : decode cX3_drifts 33 = .ok (.aload_n 0, 1) := by decide +kernel
theorem dX3_drifts_34 : decode cX3_drifts 34 = .ok (.iload_n 1, 1) := by decide +kernel
theorem dX3_drifts_35 : decode cX3_drifts 35 = .ok (.iconst 4, 1) := by decide +kernel
theorem dX3_drifts_36 : decode cX3_drifts 36 = .ok (.iload_n 2, 1) := by decide +kernel
theorem dX3_drifts_37 : decode cX3_drifts 37 = .ok (.iadd, 1) := by decide +kernel
theorem dX3_drifts_38 : decode cX3_drifts 38 = .ok (.invokevirtual 52, 3) := by decide +kernel
theorem dX3_drifts_41 : decode cX3_drifts 41 = .ok (.goto 21, 3) := by decide +kernel
theorem dX3_drifts_44 : decode cX3_drifts 44 = .ok (.aload_n 0, 1) := by decide +kernel
theorem dX3_drifts_45 : decode cX3_drifts 45 = .ok (.aload_n 0, 1) := by decide +kernel
theorem dX3_drifts_46 : decode cX3_drifts 46 = .ok (.iload_n 1, 1) := by decide +kernel
theorem dX3_drifts_47 : decode cX3_drifts 47 = .ok (.iconst 4, 1) := by decide +kernel
theorem dX3_drifts_48 : decode cX3_drifts 48 = .ok (.iload_n 2, 1) := by decide +kernel
theorem dX3_drifts_49 : decode cX3_drifts 49 = .ok (.iadd, 1) := by decide +kernel
theorem dX3_drifts_50 : decode cX3_drifts 50 = .ok (.invokevirtual 52, 3) := by decide +kernel
theorem dX3_drifts_53 : decode cX3_drifts 53 = .ok (.aload_n 0, 1) := by decide +kernel
theorem dX3_drifts_54 : decode cX3_drifts 54 = .ok (.iload_n 1, 1) := by decide +kernel
theorem dX3_drifts_55 : decode cX3_drifts 55 = .ok (.iconst 0, 1) := by decide +kernel
theorem dX3_drifts_56 : decode cX3_drifts 56 = .ok (.invokevirtual 52, 3) := by decide +kernel
theorem dX3_drifts_59 : decode cX3_drifts 59 = .ok (.invokevirtual 102, 3) := by decide +kernel
theorem dX3_drifts_62 : decode cX3_drifts 62 = .ok (.invokevirtual 28, 3) := by decide +kernel
theorem dX3_drifts_65 : decode cX3_drifts 65 = .ok (.iinc 2 1, 3) := by decide +kernel
theorem dX3_drifts_68 : decode cX3_drifts 68 = .ok (.goto (-58), 3) := by decide +kernel
theorem dX3_drifts_71 : decode cX3_drifts 71 = .ok (.iconst 0, 1) := by decide +kernel
theorem dX3_drifts_72 : decode cX3_drifts 72 = .ok (.istore_n 2, 1) := by decide +kernel
theorem dX3_drifts_73 : decode cX3_drifts 73 = .ok (.iload_n 2, 1) := by decide +kernel
theorem dX3_drifts_74 : decode cX3_drifts 74 = .ok (.bipush 8, 2) := by decide +kernel
theorem dX3_drifts_76 : decode cX3_drifts 76 = .ok (.if_icmp .ge 33, 3) := by decide +kernel
theorem dX3_drifts_79 : decode cX3_drifts 79 = .ok (.aload_n 0, 1) := by decide +kernel
theorem dX3_drifts_80 : decode cX3_drifts 80 = .ok (.iload_n 1, 1) := by decide +kernel
theorem dX3_drifts_81 : decode cX3_drifts 81 = .ok (.iload_n 2, 1) := by decide +kernel
theorem dX3_drifts_82 : decode cX3_drifts 82 = .ok (.iconst 1, 1) := by decide +kernel
theorem dX3_drifts_83 : decode cX3_drifts 83 = .ok (.aload_n 0, 1) := by decide +kernel
theorem dX3_drifts_84 : decode cX3_drifts 84 = .ok (.aload_n 0, 1) := by decide +kernel
theorem dX3_drifts_85 : decode cX3_drifts 85 = .ok (.iload_n 1, 1) := by decide +kernel
theorem dX3_drifts_86 : decode cX3_drifts 86 = .ok (.iload_n 2, 1) := by decide +kernel
theorem dX3_drifts_87 : decode cX3_drifts 87 = .ok (.iconst 1, 1) := by decide +kernel
theorem dX3_drifts_88 : decode cX3_drifts 88 = .ok (.invokevirtual 56, 3) := by decide +kernel
theorem dX3_drifts_91 : decode cX3_drifts 91 = .ok (.aload_n 0, 1) := by decide +kernel
theorem dX3_drifts_92 : decode cX3_drifts 92 = .ok (.iload_n 1, 1) := by decide +kernel
theorem dX3_drifts_93 : decode cX3_drifts 93 = .ok (.iconst 0, 1) := by decide +kernel
theorem dX3_drifts_94 : decode cX3_drifts 94 = .ok (.invokevirtual 52, 3) := by decide +kernel
theorem dX3_drifts_97 : decode cX3_drifts 97 = .ok (.invokevirtual 102, 3) := by decide +kernel
theorem dX3_drifts_100 : decode cX3_drifts 100 = .ok (.invokevirtual 59, 3) := by decide +kernel
theorem dX3_drifts_103 : decode cX3_drifts 103 = .ok (.iinc 2 1, 3) := by decide +kernel
theorem dX3_drifts_106 : decode cX3_drifts 106 = .ok (.goto (-33), 3) := by decide +kernel
theorem dX3_drifts_109 : decode cX3_drifts 109 = .ok (.iinc 1 1, 3) := by decide +kernel
theorem dX3_drifts_112 : decode cX3_drifts 112 = .ok (.goto (-110), 3) := by decide +kernel
theorem dX3_drifts_115 : decode cX3_drifts 115 = .ok (.aload_n 0, 1) := by decide +kernel
theorem dX3_drifts_116 : decode cX3_drifts 116 = .ok (.getfield 7, 3) := by decide +kernel
theorem dX3_drifts_119 : decode cX3_drifts 119 = .ok (.iconst 0, 1) := by decide +kernel
theorem dX3_drifts_120 : decode cX3_drifts 120 = .ok (.dup2, 1) := by decide +kernel
theorem dX3_drifts_121 : decode cX3_drifts 121 = .ok (.iaload, 1) := by decide +kernel
theorem dX3_drifts_122 : decode cX3_drifts 122 = .ok (.iconst 1, 1) := by decide +kernel
theorem dX3_drifts_123 : decode cX3_drifts 123 = .ok (.iadd, 1) := by decide +kernel
theorem dX3_drifts_124 : decode cX3_drifts 124 = .ok (.iastore, 1) := by decide +kernel
theorem dX3_drifts_125 : decode cX3_drifts 125 = .ok (.return_, 1) := by decide +kernel
theorem dX3_ageOf_0 : decode cX3_ageOf 0 = .ok (.aload_n 0, 1) := by decide +kernel
theorem dX3_ageOf_1 : decode cX3_ageOf 1 = .ok (.getfield 7, 3) := by decide +kernel
theorem dX3_ageOf_4 : decode cX3_ageOf 4 = .ok (.iconst 0, 1) := by decide +kernel
theorem dX3_ageOf_5 : decode cX3_ageOf 5 = .ok (.iaload, 1) := by decide +kernel
theorem dX3_ageOf_6 : decode cX3_ageOf 6 = .ok (.aload_n 0, 1) := by decide +kernel
theorem dX3_ageOf_7 : decode cX3_ageOf 7 = .ok (.iload_n 1, 1) := by decide +kernel
theorem dX3_ageOf_8 : decode cX3_ageOf 8 = .ok (.iconst 1, 1) := by decide +kernel
theorem dX3_ageOf_9 : decode cX3_ageOf 9 = .ok (.invokevirtual 52, 3) := by decide +kernel
theorem dX3_ageOf_12 : decode cX3_ageOf 12 = .ok (.isub, 1) := by decide +kernel
theorem dX3_ageOf_13 : decode cX3_ageOf 13 = .ok (.ireturn, 1) := by decide +kernel
theorem dX3_endsDay_0 : decode cX3_endsDay 0 = .ok (.iconst 0, 1) := by decide +kernel
theorem dX3_endsDay_1 : decode cX3_endsDay 1 = .ok (.istore_n 1, 1) := by decide +kernel
theorem dX3_endsDay_2 : decode cX3_endsDay 2 = .ok (.aload_n 0, 1) := by decide +kernel
theorem dX3_endsDay_3 : decode cX3_endsDay 3 = .ok (.invokevirtual 105, 3) := by decide +kernel
theorem dX3_endsDay_6 : decode cX3_endsDay 6 = .ok (.iconst 0, 1) := by decide +kernel
theorem dX3_endsDay_7 : decode cX3_endsDay 7 = .ok (.istore_n 2, 1) := by decide +kernel
theorem dX3_endsDay_8 : decode cX3_endsDay 8 = .ok (.iload_n 2, 1) := by decide +kernel
theorem dX3_endsDay_9 : decode cX3_endsDay 9 = .ok (.bipush 6, 2) := by decide +kernel
theorem dX3_endsDay_11 : decode cX3_endsDay 11 = .ok (.if_icmp .ge 44, 3) := by decide +kernel
theorem dX3_endsDay_14 : decode cX3_endsDay 14 = .ok (.iload_n 1, 1) := by decide +kernel
theorem dX3_endsDay_15 : decode cX3_endsDay 15 = .ok (.aload_n 0, 1) := by decide +kernel
theorem dX3_endsDay_16 : decode cX3_endsDay 16 = .ok (.getfield 7, 3) := by decide +kernel
theorem dX3_endsDay_19 : decode cX3_endsDay 19 = .ok (.iconst 3, 1) := by decide +kernel
theorem dX3_endsDay_20 : decode cX3_endsDay 20 = .ok (.iaload, 1) := by decide +kernel
theorem dX3_endsDay_21 : decode cX3_endsDay 21 = .ok (.ifCond .le 25, 3) := by decide +kernel
theorem dX3_endsDay_24 : decode cX3_endsDay 24 = .ok (.aload_n 0, 1) := by decide +kernel
theorem dX3_endsDay_25 : decode cX3_endsDay 25 = .ok (.iload_n 2, 1) := by decide +kernel
theorem dX3_endsDay_26 : decode cX3_endsDay 26 = .ok (.invokevirtual 108, 3) := by decide +kernel
theorem dX3_endsDay_29 : decode cX3_endsDay 29 = .ok (.aload_n 0, 1) := by decide +kernel
theorem dX3_endsDay_30 : decode cX3_endsDay 30 = .ok (.getfield 7, 3) := by decide +kernel
theorem dX3_endsDay_33 : decode cX3_endsDay 33 = .ok (.iconst 3, 1) := by decide +kernel
theorem dX3_endsDay_34 : decode cX3_endsDay 34 = .ok (.iaload, 1) := by decide +kernel
theorem dX3_endsDay_35 : decode cX3_endsDay 35 = .ok (.if_icmp .lt 11, 3) := by decide +kernel
theorem dX3_endsDay_38 : decode cX3_endsDay 38 = .ok (.aload_n 0, 1) := by decide +kernel
theorem dX3_endsDay_39 : decode cX3_endsDay 39 = .ok (.iload_n 2, 1) := by decide +kernel
theorem dX3_endsDay_40 : decode cX3_endsDay 40 = .ok (.invokevirtual 111, 3) := by decide +kernel
theorem dX3_endsDay_43 : decode cX3_endsDay 43 = .ok (.goto 4, 3) := by decide +kernel
theorem dX3_endsDay_46 : decode cX3_endsDay 46 = .ok (.iconst 0, 1) := by decide +kernel
theorem dX3_endsDay_47 : decode cX3_endsDay 47 = .ok (.iadd, 1) := by decide +kernel
theorem dX3_endsDay_48 : decode cX3_endsDay 48 = .ok (.istore_n 1, 1) := by decide +kernel
theorem dX3_endsDay_49 : decode cX3_endsDay 49 = .ok (.iinc 2 1, 3) := by decide +kernel
theorem dX3_endsDay_52 : decode cX3_endsDay 52 = .ok (.goto (-44), 3) := by decide +kernel
theorem dX3_endsDay_55 : decode cX3_endsDay 55 = .ok (.iload_n 1, 1) := by decide +kernel
theorem dX3_endsDay_56 : decode cX3_endsDay 56 = .ok (.ireturn, 1) := by decide +kernel
theorem dX3_endsDays_0 : decode cX3_endsDays 0 = .ok (.iconst 0, 1) := by decide +kernel
theorem dX3_endsDays_1 : decode cX3_endsDays 1 = .ok (.istore_n 2, 1) := by decide +kernel
theorem dX3_endsDays_2 : decode cX3_endsDays 2 = .ok (.iconst 0, 1) := by decide +kernel
theorem dX3_endsDays_3 : decode cX3_endsDays 3 = .ok (.istore_n 3, 1) := by decide +kernel
theorem dX3_endsDays_4 : decode cX3_endsDays 4 = .ok (.iload_n 3, 1) := by decide +kernel
theorem dX3_endsDays_5 : decode cX3_endsDays 5 = .ok (.iload_n 1, 1) := by decide +kernel
theorem dX3_endsDays_6 : decode cX3_endsDays 6 = .ok (.if_icmp .ge 16, 3) := by decide +kernel
theorem dX3_endsDays_9 : decode cX3_endsDays 9 = .ok (.iload_n 2, 1) := by decide +kernel
theorem dX3_endsDays_10 : decode cX3_endsDays 10 = .ok (.aload_n 0, 1) := by decide +kernel
theorem dX3_endsDays_11 : decode cX3_endsDays 11 = .ok (.invokevirtual 114, 3) := by decide +kernel
theorem dX3_endsDays_14 : decode cX3_endsDays 14 = .ok (.iadd, 1) := by decide +kernel
theorem dX3_endsDays_15 : decode cX3_endsDays 15 = .ok (.istore_n 2, 1) := by decide +kernel
theorem dX3_endsDays_16 : decode cX3_endsDays 16 = .ok (.iinc 3 1, 3) := by decide +kernel
theorem dX3_endsDays_19 : decode cX3_endsDays 19 = .ok (.goto (-15), 3) := by decide +kernel
theorem dX3_endsDays_22 : decode cX3_endsDays 22 = .ok (.iload_n 2, 1) := by decide +kernel
theorem dX3_endsDays_23 : decode cX3_endsDays 23 = .ok (.ireturn, 1) := by decide +kernel
theorem dX3_errorWrite_0 : decode cX3_errorWrite 0 = .ok (.iload_n 0, 1) := by decide +kernel
theorem dX3_errorWrite_1 : decode cX3_errorWrite 1 = .ok (.invokestatic 67, 3) := by decide +kernel
theorem dX3_errorWrite_4 : decode cX3_errorWrite 4 = .ok (.ifCond .eq 21, 3) := by decide +kernel
theorem dX3_errorWrite_7 : decode cX3_errorWrite 7 = .ok (.iload_n 1, 1) := by decide +kernel
theorem dX3_errorWrite_8 : decode cX3_errorWrite 8 = .ok (.invokestatic 118, 3) := by decide +kernel
theorem dX3_errorWrite_11 : decode cX3_errorWrite 11 = .ok (.ifCond .eq 14, 3) := by decide +kernel
theorem dX3_errorWrite_14 : decode cX3_errorWrite 14 = .ok (.iload_n 2, 1) := by decide +kernel
theorem dX3_errorWrite_15 : decode cX3_errorWrite 15 = .ok (.invokestatic 121, 3) := by decide +kernel
theorem dX3_errorWrite_18 : decode cX3_errorWrite 18 = .ok (.ifCond .eq 7, 3) := by decide +kernel
theorem dX3_errorWrite_21 : decode cX3_errorWrite 21 = .ok (.iconst 0, 1) := by decide +kernel
theorem dX3_errorWrite_22 : decode cX3_errorWrite 22 = .ok (.goto 5, 3) := by decide +kernel
theorem dX3_errorWrite_25 : decode cX3_errorWrite 25 = .ok (.ldc 124, 2) := by decide +kernel
theorem dX3_errorWrite_27 : decode cX3_errorWrite 27 = .ok (.ireturn, 1) := by decide +kernel
theorem dX3_errorFail_0 : decode cX3_errorFail 0 = .ok (.iload_n 1, 1) := by decide +kernel
theorem dX3_errorFail_1 : decode cX3_errorFail 1 = .ok (.invokestatic 67, 3) := by decide +kernel
theorem dX3_errorFail_4 : decode cX3_errorFail 4 = .ok (.ifCond .eq 21, 3) := by decide +kernel
theorem dX3_errorFail_7 : decode cX3_errorFail 7 = .ok (.iload_n 2, 1) := by decide +kernel
theorem dX3_errorFail_8 : decode cX3_errorFail 8 = .ok (.invokestatic 121, 3) := by decide +kernel
theorem dX3_errorFail_11 : decode cX3_errorFail 11 = .ok (.ifCond .eq 14, 3) := by decide +kernel
theorem dX3_errorFail_14 : decode cX3_errorFail 14 = .ok (.iload_n 3, 1) := by decide +kernel
theorem dX3_errorFail_15 : decode cX3_errorFail 15 = .ok (.iconst 0, 1) := by decide +kernel
theorem dX3_errorFail_16 : decode cX3_errorFail 16 = .ok (.sipush 999, 3) := by decide +kernel
theorem dX3_errorFail_19 : decode cX3_errorFail 19 = .ok (.invokestatic 48, 3) := by decide +kernel
theorem dX3_errorFail_22 : decode cX3_errorFail 22 = .ok (.ifCond .ne 8, 3) := by decide +kernel
theorem dX3_errorFail_25 : decode cX3_errorFail 25 = .ok (.ldc 124, 2) := by decide +kernel
theorem dX3_errorFail_27 : decode cX3_errorFail 27 = .ok (.goto 22, 3) := by decide +kernel
theorem dX3_errorFail_30 : decode cX3_errorFail 30 = .ok (.aload_n 0, 1) := by decide +kernel
theorem dX3_errorFail_31 : decode cX3_errorFail 31 = .ok (.iload_n 1, 1) := by decide +kernel
theorem dX3_errorFail_32 : decode cX3_errorFail 32 = .ok (.bipush 7, 2) := by decide +kernel
theorem dX3_errorFail_34 : decode cX3_errorFail 34 = .ok (.iload_n 2, 1) := by decide +kernel
theorem dX3_errorFail_35 : decode cX3_errorFail 35 = .ok (.iadd, 1) := by decide +kernel
theorem dX3_errorFail_36 : decode cX3_errorFail 36 = .ok (.invokevirtual 52, 3) := by decide +kernel
theorem dX3_errorFail_39 : decode cX3_errorFail 39 = .ok (.iconst 1, 1) := by decide +kernel
theorem dX3_errorFail_40 : decode cX3_errorFail 40 = .ok (.if_icmp .ne 8, 3) := by decide +kernel
theorem dX3_errorFail_43 : decode cX3_errorFail 43 = .ok (.ldc 125, 2) := by decide +kernel
theorem dX3_errorFail_45 : decode cX3_errorFail 45 = .ok (.goto 4, 3) := by decide +kernel
theorem dX3_errorFail_48 : decode cX3_errorFail 48 = .ok (.iconst 0, 1) := by decide +kernel
theorem dX3_errorFail_49 : decode cX3_errorFail 49 = .ok (.ireturn, 1) := by decide +kernel
theorem dX3_errorMend_0 : decode cX3_errorMend 0 = .ok (.iload_n 1, 1) := by decide +kernel
theorem dX3_errorMend_1 : decode cX3_errorMend 1 = .ok (.invokestatic 67, 3) := by decide +kernel
theorem dX3_errorMend_4 : decode cX3_errorMend 4 = .ok (.ifCond .eq 10, 3) := by decide +kernel
theorem dX3_errorMend_7 : decode cX3_errorMend 7 = .ok (.iload_n 2, 1) := by decide +kernel
theorem dX3_errorMend_8 : decode cX3_errorMend 8 = .ok (.invokestatic 121, 3) := by decide +kernel
theorem dX3_errorMend_11 : decode cX3_errorMend 11 = .ok (.ifCond .ne 8, 3) := by decide +kernel
theorem dX3_errorMend_14 : decode cX3_errorMend 14 = .ok (.ldc 124, 2) := by decide +kernel
theorem dX3_errorMend_16 : decode cX3_errorMend 16 = .ok (.goto 21, 3) := by decide +kernel
theorem dX3_errorMend_19 : decode cX3_errorMend 19 = .ok (.aload_n 0, 1) := by decide +kernel
theorem dX3_errorMend_20 : decode cX3_errorMend 20 = .ok (.iload_n 1, 1) := by decide +kernel
theorem dX3_errorMend_21 : decode cX3_errorMend 21 = .ok (.bipush 7, 2) := by decide +kernel
theorem dX3_errorMend_23 : decode cX3_errorMend 23 = .ok (.iload_n 2, 1) := by decide +kernel
theorem dX3_errorMend_24 : decode cX3_errorMend 24 = .ok (.iadd, 1) := by decide +kernel
theorem dX3_errorMend_25 : decode cX3_errorMend 25 = .ok (.invokevirtual 52, 3) := by decide +kernel
theorem dX3_errorMend_28 : decode cX3_errorMend 28 = .ok (.ifCond .ne 8, 3) := by decide +kernel
theorem dX3_errorMend_31 : decode cX3_errorMend 31 = .ok (.ldc 125, 2) := by decide +kernel
theorem dX3_errorMend_33 : decode cX3_errorMend 33 = .ok (.goto 4, 3) := by decide +kernel
theorem dX3_errorMend_36 : decode cX3_errorMend 36 = .ok (.iconst 0, 1) := by decide +kernel
theorem dX3_errorMend_37 : decode cX3_errorMend 37 = .ok (.ireturn, 1) := by decide +kernel
theorem dX3_errorRate_0 : decode cX3_errorRate 0 = .ok (.iload_n 0, 1) := by decide +kernel
theorem dX3_errorRate_1 : decode cX3_errorRate 1 = .ok (.invokestatic 67, 3) := by decide +kernel
theorem dX3_errorRate_4 : decode cX3_errorRate 4 = .ok (.ifCond .eq 18, 3) := by decide +kernel
theorem dX3_errorRate_7 : decode cX3_errorRate 7 = .ok (.iload_n 1, 1) := by decide +kernel
theorem dX3_errorRate_8 : decode cX3_errorRate 8 = .ok (.iconst 1, 1) := by decide +kernel
theorem dX3_errorRate_9 : decode cX3_errorRate 9 = .ok (.sipush 200, 3) := by decide +kernel
theorem dX3_errorRate_12 : decode cX3_errorRate 12 = .ok (.invokestatic 48, 3) := by decide +kernel
theorem dX3_errorRate_15 : decode cX3_errorRate 15 = .ok (.ifCond .eq 7, 3) := by decide +kernel
theorem dX3_errorRate_18 : decode cX3_errorRate 18 = .ok (.iconst 0, 1) := by decide +kernel
theorem dX3_errorRate_19 : decode cX3_errorRate 19 = .ok (.goto 5, 3) := by decide +kernel
theorem dX3_errorRate_22 : decode cX3_errorRate 22 = .ok (.ldc 124, 2) := by decide +kernel
theorem dX3_errorRate_24 : decode cX3_errorRate 24 = .ok (.ireturn, 1) := by decide +kernel
theorem dX3_errorDays_0 : decode cX3_errorDays 0 = .ok (.iload_n 1, 1) := by decide +kernel
theorem dX3_errorDays_1 : decode cX3_errorDays 1 = .ok (.iconst 1, 1) := by decide +kernel
theorem dX3_errorDays_2 : decode cX3_errorDays 2 = .ok (.bipush 99, 2) := by decide +kernel
theorem dX3_errorDays_4 : decode cX3_errorDays 4 = .ok (.invokestatic 48, 3) := by decide +kernel
theorem dX3_errorDays_7 : decode cX3_errorDays 7 = .ok (.ifCond .ne 8, 3) := by decide +kernel
theorem dX3_errorDays_10 : decode cX3_errorDays 10 = .ok (.ldc 124, 2) := by decide +kernel
theorem dX3_errorDays_12 : decode cX3_errorDays 12 = .ok (.goto 23, 3) := by decide +kernel
theorem dX3_errorDays_15 : decode cX3_errorDays 15 = .ok (.aload_n 0, 1) := by decide +kernel
theorem dX3_errorDays_16 : decode cX3_errorDays 16 = .ok (.getfield 7, 3) := by decide +kernel
theorem dX3_errorDays_19 : decode cX3_errorDays 19 = .ok (.iconst 0, 1) := by decide +kernel
theorem dX3_errorDays_20 : decode cX3_errorDays 20 = .ok (.iaload, 1) := by decide +kernel
theorem dX3_errorDays_21 : decode cX3_errorDays 21 = .ok (.iload_n 1, 1) := by decide +kernel
theorem dX3_errorDays_22 : decode cX3_errorDays 22 = .ok (.iadd, 1) := by decide +kernel
theorem dX3_errorDays_23 : decode cX3_errorDays 23 = .ok (.sipush 9999, 3) := by decide +kernel
theorem dX3_errorDays_26 : decode cX3_errorDays 26 = .ok (.if_icmp .le 8, 3) := by decide +kernel
theorem dX3_errorDays_29 : decode cX3_errorDays 29 = .ok (.ldc 126, 2) := by decide +kernel
theorem dX3_errorDays_31 : decode cX3_errorDays 31 = .ok (.goto 4, 3) := by decide +kernel
theorem dX3_errorDays_34 : decode cX3_errorDays 34 = .ok (.iconst 0, 1) := by decide +kernel
theorem dX3_errorDays_35 : decode cX3_errorDays 35 = .ok (.ireturn, 1) := by decide +kernel
theorem dX3_goFail_0 : decode cX3_goFail 0 = .ok (.aload_n 0, 1) := by decide +kernel
theorem dX3_goFail_1 : decode cX3_goFail 1 = .ok (.iload_n 1, 1) := by decide +kernel
theorem dX3_goFail_2 : decode cX3_goFail 2 = .ok (.iconst 4, 1) := by decide +kernel
theorem dX3_goFail_3 : decode cX3_goFail 3 = .ok (.iload_n 2, 1) := by decide +kernel
theorem dX3_goFail_4 : decode cX3_goFail 4 = .ok (.iadd, 1) := by decide +kernel
theorem dX3_goFail_5 : decode cX3_goFail 5 = .ok (.iload_n 3, 1) := by decide +kernel
theorem dX3_goFail_6 : decode cX3_goFail 6 = .ok (.invokevirtual 28, 3) := by decide +kernel
theorem dX3_goFail_9 : decode cX3_goFail 9 = .ok (.aload_n 0, 1) := by decide +kernel
theorem dX3_goFail_10 : decode cX3_goFail 10 = .ok (.iload_n 1, 1) := by decide +kernel
theorem dX3_goFail_11 : decode cX3_goFail 11 = .ok (.bipush 7, 2) := by decide +kernel
theorem dX3_goFail_13 : decode cX3_goFail 13 = .ok (.iload_n 2, 1) := by decide +kernel
theorem dX3_goFail_14 : decode cX3_goFail 14 = .ok (.iadd, 1) := by decide +kernel
theorem dX3_goFail_15 : decode cX3_goFail 15 = .ok (.iconst 1, 1) := by decide +kernel
theorem dX3_goFail_16 : decode cX3_goFail 16 = .ok (.invokevirtual 28, 3) := by decide +kernel
theorem dX3_goFail_19 : decode cX3_goFail 19 = .ok (.return_, 1) := by decide +kernel
theorem dX3_write_0 : decode cX3_write 0 = .ok (.iload_n 1, 1) := by decide +kernel
theorem dX3_write_1 : decode cX3_write 1 = .ok (.iload_n 2, 1) := by decide +kernel
theorem dX3_write_2 : decode cX3_write 2 = .ok (.iload_n 3, 1) := by decide +kernel
theorem dX3_write_3 : decode cX3_write 3 = .ok (.invokestatic 127, 3) := by decide +kernel
theorem dX3_write_6 : decode cX3_write 6 = .ok (.istore 4, 2) := by decide +kernel
theorem dX3_write_8 : decode cX3_write 8 = .ok (.iload 4, 2) := by decide +kernel
theorem dX3_write_10 : decode cX3_write 10 = .ok (.ifCond .ge 6, 3) := by decide +kernel
theorem dX3_write_13 : decode cX3_write 13 = .ok (.iload 4, 2) := by decide +kernel
theorem dX3_write_15 : decode cX3_write 15 = .ok (.ireturn, 1) := by decide +kernel
theorem dX3_write_16 : decode cX3_write 16 = .ok (.aload_n 0, 1) := by decide +kernel
theorem dX3_write_17 : decode cX3_write 17 = .ok (.invokevirtual 130, 3) := by decide +kernel
theorem dX3_write_20 : decode cX3_write 20 = .ok (.aload_n 0, 1) := by decide +kernel
theorem dX3_write_21 : decode cX3_write 21 = .ok (.iload_n 1, 1) := by decide +kernel
theorem dX3_write_22 : decode cX3_write 22 = .ok (.iload_n 2, 1) := by decide +kernel
theorem dX3_write_23 : decode cX3_write 23 = .ok (.iload_n 3, 1) := by decide +kernel
theorem dX3_write_24 : decode cX3_write 24 = .ok (.invokevirtual 36, 3) := by decide +kernel
theorem dX3_write_27 : decode cX3_write 27 = .ok (.ireturn, 1) := by decide +kernel
theorem dX3_fill_0 : decode cX3_fill 0 = .ok (.iload_n 1, 1) := by decide +kernel
theorem dX3_fill_1 : decode cX3_fill 1 = .ok (.invokestatic 67, 3) := by decide +kernel
theorem dX3_fill_4 : decode cX3_fill 4 = .ok (.ifCond .eq 14, 3) := by decide +kernel
theorem dX3_fill_7 : decode cX3_fill 7 = .ok (.iload_n 2, 1) := by decide +kernel
theorem dX3_fill_8 : decode cX3_fill 8 = .ok (.iconst 0, 1) := by decide +kernel
theorem dX3_fill_9 : decode cX3_fill 9 = .ok (.sipush 6560, 3) := by decide +kernel
theorem dX3_fill_12 : decode cX3_fill 12 = .ok (.invokestatic 48, 3) := by decide +kernel
theorem dX3_fill_15 : decode cX3_fill 15 = .ok (.ifCond .ne 6, 3) := by decide +kernel
theorem dX3_fill_18 : decode cX3_fill 18 = .ok (.ldc 124, 2) := by decide +kernel
theorem dX3_fill_20 : decode cX3_fill 20 = .ok (.ireturn, 1) := by decide +kernel
theorem dX3_fill_21 : decode cX3_fill 21 = .ok (.aload_n 0, 1) := by decide +kernel
theorem dX3_fill_22 : decode cX3_fill 22 = .ok (.invokevirtual 130, 3) := by decide +kernel
theorem dX3_fill_25 : decode cX3_fill 25 = .ok (.aload_n 0, 1) := by decide +kernel
theorem dX3_fill_26 : decode cX3_fill 26 = .ok (.iload_n 1, 1) := by decide +kernel
theorem dX3_fill_27 : decode cX3_fill 27 = .ok (.invokevirtual 92, 3) := by decide +kernel
theorem dX3_fill_30 : decode cX3_fill 30 = .ok (.istore_n 3, 1) := by decide +kernel
theorem dX3_fill_31 : decode cX3_fill 31 = .ok (.aload_n 0, 1) := by decide +kernel
theorem dX3_fill_32 : decode cX3_fill 32 = .ok (.iload_n 1, 1) := by decide +kernel
theorem dX3_fill_33 : decode cX3_fill 33 = .ok (.iload_n 2, 1) := by decide +kernel
theorem dX3_fill_34 : decode cX3_fill 34 = .ok (.invokevirtual 95, 3) := by decide +kernel
theorem dX3_fill_37 : decode cX3_fill 37 = .ok (.iload_n 3, 1) := by decide +kernel
theorem dX3_fill_38 : decode cX3_fill 38 = .ok (.ireturn, 1) := by decide +kernel
theorem dX3_anew_0 : decode cX3_anew 0 = .ok (.iload_n 1, 1) := by decide +kernel
theorem dX3_anew_1 : decode cX3_anew 1 = .ok (.invokestatic 67, 3) := by decide +kernel
theorem dX3_anew_4 : decode cX3_anew 4 = .ok (.ifCond .ne 6, 3) := by decide +kernel
theorem dX3_anew_7 : decode cX3_anew 7 = .ok (.ldc 124, 2) := by decide +kernel
theorem dX3_anew_9 : decode cX3_anew 9 = .ok (.ireturn, 1) := by decide +kernel
theorem dX3_anew_10 : decode cX3_anew 10 = .ok (.aload_n 0, 1) := by decide +kernel
theorem dX3_anew_11 : decode cX3_anew 11 = .ok (.invokevirtual 130, 3) := by decide +kernel
theorem dX3_anew_14 : decode cX3_anew 14 = .ok (.aload_n 0, 1) := by decide +kernel
theorem dX3_anew_15 : decode cX3_anew 15 = .ok (.iload_n 1, 1) := by decide +kernel
theorem dX3_anew_16 : decode cX3_anew 16 = .ok (.invokevirtual 111, 3) := by decide +kernel
theorem dX3_anew_19 : decode cX3_anew 19 = .ok (.ireturn, 1) := by decide +kernel
theorem dX3_ask_0 : decode cX3_ask 0 = .ok (.iload_n 1, 1) := by decide +kernel
theorem dX3_ask_1 : decode cX3_ask 1 = .ok (.invokestatic 67, 3) := by decide +kernel
theorem dX3_ask_4 : decode cX3_ask 4 = .ok (.ifCond .eq 10, 3) := by decide +kernel
theorem dX3_ask_7 : decode cX3_ask 7 = .ok (.iload_n 2, 1) := by decide +kernel
theorem dX3_ask_8 : decode cX3_ask 8 = .ok (.invokestatic 118, 3) := by decide +kernel
theorem dX3_ask_11 : decode cX3_ask 11 = .ok (.ifCond .ne 6, 3) := by decide +kernel
theorem dX3_ask_14 : decode cX3_ask 14 = .ok (.ldc 124, 2) := by decide +kernel
theorem dX3_ask_16 : decode cX3_ask 16 = .ok (.ireturn, 1) := by decide +kernel
theorem dX3_ask_17 : decode cX3_ask 17 = .ok (.aload_n 0, 1) := by decide +kernel
theorem dX3_ask_18 : decode cX3_ask 18 = .ok (.invokevirtual 130, 3) := by decide +kernel
theorem dX3_ask_21 : decode cX3_ask 21 = .ok (.aload_n 0, 1) := by decide +kernel
theorem dX3_ask_22 : decode cX3_ask 22 = .ok (.iload_n 1, 1) := by decide +kernel
theorem dX3_ask_23 : decode cX3_ask 23 = .ok (.iload_n 2, 1) := by decide +kernel
theorem dX3_ask_24 : decode cX3_ask 24 = .ok (.invokevirtual 86, 3) := by decide +kernel
theorem dX3_ask_27 : decode cX3_ask 27 = .ok (.istore_n 3, 1) := by decide +kernel
theorem dX3_ask_28 : decode cX3_ask 28 = .ok (.aload_n 0, 1) := by decide +kernel
theorem dX3_ask_29 : decode cX3_ask 29 = .ok (.getfield 7, 3) := by decide +kernel
theorem dX3_ask_32 : decode cX3_ask 32 = .ok (.bipush 8, 2) := by decide +kernel
theorem dX3_ask_34 : decode cX3_ask 34 = .ok (.iconst 3, 1) := by decide +kernel
theorem dX3_ask_35 : decode cX3_ask 35 = .ok (.aload_n 0, 1) := by decide +kernel
theorem dX3_ask_36 : decode cX3_ask 36 = .ok (.iload_n 1, 1) := by decide +kernel
theorem dX3_ask_37 : decode cX3_ask 37 = .ok (.iload_n 2, 1) := by decide +kernel
theorem dX3_ask_38 : decode cX3_ask 38 = .ok (.iconst 0, 1) := by decide +kernel
theorem dX3_ask_39 : decode cX3_ask 39 = .ok (.invokevirtual 56, 3) := by decide +kernel
theorem dX3_ask_42 : decode cX3_ask 42 = .ok (.imul, 1) := by decide +kernel
theorem dX3_ask_43 : decode cX3_ask 43 = .ok (.iadd, 1) := by decide +kernel
theorem dX3_ask_44 : decode cX3_ask 44 = .ok (.iload_n 3, 1) := by decide +kernel
theorem dX3_ask_45 : decode cX3_ask 45 = .ok (.iadd, 1) := by decide +kernel
theorem dX3_ask_46 : decode cX3_ask 46 = .ok (.dup2, 1) := by decide +kernel
theorem dX3_ask_47 : decode cX3_ask 47 = .ok (.iaload, 1) := by decide +kernel
theorem dX3_ask_48 : decode cX3_ask 48 = .ok (.iconst 1, 1) := by decide +kernel
theorem dX3_ask_49 : decode cX3_ask 49 = .ok (.iadd, 1) := by decide +kernel
theorem dX3_ask_50 : decode cX3_ask 50 = .ok (.iastore, 1) := by decide +kernel
theorem dX3_ask_51 : decode cX3_ask 51 = .ok (.aload_n 0, 1) := by decide +kernel
theorem dX3_ask_52 : decode cX3_ask 52 = .ok (.getfield 7, 3) := by decide +kernel
theorem dX3_ask_55 : decode cX3_ask 55 = .ok (.bipush 7, 2) := by decide +kernel
theorem dX3_ask_57 : decode cX3_ask 57 = .ok (.dup2, 1) := by decide +kernel
theorem dX3_ask_58 : decode cX3_ask 58 = .ok (.iaload, 1) := by decide +kernel
theorem dX3_ask_59 : decode cX3_ask 59 = .ok (.iconst 1, 1) := by decide +kernel
theorem dX3_ask_60 : decode cX3_ask 60 = .ok (.iadd, 1) := by decide +kernel
theorem dX3_ask_61 : decode cX3_ask 61 = .ok (.iastore, 1) := by decide +kernel
theorem dX3_ask_62 : decode cX3_ask 62 = .ok (.iload_n 3, 1) := by decide +kernel
theorem dX3_ask_63 : decode cX3_ask 63 = .ok (.ireturn, 1) := by decide +kernel
theorem dX3_fail_0 : decode cX3_fail 0 = .ok (.aload_n 0, 1) := by decide +kernel
theorem dX3_fail_1 : decode cX3_fail 1 = .ok (.iload_n 1, 1) := by decide +kernel
theorem dX3_fail_2 : decode cX3_fail 2 = .ok (.iload_n 2, 1) := by decide +kernel
theorem dX3_fail_3 : decode cX3_fail 3 = .ok (.iload_n 3, 1) := by decide +kernel
theorem dX3_fail_4 : decode cX3_fail 4 = .ok (.invokevirtual 133, 3) := by decide +kernel
theorem dX3_fail_7 : decode cX3_fail 7 = .ok (.istore 4, 2) := by decide +kernel
theorem dX3_fail_9 : decode cX3_fail 9 = .ok (.iload 4, 2) := by decide +kernel
theorem dX3_fail_11 : decode cX3_fail 11 = .ok (.ifCond .ge 6, 3) := by decide +kernel
theorem dX3_fail_14 : decode cX3_fail 14 = .ok (.iload 4, 2) := by decide +kernel
theorem dX3_fail_16 : decode cX3_fail 16 = .ok (.ireturn, 1) := by decide +kernel
theorem dX3_fail_17 : decode cX3_fail 17 = .ok (.aload_n 0, 1) := by decide +kernel
theorem dX3_fail_18 : decode cX3_fail 18 = .ok (.invokevirtual 130, 3) := by decide +kernel
theorem dX3_fail_21 : decode cX3_fail 21 = .ok (.aload_n 0, 1) := by decide +kernel
theorem dX3_fail_22 : decode cX3_fail 22 = .ok (.iload_n 1, 1) := by decide +kernel
theorem dX3_fail_23 : decode cX3_fail 23 = .ok (.iconst 4, 1) := by decide +kernel
theorem dX3_fail_24 : decode cX3_fail 24 = .ok (.iload_n 2, 1) := by decide +kernel
theorem dX3_fail_25 : decode cX3_fail 25 = .ok (.iadd, 1) := by decide +kernel
theorem dX3_fail_26 : decode cX3_fail 26 = .ok (.invokevirtual 52, 3) := by decide +kernel
theorem dX3_fail_29 : decode cX3_fail 29 = .ok (.istore 5, 2) := by decide +kernel
theorem dX3_fail_31 : decode cX3_fail 31 = .ok (.aload_n 0, 1) := by decide +kernel
theorem dX3_fail_32 : decode cX3_fail 32 = .ok (.iload_n 1, 1) := by decide +kernel
theorem dX3_fail_33 : decode cX3_fail 33 = .ok (.iload_n 2, 1) := by decide +kernel
theorem dX3_fail_34 : decode cX3_fail 34 = .ok (.iload_n 3, 1) := by decide +kernel
theorem dX3_fail_35 : decode cX3_fail 35 = .ok (.invokevirtual 136, 3) := by decide +kernel
theorem dX3_fail_38 : decode cX3_fail 38 = .ok (.iload 5, 2) := by decide +kernel
theorem dX3_fail_40 : decode cX3_fail 40 = .ok (.ireturn, 1) := by decide +kernel
theorem dX3_mend_0 : decode cX3_mend 0 = .ok (.aload_n 0, 1) := by decide +kernel
theorem dX3_mend_1 : decode cX3_mend 1 = .ok (.iload_n 1, 1) := by decide +kernel
theorem dX3_mend_2 : decode cX3_mend 2 = .ok (.iload_n 2, 1) := by decide +kernel
theorem dX3_mend_3 : decode cX3_mend 3 = .ok (.invokevirtual 139, 3) := by decide +kernel
theorem dX3_mend_6 : decode cX3_mend 6 = .ok (.istore_n 3, 1) := by decide +kernel
theorem dX3_mend_7 : decode cX3_mend 7 = .ok (.iload_n 3, 1) := by decide +kernel
theorem dX3_mend_8 : decode cX3_mend 8 = .ok (.ifCond .ge 5, 3) := by decide +kernel
theorem dX3_mend_11 : decode cX3_mend 11 = .ok (.iload_n 3, 1) := by decide +kernel
theorem dX3_mend_12 : decode cX3_mend 12 = .ok (.ireturn, 1) := by decide +kernel
theorem dX3_mend_13 : decode cX3_mend 13 = .ok (.aload_n 0, 1) := by decide +kernel
theorem dX3_mend_14 : decode cX3_mend 14 = .ok (.invokevirtual 130, 3) := by decide +kernel
theorem dX3_mend_17 : decode cX3_mend 17 = .ok (.aload_n 0, 1) := by decide +kernel
theorem dX3_mend_18 : decode cX3_mend 18 = .ok (.iload_n 1, 1) := by decide +kernel
theorem dX3_mend_19 : decode cX3_mend 19 = .ok (.bipush 7, 2) := by decide +kernel
theorem dX3_mend_21 : decode cX3_mend 21 = .ok (.iload_n 2, 1) := by decide +kernel
theorem dX3_mend_22 : decode cX3_mend 22 = .ok (.iadd, 1) := by decide +kernel
theorem dX3_mend_23 : decode cX3_mend 23 = .ok (.iconst 0, 1) := by decide +kernel
theorem dX3_mend_24 : decode cX3_mend 24 = .ok (.invokevirtual 28, 3) := by decide +kernel
theorem dX3_mend_27 : decode cX3_mend 27 = .ok (.aload_n 0, 1) := by decide +kernel
theorem dX3_mend_28 : decode cX3_mend 28 = .ok (.iload_n 1, 1) := by decide +kernel
theorem dX3_mend_29 : decode cX3_mend 29 = .ok (.iconst 4, 1) := by decide +kernel
theorem dX3_mend_30 : decode cX3_mend 30 = .ok (.iload_n 2, 1) := by decide +kernel
theorem dX3_mend_31 : decode cX3_mend 31 = .ok (.iadd, 1) := by decide +kernel
theorem dX3_mend_32 : decode cX3_mend 32 = .ok (.invokevirtual 52, 3) := by decide +kernel
theorem dX3_mend_35 : decode cX3_mend 35 = .ok (.ireturn, 1) := by decide +kernel
theorem dX3_rate_0 : decode cX3_rate 0 = .ok (.iload_n 1, 1) := by decide +kernel
theorem dX3_rate_1 : decode cX3_rate 1 = .ok (.iload_n 2, 1) := by decide +kernel
theorem dX3_rate_2 : decode cX3_rate 2 = .ok (.invokestatic 142, 3) := by decide +kernel
theorem dX3_rate_5 : decode cX3_rate 5 = .ok (.istore_n 3, 1) := by decide +kernel
theorem dX3_rate_6 : decode cX3_rate 6 = .ok (.iload_n 3, 1) := by decide +kernel
theorem dX3_rate_7 : decode cX3_rate 7 = .ok (.ifCond .ge 5, 3) := by decide +kernel
theorem dX3_rate_10 : decode cX3_rate 10 = .ok (.iload_n 3, 1) := by decide +kernel
theorem dX3_rate_11 : decode cX3_rate 11 = .ok (.ireturn, 1) := by decide +kernel
theorem dX3_rate_12 : decode cX3_rate 12 = .ok (.aload_n 0, 1) := by decide +kernel
theorem dX3_rate_13 : decode cX3_rate 13 = .ok (.invokevirtual 130, 3) := by decide +kernel
theorem dX3_rate_16 : decode cX3_rate 16 = .ok (.aload_n 0, 1) := by decide +kernel
theorem dX3_rate_17 : decode cX3_rate 17 = .ok (.iload_n 1, 1) := by decide +kernel
theorem dX3_rate_18 : decode cX3_rate 18 = .ok (.iconst 0, 1) := by decide +kernel
theorem dX3_rate_19 : decode cX3_rate 19 = .ok (.invokevirtual 52, 3) := by decide +kernel
theorem dX3_rate_22 : decode cX3_rate 22 = .ok (.istore 4, 2) := by decide +kernel
theorem dX3_rate_24 : decode cX3_rate 24 = .ok (.aload_n 0, 1) := by decide +kernel
theorem dX3_rate_25 : decode cX3_rate 25 = .ok (.iload_n 1, 1) := by decide +kernel
theorem dX3_rate_26 : decode cX3_rate 26 = .ok (.iconst 0, 1) := by decide +kernel
theorem dX3_rate_27 : decode cX3_rate 27 = .ok (.iload_n 2, 1) := by decide +kernel
theorem dX3_rate_28 : decode cX3_rate 28 = .ok (.invokevirtual 28, 3) := by decide +kernel
theorem dX3_rate_31 : decode cX3_rate 31 = .ok (.iload 4, 2) := by decide +kernel
theorem dX3_rate_33 : decode cX3_rate 33 = .ok (.ireturn, 1) := by decide +kernel
theorem dX3_days_0 : decode cX3_days 0 = .ok (.aload_n 0, 1) := by decide +kernel
theorem dX3_days_1 : decode cX3_days 1 = .ok (.iload_n 1, 1) := by decide +kernel
theorem dX3_days_2 : decode cX3_days 2 = .ok (.invokevirtual 145, 3) := by decide +kernel
theorem dX3_days_5 : decode cX3_days 5 = .ok (.istore_n 2, 1) := by decide +kernel
theorem dX3_days_6 : decode cX3_days 6 = .ok (.iload_n 2, 1) := by decide +kernel
theorem dX3_days_7 : decode cX3_days 7 = .ok (.ifCond .ge 5, 3) := by decide +kernel
theorem dX3_days_10 : decode cX3_days 10 = .ok (.iload_n 2, 1) := by decide +kernel
theorem dX3_days_11 : decode cX3_days 11 = .ok (.ireturn, 1) := by decide +kernel
theorem dX3_days_12 : decode cX3_days 12 = .ok (.aload_n 0, 1) := by decide +kernel
theorem dX3_days_13 : decode cX3_days 13 = .ok (.invokevirtual 130, 3) := by decide +kernel
theorem dX3_days_16 : decode cX3_days 16 = .ok (.aload_n 0, 1) := by decide +kernel
theorem dX3_days_17 : decode cX3_days 17 = .ok (.iload_n 1, 1) := by decide +kernel
theorem dX3_days_18 : decode cX3_days 18 = .ok (.invokevirtual 148, 3) := by decide +kernel
theorem dX3_days_21 : decode cX3_days 21 = .ok (.ireturn, 1) := by decide +kernel
theorem dX3_set_0 : decode cX3_set 0 = .ok (.iload_n 1, 1) := by decide +kernel
theorem dX3_set_1 : decode cX3_set 1 = .ok (.invokestatic 121, 3) := by decide +kernel
theorem dX3_set_4 : decode cX3_set 4 = .ok (.ifCond .eq 53, 3) := by decide +kernel
theorem dX3_set_7 : decode cX3_set 7 = .ok (.iload_n 2, 1) := by decide +kernel
theorem dX3_set_8 : decode cX3_set 8 = .ok (.iload_n 1, 1) := by decide +kernel
theorem dX3_set_9 : decode cX3_set 9 = .ok (.ifCond .ne 9, 3) := by decide +kernel
theorem dX3_set_12 : decode cX3_set 12 = .ok (.sipush 300, 3) := by decide +kernel
theorem dX3_set_15 : decode cX3_set 15 = .ok (.goto 13, 3) := by decide +kernel
theorem dX3_set_18 : decode cX3_set 18 = .ok (.iload_n 1, 1) := by decide +kernel
theorem dX3_set_19 : decode cX3_set 19 = .ok (.iconst 1, 1) := by decide +kernel
theorem dX3_set_20 : decode cX3_set 20 = .ok (.if_icmp .ne 7, 3) := by decide +kernel
theorem dX3_set_23 : decode cX3_set 23 = .ok (.iconst 1, 1) := by decide +kernel
theorem dX3_set_24 : decode cX3_set 24 = .ok (.goto 4, 3) := by decide +kernel
theorem dX3_set_27 : decode cX3_set 27 = .ok (.iconst 0, 1) := by decide +kernel
theorem dX3_set_28 : decode cX3_set 28 = .ok (.iload_n 1, 1) := by decide +kernel
theorem dX3_set_29 : decode cX3_set 29 = .ok (.ifCond .ne 9, 3) := by decide +kernel
theorem dX3_set_32 : decode cX3_set 32 = .ok (.sipush 700, 3) := by decide +kernel
theorem dX3_set_35 : decode cX3_set 35 = .ok (.goto 16, 3) := by decide +kernel
theorem dX3_set_38 : decode cX3_set 38 = .ok (.iload_n 1, 1) := by decide +kernel
theorem dX3_set_39 : decode cX3_set 39 = .ok (.iconst 1, 1) := by decide +kernel
theorem dX3_set_40 : decode cX3_set 40 = .ok (.if_icmp .ne 9, 3) := by decide +kernel
theorem dX3_set_43 : decode cX3_set 43 = .ok (.sipush 300, 3) := by decide +kernel
theorem dX3_set_46 : decode cX3_set 46 = .ok (.goto 5, 3) := by decide +kernel
theorem dX3_set_49 : decode cX3_set 49 = .ok (.bipush 99, 2) := by decide +kernel
theorem dX3_set_51 : decode cX3_set 51 = .ok (.invokestatic 48, 3) := by decide +kernel
theorem dX3_set_54 : decode cX3_set 54 = .ok (.ifCond .ne 6, 3) := by decide +kernel
theorem dX3_set_57 : decode cX3_set 57 = .ok (.ldc 124, 2) := by decide +kernel
theorem dX3_set_59 : decode cX3_set 59 = .ok (.ireturn, 1) := by decide +kernel
theorem dX3_set_60 : decode cX3_set 60 = .ok (.aload_n 0, 1) := by decide +kernel
theorem dX3_set_61 : decode cX3_set 61 = .ok (.invokevirtual 130, 3) := by decide +kernel
theorem dX3_set_64 : decode cX3_set 64 = .ok (.aload_n 0, 1) := by decide +kernel
theorem dX3_set_65 : decode cX3_set 65 = .ok (.getfield 7, 3) := by decide +kernel
theorem dX3_set_68 : decode cX3_set 68 = .ok (.iconst 1, 1) := by decide +kernel
theorem dX3_set_69 : decode cX3_set 69 = .ok (.iload_n 1, 1) := by decide +kernel
theorem dX3_set_70 : decode cX3_set 70 = .ok (.iadd, 1) := by decide +kernel
theorem dX3_set_71 : decode cX3_set 71 = .ok (.iaload, 1) := by decide +kernel
theorem dX3_set_72 : decode cX3_set 72 = .ok (.istore_n 3, 1) := by decide +kernel
theorem dX3_set_73 : decode cX3_set 73 = .ok (.aload_n 0, 1) := by decide +kernel
theorem dX3_set_74 : decode cX3_set 74 = .ok (.getfield 7, 3) := by decide +kernel
theorem dX3_set_77 : decode cX3_set 77 = .ok (.iconst 1, 1) := by decide +kernel
theorem dX3_set_78 : decode cX3_set 78 = .ok (.iload_n 1, 1) := by decide +kernel
theorem dX3_set_79 : decode cX3_set 79 = .ok (.iadd, 1) := by decide +kernel
theorem dX3_set_80 : decode cX3_set 80 = .ok (.iload_n 2, 1) := by decide +kernel
theorem dX3_set_81 : decode cX3_set 81 = .ok (.iastore, 1) := by decide +kernel
theorem dX3_set_82 : decode cX3_set 82 = .ok (.iload_n 3, 1) := by decide +kernel
theorem dX3_set_83 : decode cX3_set 83 = .ok (.ireturn, 1) := by decide +kernel
theorem dX3_undo_0 : decode cX3_undo 0 = .ok (.aload_n 0, 1) := by decide +kernel
theorem dX3_undo_1 : decode cX3_undo 1 = .ok (.getfield 40, 3) := by decide +kernel
theorem dX3_undo_4 : decode cX3_undo 4 = .ok (.ifCond .ne 6, 3) := by decide +kernel
theorem dX3_undo_7 : decode cX3_undo 7 = .ok (.ldc 125, 2) := by decide +kernel
theorem dX3_undo_9 : decode cX3_undo 9 = .ok (.ireturn, 1) := by decide +kernel
theorem dX3_undo_10 : decode cX3_undo 10 = .ok (.aload_n 0, 1) := by decide +kernel
theorem dX3_undo_11 : decode cX3_undo 11 = .ok (.dup, 1) := by decide +kernel
theorem dX3_undo_12 : decode cX3_undo 12 = .ok (.getfield 40, 3) := by decide +kernel
theorem dX3_undo_15 : decode cX3_undo 15 = .ok (.iconst 1, 1) := by decide +kernel
theorem dX3_undo_16 : decode cX3_undo 16 = .ok (.isub, 1) := by decide +kernel
theorem dX3_undo_17 : decode cX3_undo 17 = .ok (.putfield 40, 3) := by decide +kernel
theorem dX3_undo_20 : decode cX3_undo 20 = .ok (.aload_n 0, 1) := by decide +kernel
theorem dX3_undo_21 : decode cX3_undo 21 = .ok (.getfield 19, 3) := by decide +kernel
theorem dX3_undo_24 : decode cX3_undo 24 = .ok (.sipush 269, 3) := by decide +kernel
theorem dX3_undo_27 : decode cX3_undo 27 = .ok (.aload_n 0, 1) := by decide +kernel
theorem dX3_undo_28 : decode cX3_undo 28 = .ok (.getfield 40, 3) := by decide +kernel
theorem dX3_undo_31 : decode cX3_undo 31 = .ok (.imul, 1) := by decide +kernel
theorem dX3_undo_32 : decode cX3_undo 32 = .ok (.aload_n 0, 1) := by decide +kernel
theorem dX3_undo_33 : decode cX3_undo 33 = .ok (.getfield 7, 3) := by decide +kernel
theorem dX3_undo_36 : decode cX3_undo 36 = .ok (.iconst 0, 1) := by decide +kernel
theorem dX3_undo_37 : decode cX3_undo 37 = .ok (.invokestatic 44, 3) := by decide +kernel
theorem dX3_undo_40 : decode cX3_undo 40 = .ok (.aload_n 0, 1) := by decide +kernel
theorem dX3_undo_41 : decode cX3_undo 41 = .ok (.getfield 40, 3) := by decide +kernel
theorem dX3_undo_44 : decode cX3_undo 44 = .ok (.ireturn, 1) := by decide +kernel
theorem dX3_nearer_0 : decode cX3_nearer 0 = .ok (.aload_n 0, 1) := by decide +kernel
theorem dX3_nearer_1 : decode cX3_nearer 1 = .ok (.iload_n 1, 1) := by decide +kernel
theorem dX3_nearer_2 : decode cX3_nearer 2 = .ok (.iload_n 2, 1) := by decide +kernel
theorem dX3_nearer_3 : decode cX3_nearer 3 = .ok (.iconst 1, 1) := by decide +kernel
theorem dX3_nearer_4 : decode cX3_nearer 4 = .ok (.invokevirtual 56, 3) := by decide +kernel
theorem dX3_nearer_7 : decode cX3_nearer 7 = .ok (.aload_n 0, 1) := by decide +kernel
theorem dX3_nearer_8 : decode cX3_nearer 8 = .ok (.iload_n 1, 1) := by decide +kernel
theorem dX3_nearer_9 : decode cX3_nearer 9 = .ok (.iconst 0, 1) := by decide +kernel
theorem dX3_nearer_10 : decode cX3_nearer 10 = .ok (.invokevirtual 80, 3) := by decide +kernel
theorem dX3_nearer_13 : decode cX3_nearer 13 = .ok (.isub, 1) := by decide +kernel
theorem dX3_nearer_14 : decode cX3_nearer 14 = .ok (.invokestatic 99, 3) := by decide +kernel
theorem dX3_nearer_17 : decode cX3_nearer 17 = .ok (.istore_n 3, 1) := by decide +kernel
theorem dX3_nearer_18 : decode cX3_nearer 18 = .ok (.aload_n 0, 1) := by decide +kernel
theorem dX3_nearer_19 : decode cX3_nearer 19 = .ok (.iload_n 1, 1) := by decide +kernel
theorem dX3_nearer_20 : decode cX3_nearer 20 = .ok (.iload_n 2, 1) := by decide +kernel
theorem dX3_nearer_21 : decode cX3_nearer 21 = .ok (.iconst 1, 1) := by decide +kernel
theorem dX3_nearer_22 : decode cX3_nearer 22 = .ok (.invokevirtual 56, 3) := by decide +kernel
theorem dX3_nearer_25 : decode cX3_nearer 25 = .ok (.aload_n 0, 1) := by decide +kernel
theorem dX3_nearer_26 : decode cX3_nearer 26 = .ok (.iload_n 1, 1) := by decide +kernel
theorem dX3_nearer_27 : decode cX3_nearer 27 = .ok (.iconst 1, 1) := by decide +kernel
theorem dX3_nearer_28 : decode cX3_nearer 28 = .ok (.invokevirtual 80, 3) := by decide +kernel
theorem dX3_nearer_31 : decode cX3_nearer 31 = .ok (.isub, 1) := by decide +kernel
theorem dX3_nearer_32 : decode cX3_nearer 32 = .ok (.invokestatic 99, 3) := by decide +kernel
theorem dX3_nearer_35 : decode cX3_nearer 35 = .ok (.istore 4, 2) := by decide +kernel
theorem dX3_nearer_37 : decode cX3_nearer 37 = .ok (.iload_n 3, 1) := by decide +kernel
theorem dX3_nearer_38 : decode cX3_nearer 38 = .ok (.iload 4, 2) := by decide +kernel
theorem dX3_nearer_40 : decode cX3_nearer 40 = .ok (.if_icmp .ge 7, 3) := by decide +kernel
theorem dX3_nearer_43 : decode cX3_nearer 43 = .ok (.iload_n 3, 1) := by decide +kernel
theorem dX3_nearer_44 : decode cX3_nearer 44 = .ok (.goto 5, 3) := by decide +kernel
theorem dX3_nearer_47 : decode cX3_nearer 47 = .ok (.iload 4, 2) := by decide +kernel
theorem dX3_nearer_49 : decode cX3_nearer 49 = .ok (.ireturn, 1) := by decide +kernel
theorem dX3_cell_0 : decode cX3_cell 0 = .ok (.iload_n 1, 1) := by decide +kernel
theorem dX3_cell_1 : decode cX3_cell 1 = .ok (.invokestatic 67, 3) := by decide +kernel
theorem dX3_cell_4 : decode cX3_cell 4 = .ok (.ifCond .eq 10, 3) := by decide +kernel
theorem dX3_cell_7 : decode cX3_cell 7 = .ok (.iload_n 2, 1) := by decide +kernel
theorem dX3_cell_8 : decode cX3_cell 8 = .ok (.invokestatic 118, 3) := by decide +kernel
theorem dX3_cell_11 : decode cX3_cell 11 = .ok (.ifCond .ne 6, 3) := by decide +kernel
theorem dX3_cell_14 : decode cX3_cell 14 = .ok (.ldc 124, 2) := by decide +kernel
theorem dX3_cell_16 : decode cX3_cell 16 = .ok (.ireturn, 1) := by decide +kernel
theorem dX3_cell_17 : decode cX3_cell 17 = .ok (.aload_n 0, 1) := by decide +kernel
theorem dX3_cell_18 : decode cX3_cell 18 = .ok (.iload_n 1, 1) := by decide +kernel
theorem dX3_cell_19 : decode cX3_cell 19 = .ok (.iload_n 2, 1) := by decide +kernel
theorem dX3_cell_20 : decode cX3_cell 20 = .ok (.iconst 1, 1) := by decide +kernel
theorem dX3_cell_21 : decode cX3_cell 21 = .ok (.invokevirtual 56, 3) := by decide +kernel
theorem dX3_cell_24 : decode cX3_cell 24 = .ok (.istore 4, 2) := by decide +kernel
theorem dX3_cell_26 : decode cX3_cell 26 = .ok (.iload_n 3, 1) := by decide +kernel
theorem dX3_cell_27 : decode cX3_cell 27 = .ok (.tableswitch 123 0 7 #[45, 53, 56, 63, 81, 93, 101, 108], 45) := by decide +kernel
theorem dX3_cell_72 : decode cX3_cell 72 = .ok (.aload_n 0, 1) := by decide +kernel
theorem dX3_cell_73 : decode cX3_cell 73 = .ok (.iload_n 1, 1) := by decide +kernel
theorem dX3_cell_74 : decode cX3_cell 74 = .ok (.iload_n 2, 1) := by decide +kernel
theorem dX3_cell_75 : decode cX3_cell 75 = .ok (.iconst 0, 1) := by decide +kernel
theorem dX3_cell_76 : decode cX3_cell 76 = .ok (.invokevirtual 56, 3) := by decide +kernel
theorem dX3_cell_79 : decode cX3_cell 79 = .ok (.ireturn, 1) := by decide +kernel
theorem dX3_cell_80 : decode cX3_cell 80 = .ok (.iload 4, 2) := by decide +kernel
theorem dX3_cell_82 : decode cX3_cell 82 = .ok (.ireturn, 1) := by decide +kernel
theorem dX3_cell_83 : decode cX3_cell 83 = .ok (.aload_n 0, 1) := by decide +kernel
theorem dX3_cell_84 : decode cX3_cell 84 = .ok (.iload_n 1, 1) := by decide +kernel
theorem dX3_cell_85 : decode cX3_cell 85 = .ok (.iload_n 2, 1) := by decide +kernel
theorem dX3_cell_86 : decode cX3_cell 86 = .ok (.invokevirtual 86, 3) := by decide +kernel
theorem dX3_cell_89 : decode cX3_cell 89 = .ok (.ireturn, 1) := by decide +kernel
theorem dX3_cell_90 : decode cX3_cell 90 = .ok (.iload 4, 2) := by decide +kernel
theorem dX3_cell_92 : decode cX3_cell 92 = .ok (.aload_n 0, 1) := by decide +kernel
theorem dX3_cell_93 : decode cX3_cell 93 = .ok (.iload_n 1, 1) := by decide +kernel
theorem dX3_cell_94 : decode cX3_cell 94 = .ok (.iconst 0, 1) := by decide +kernel
theorem dX3_cell_95 : decode cX3_cell 95 = .ok (.invokevirtual 77, 3) := by decide +kernel
theorem dX3_cell_98 : decode cX3_cell 98 = .ok (.aload_n 0, 1) := by decide +kernel
theorem dX3_cell_99 : decode cX3_cell 99 = .ok (.iload_n 1, 1) := by decide +kernel
theorem dX3_cell_100 : decode cX3_cell 100 = .ok (.iconst 1, 1) := by decide +kernel
theorem dX3_cell_101 : decode cX3_cell 101 = .ok (.invokevirtual 77, 3) := by decide +kernel
theorem dX3_cell_104 : decode cX3_cell 104 = .ok (.invokestatic 83, 3) := by decide +kernel
theorem dX3_cell_107 : decode cX3_cell 107 = .ok (.ireturn, 1) := by decide +kernel
theorem dX3_cell_108 : decode cX3_cell 108 = .ok (.iload 4, 2) := by decide +kernel
theorem dX3_cell_110 : decode cX3_cell 110 = .ok (.sipush 300, 3) := by decide +kernel
theorem dX3_cell_113 : decode cX3_cell 113 = .ok (.sipush 700, 3) := by decide +kernel
theorem dX3_cell_116 : decode cX3_cell 116 = .ok (.invokestatic 83, 3) := by decide +kernel
theorem dX3_cell_119 : decode cX3_cell 119 = .ok (.ireturn, 1) := by decide +kernel
theorem dX3_cell_120 : decode cX3_cell 120 = .ok (.aload_n 0, 1) := by decide +kernel
theorem dX3_cell_121 : decode cX3_cell 121 = .ok (.iload_n 1, 1) := by decide +kernel
theorem dX3_cell_122 : decode cX3_cell 122 = .ok (.iload_n 2, 1) := by decide +kernel
theorem dX3_cell_123 : decode cX3_cell 123 = .ok (.iconst 2, 1) := by decide +kernel
theorem dX3_cell_124 : decode cX3_cell 124 = .ok (.invokevirtual 56, 3) := by decide +kernel
theorem dX3_cell_127 : decode cX3_cell 127 = .ok (.ireturn, 1) := by decide +kernel
theorem dX3_cell_128 : decode cX3_cell 128 = .ok (.aload_n 0, 1) := by decide +kernel
theorem dX3_cell_129 : decode cX3_cell 129 = .ok (.iload_n 1, 1) := by decide +kernel
theorem dX3_cell_130 : decode cX3_cell 130 = .ok (.iload_n 2, 1) := by decide +kernel
theorem dX3_cell_131 : decode cX3_cell 131 = .ok (.invokevirtual 151, 3) := by decide +kernel
theorem dX3_cell_134 : decode cX3_cell 134 = .ok (.ireturn, 1) := by decide +kernel
theorem dX3_cell_135 : decode cX3_cell 135 = .ok (.aload_n 0, 1) := by decide +kernel
theorem dX3_cell_136 : decode cX3_cell 136 = .ok (.getfield 7, 3) := by decide +kernel
theorem dX3_cell_139 : decode cX3_cell 139 = .ok (.iconst 0, 1) := by decide +kernel
theorem dX3_cell_140 : decode cX3_cell 140 = .ok (.iaload, 1) := by decide +kernel
theorem dX3_cell_141 : decode cX3_cell 141 = .ok (.aload_n 0, 1) := by decide +kernel
theorem dX3_cell_142 : decode cX3_cell 142 = .ok (.iload_n 1, 1) := by decide +kernel
theorem dX3_cell_143 : decode cX3_cell 143 = .ok (.iload_n 2, 1) := by decide +kernel
theorem dX3_cell_144 : decode cX3_cell 144 = .ok (.iconst 3, 1) := by decide +kernel
theorem dX3_cell_145 : decode cX3_cell 145 = .ok (.invokevirtual 56, 3) := by decide +kernel
theorem dX3_cell_148 : decode cX3_cell 148 = .ok (.isub, 1) := by decide +kernel
theorem dX3_cell_149 : decode cX3_cell 149 = .ok (.ireturn, 1) := by decide +kernel
theorem dX3_cell_150 : decode cX3_cell 150 = .ok (.ldc 124, 2) := by decide +kernel
theorem dX3_cell_152 : decode cX3_cell 152 = .ok (.ireturn, 1) := by decide +kernel
theorem dX3_guard_0 : decode cX3_guard 0 = .ok (.iload_n 1, 1) := by decide +kernel
theorem dX3_guard_1 : decode cX3_guard 1 = .ok (.invokestatic 67, 3) := by decide +kernel
theorem dX3_guard_4 : decode cX3_guard 4 = .ok (.ifCond .eq 19, 3) := by decide +kernel
theorem dX3_guard_7 : decode cX3_guard 7 = .ok (.iload_n 2, 1) := by decide +kernel
theorem dX3_guard_8 : decode cX3_guard 8 = .ok (.invokestatic 121, 3) := by decide +kernel
theorem dX3_guard_11 : decode cX3_guard 11 = .ok (.ifCond .eq 12, 3) := by decide +kernel
theorem dX3_guard_14 : decode cX3_guard 14 = .ok (.iload_n 3, 1) := by decide +kernel
theorem dX3_guard_15 : decode cX3_guard 15 = .ok (.iconst 0, 1) := by decide +kernel
theorem dX3_guard_16 : decode cX3_guard 16 = .ok (.iconst 1, 1) := by decide +kernel
theorem dX3_guard_17 : decode cX3_guard 17 = .ok (.invokestatic 48, 3) := by decide +kernel
theorem dX3_guard_20 : decode cX3_guard 20 = .ok (.ifCond .ne 6, 3) := by decide +kernel
theorem dX3_guard_23 : decode cX3_guard 23 = .ok (.ldc 124, 2) := by decide +kernel
theorem dX3_guard_25 : decode cX3_guard 25 = .ok (.ireturn, 1) := by decide +kernel
theorem dX3_guard_26 : decode cX3_guard 26 = .ok (.aload_n 0, 1) := by decide +kernel
theorem dX3_guard_27 : decode cX3_guard 27 = .ok (.iload_n 1, 1) := by decide +kernel
theorem dX3_guard_28 : decode cX3_guard 28 = .ok (.iload_n 3, 1) := by decide +kernel
theorem dX3_guard_29 : decode cX3_guard 29 = .ok (.ifCond .ne 7, 3) := by decide +kernel
theorem dX3_guard_32 : decode cX3_guard 32 = .ok (.iconst 4, 1) := by decide +kernel
theorem dX3_guard_33 : decode cX3_guard 33 = .ok (.goto 5, 3) := by decide +kernel
theorem dX3_guard_36 : decode cX3_guard 36 = .ok (.bipush 7, 2) := by decide +kernel
theorem dX3_guard_38 : decode cX3_guard 38 = .ok (.iload_n 2, 1) := by decide +kernel
theorem dX3_guard_39 : decode cX3_guard 39 = .ok (.iadd, 1) := by decide +kernel
theorem dX3_guard_40 : decode cX3_guard 40 = .ok (.invokevirtual 52, 3) := by decide +kernel
theorem dX3_guard_43 : decode cX3_guard 43 = .ok (.ireturn, 1) := by decide +kernel
theorem dX3_wrongFixed_0 : decode cX3_wrongFixed 0 = .ok (.iconst 0, 1) := by decide +kernel
theorem dX3_wrongFixed_1 : decode cX3_wrongFixed 1 = .ok (.istore_n 2, 1) := by decide +kernel
theorem dX3_wrongFixed_2 : decode cX3_wrongFixed 2 = .ok (.iconst 0, 1) := by decide +kernel
theorem dX3_wrongFixed_3 : decode cX3_wrongFixed 3 = .ok (.istore_n 3, 1) := by decide +kernel
theorem dX3_wrongFixed_4 : decode cX3_wrongFixed 4 = .ok (.iload_n 3, 1) := by decide +kernel
theorem dX3_wrongFixed_5 : decode cX3_wrongFixed 5 = .ok (.bipush 8, 2) := by decide +kernel
theorem dX3_wrongFixed_7 : decode cX3_wrongFixed 7 = .ok (.if_icmp .ge 43, 3) := by decide +kernel
theorem dX3_wrongFixed_10 : decode cX3_wrongFixed 10 = .ok (.iload_n 2, 1) := by decide +kernel
theorem dX3_wrongFixed_11 : decode cX3_wrongFixed 11 = .ok (.aload_n 0, 1) := by decide +kernel
theorem dX3_wrongFixed_12 : decode cX3_wrongFixed 12 = .ok (.iload_n 1, 1) := by decide +kernel
theorem dX3_wrongFixed_13 : decode cX3_wrongFixed 13 = .ok (.iload_n 3, 1) := by decide +kernel
theorem dX3_wrongFixed_14 : decode cX3_wrongFixed 14 = .ok (.iconst 1, 1) := by decide +kernel
theorem dX3_wrongFixed_15 : decode cX3_wrongFixed 15 = .ok (.invokevirtual 56, 3) := by decide +kernel
theorem dX3_wrongFixed_18 : decode cX3_wrongFixed 18 = .ok (.sipush 300, 3) := by decide +kernel
theorem dX3_wrongFixed_21 : decode cX3_wrongFixed 21 = .ok (.sipush 700, 3) := by decide +kernel
theorem dX3_wrongFixed_24 : decode cX3_wrongFixed 24 = .ok (.invokestatic 83, 3) := by decide +kernel
theorem dX3_wrongFixed_27 : decode cX3_wrongFixed 27 = .ok (.aload_n 0, 1) := by decide +kernel
theorem dX3_wrongFixed_28 : decode cX3_wrongFixed 28 = .ok (.iload_n 1, 1) := by decide +kernel
theorem dX3_wrongFixed_29 : decode cX3_wrongFixed 29 = .ok (.iload_n 3, 1) := by decide +kernel
theorem dX3_wrongFixed_30 : decode cX3_wrongFixed 30 = .ok (.iconst 0, 1) := by decide +kernel
theorem dX3_wrongFixed_31 : decode cX3_wrongFixed 31 = .ok (.invokevirtual 56, 3) := by decide +kernel
theorem dX3_wrongFixed_34 : decode cX3_wrongFixed 34 = .ok (.if_icmp .ne 7, 3) := by decide +kernel
theorem dX3_wrongFixed_37 : decode cX3_wrongFixed 37 = .ok (.iconst 0, 1) := by decide +kernel
theorem dX3_wrongFixed_38 : decode cX3_wrongFixed 38 = .ok (.goto 4, 3) := by decide +kernel
theorem dX3_wrongFixed_41 : decode cX3_wrongFixed 41 = .ok (.iconst 1, 1) := by decide +kernel
theorem dX3_wrongFixed_42 : decode cX3_wrongFixed 42 = .ok (.iadd, 1) := by decide +kernel
theorem dX3_wrongFixed_43 : decode cX3_wrongFixed 43 = .ok (.istore_n 2, 1) := by decide +kernel
theorem dX3_wrongFixed_44 : decode cX3_wrongFixed 44 = .ok (.iinc 3 1, 3) := by decide +kernel
theorem dX3_wrongFixed_47 : decode cX3_wrongFixed 47 = .ok (.goto (-43), 3) := by decide +kernel
theorem dX3_wrongFixed_50 : decode cX3_wrongFixed 50 = .ok (.iload_n 2, 1) := by decide +kernel
theorem dX3_wrongFixed_51 : decode cX3_wrongFixed 51 = .ok (.ireturn, 1) := by decide +kernel
theorem dX3_row_0 : decode cX3_row 0 = .ok (.iload_n 1, 1) := by decide +kernel
theorem dX3_row_1 : decode cX3_row 1 = .ok (.invokestatic 67, 3) := by decide +kernel
theorem dX3_row_4 : decode cX3_row 4 = .ok (.ifCond .ne 6, 3) := by decide +kernel
theorem dX3_row_7 : decode cX3_row 7 = .ok (.ldc 124, 2) := by decide +kernel
theorem dX3_row_9 : decode cX3_row 9 = .ok (.ireturn, 1) := by decide +kernel
theorem dX3_row_10 : decode cX3_row 10 = .ok (.iload_n 2, 1) := by decide +kernel
theorem dX3_row_11 : decode cX3_row 11 = .ok (.tableswitch 156 0 13 #[69, 69, 76, 90, 96, 96, 105, 111, 117, 124, 130, 136, 142, 149], 69) := by decide +kernel
theorem dX3_row_80 : decode cX3_row 80 = .ok (.aload_n 0, 1) := by decide +kernel
theorem dX3_row_81 : decode cX3_row 81 = .ok (.iload_n 1, 1) := by decide +kernel
theorem dX3_row_82 : decode cX3_row 82 = .ok (.iload_n 2, 1) := by decide +kernel
theorem dX3_row_83 : decode cX3_row 83 = .ok (.invokevirtual 77, 3) := by decide +kernel
theorem dX3_row_86 : decode cX3_row 86 = .ok (.ireturn, 1) := by decide +kernel
theorem dX3_row_87 : decode cX3_row 87 = .ok (.aload_n 0, 1) := by decide +kernel
theorem dX3_row_88 : decode cX3_row 88 = .ok (.iload_n 1, 1) := by decide +kernel
theorem dX3_row_89 : decode cX3_row 89 = .ok (.invokevirtual 71, 3) := by decide +kernel
theorem dX3_row_92 : decode cX3_row 92 = .ok (.ifCond .eq 7, 3) := by decide +kernel
theorem dX3_row_95 : decode cX3_row 95 = .ok (.iconst 1, 1) := by decide +kernel
theorem dX3_row_96 : decode cX3_row 96 = .ok (.goto 4, 3) := by decide +kernel
theorem dX3_row_99 : decode cX3_row 99 = .ok (.iconst 0, 1) := by decide +kernel
theorem dX3_row_100 : decode cX3_row 100 = .ok (.ireturn, 1) := by decide +kernel
theorem dX3_row_101 : decode cX3_row 101 = .ok (.aload_n 0, 1) := by decide +kernel
theorem dX3_row_102 : decode cX3_row 102 = .ok (.iload_n 1, 1) := by decide +kernel
theorem dX3_row_103 : decode cX3_row 103 = .ok (.invokevirtual 154, 3) := by decide +kernel
theorem dX3_row_106 : decode cX3_row 106 = .ok (.ireturn, 1) := by decide +kernel
theorem dX3_row_107 : decode cX3_row 107 = .ok (.aload_n 0, 1) := by decide +kernel
theorem dX3_row_108 : decode cX3_row 108 = .ok (.iload_n 1, 1) := by decide +kernel
theorem dX3_row_109 : decode cX3_row 109 = .ok (.iload_n 2, 1) := by decide +kernel
theorem dX3_row_110 : decode cX3_row 110 = .ok (.iconst 4, 1) := by decide +kernel
theorem dX3_row_111 : decode cX3_row 111 = .ok (.isub, 1) := by decide +kernel
theorem dX3_row_112 : decode cX3_row 112 = .ok (.invokevirtual 80, 3) := by decide +kernel
theorem dX3_row_115 : decode cX3_row 115 = .ok (.ireturn, 1) := by decide +kernel
theorem dX3_row_116 : decode cX3_row 116 = .ok (.aload_n 0, 1) := by decide +kernel
theorem dX3_row_117 : decode cX3_row 117 = .ok (.iload_n 1, 1) := by decide +kernel
theorem dX3_row_118 : decode cX3_row 118 = .ok (.invokevirtual 89, 3) := by decide +kernel
theorem dX3_row_121 : decode cX3_row 121 = .ok (.ireturn, 1) := by decide +kernel
theorem dX3_row_122 : decode cX3_row 122 = .ok (.aload_n 0, 1) := by decide +kernel
theorem dX3_row_123 : decode cX3_row 123 = .ok (.iload_n 1, 1) := by decide +kernel
theorem dX3_row_124 : decode cX3_row 124 = .ok (.invokevirtual 157, 3) := by decide +kernel
theorem dX3_row_127 : decode cX3_row 127 = .ok (.ireturn, 1) := by decide +kernel
theorem dX3_row_128 : decode cX3_row 128 = .ok (.aload_n 0, 1) := by decide +kernel
theorem dX3_row_129 : decode cX3_row 129 = .ok (.iload_n 1, 1) := by decide +kernel
theorem dX3_row_130 : decode cX3_row 130 = .ok (.iconst 0, 1) := by decide +kernel
theorem dX3_row_131 : decode cX3_row 131 = .ok (.invokevirtual 52, 3) := by decide +kernel
theorem dX3_row_134 : decode cX3_row 134 = .ok (.ireturn, 1) := by decide +kernel
theorem dX3_row_135 : decode cX3_row 135 = .ok (.aload_n 0, 1) := by decide +kernel
theorem dX3_row_136 : decode cX3_row 136 = .ok (.iload_n 1, 1) := by decide +kernel
theorem dX3_row_137 : decode cX3_row 137 = .ok (.invokevirtual 108, 3) := by decide +kernel
theorem dX3_row_140 : decode cX3_row 140 = .ok (.ireturn, 1) := by decide +kernel
theorem dX3_row_141 : decode cX3_row 141 = .ok (.aload_n 0, 1) := by decide +kernel
theorem dX3_row_142 : decode cX3_row 142 = .ok (.iload_n 1, 1) := by decide +kernel
theorem dX3_row_143 : decode cX3_row 143 = .ok (.invokevirtual 92, 3) := by decide +kernel
theorem dX3_row_146 : decode cX3_row 146 = .ok (.ireturn, 1) := by decide +kernel
theorem dX3_row_147 : decode cX3_row 147 = .ok (.aload_n 0, 1) := by decide +kernel
theorem dX3_row_148 : decode cX3_row 148 = .ok (.iload_n 1, 1) := by decide +kernel
theorem dX3_row_149 : decode cX3_row 149 = .ok (.invokevirtual 160, 3) := by decide +kernel
theorem dX3_row_152 : decode cX3_row 152 = .ok (.ireturn, 1) := by decide +kernel
theorem dX3_row_153 : decode cX3_row 153 = .ok (.aload_n 0, 1) := by decide +kernel
theorem dX3_row_154 : decode cX3_row 154 = .ok (.iload_n 1, 1) := by decide +kernel
theorem dX3_row_155 : decode cX3_row 155 = .ok (.iconst 2, 1) := by decide +kernel
theorem dX3_row_156 : decode cX3_row 156 = .ok (.invokevirtual 52, 3) := by decide +kernel
theorem dX3_row_159 : decode cX3_row 159 = .ok (.ireturn, 1) := by decide +kernel
theorem dX3_row_160 : decode cX3_row 160 = .ok (.aload_n 0, 1) := by decide +kernel
theorem dX3_row_161 : decode cX3_row 161 = .ok (.iload_n 1, 1) := by decide +kernel
theorem dX3_row_162 : decode cX3_row 162 = .ok (.iconst 3, 1) := by decide +kernel
theorem dX3_row_163 : decode cX3_row 163 = .ok (.invokevirtual 52, 3) := by decide +kernel
theorem dX3_row_166 : decode cX3_row 166 = .ok (.ireturn, 1) := by decide +kernel
theorem dX3_row_167 : decode cX3_row 167 = .ok (.ldc 124, 2) := by decide +kernel
theorem dX3_row_169 : decode cX3_row 169 = .ok (.ireturn, 1) := by decide +kernel
theorem dX3_table_0 : decode cX3_table 0 = .ok (.iload_n 1, 1) := by decide +kernel
theorem dX3_table_1 : decode cX3_table 1 = .ok (.invokestatic 121, 3) := by decide +kernel
theorem dX3_table_4 : decode cX3_table 4 = .ok (.ifCond .eq 26, 3) := by decide +kernel
theorem dX3_table_7 : decode cX3_table 7 = .ok (.iload_n 2, 1) := by decide +kernel
theorem dX3_table_8 : decode cX3_table 8 = .ok (.invokestatic 121, 3) := by decide +kernel
theorem dX3_table_11 : decode cX3_table 11 = .ok (.ifCond .eq 19, 3) := by decide +kernel
theorem dX3_table_14 : decode cX3_table 14 = .ok (.aload_n 0, 1) := by decide +kernel
theorem dX3_table_15 : decode cX3_table 15 = .ok (.getfield 7, 3) := by decide +kernel
theorem dX3_table_18 : decode cX3_table 18 = .ok (.bipush 8, 2) := by decide +kernel
theorem dX3_table_20 : decode cX3_table 20 = .ok (.iconst 3, 1) := by decide +kernel
theorem dX3_table_21 : decode cX3_table 21 = .ok (.iload_n 1, 1) := by decide +kernel
theorem dX3_table_22 : decode cX3_table 22 = .ok (.imul, 1) := by decide +kernel
theorem dX3_table_23 : decode cX3_table 23 = .ok (.iadd, 1) := by decide +kernel
theorem dX3_table_24 : decode cX3_table 24 = .ok (.iload_n 2, 1) := by decide +kernel
theorem dX3_table_25 : decode cX3_table 25 = .ok (.iadd, 1) := by decide +kernel
theorem dX3_table_26 : decode cX3_table 26 = .ok (.iaload, 1) := by decide +kernel
theorem dX3_table_27 : decode cX3_table 27 = .ok (.goto 5, 3) := by decide +kernel
theorem dX3_table_30 : decode cX3_table 30 = .ok (.ldc 124, 2) := by decide +kernel
theorem dX3_table_32 : decode cX3_table 32 = .ok (.ireturn, 1) := by decide +kernel
theorem dX3_wrongIn_0 : decode cX3_wrongIn 0 = .ok (.iload_n 1, 1) := by decide +kernel
theorem dX3_wrongIn_1 : decode cX3_wrongIn 1 = .ok (.invokestatic 67, 3) := by decide +kernel
theorem dX3_wrongIn_4 : decode cX3_wrongIn 4 = .ok (.ifCond .ne 6, 3) := by decide +kernel
theorem dX3_wrongIn_7 : decode cX3_wrongIn 7 = .ok (.ldc 124, 2) := by decide +kernel
theorem dX3_wrongIn_9 : decode cX3_wrongIn 9 = .ok (.ireturn, 1) := by decide +kernel
theorem dX3_wrongIn_10 : decode cX3_wrongIn 10 = .ok (.aload_n 0, 1) := by decide +kernel
theorem dX3_wrongIn_11 : decode cX3_wrongIn 11 = .ok (.getfield 7, 3) := by decide +kernel
theorem dX3_wrongIn_14 : decode cX3_wrongIn 14 = .ok (.iconst 0, 1) := by decide +kernel
theorem dX3_wrongIn_15 : decode cX3_wrongIn 15 = .ok (.aload_n 0, 1) := by decide +kernel
theorem dX3_wrongIn_16 : decode cX3_wrongIn 16 = .ok (.getfield 13, 3) := by decide +kernel
theorem dX3_wrongIn_19 : decode cX3_wrongIn 19 = .ok (.iconst 0, 1) := by decide +kernel
theorem dX3_wrongIn_20 : decode cX3_wrongIn 20 = .ok (.invokestatic 44, 3) := by decide +kernel
theorem dX3_wrongIn_23 : decode cX3_wrongIn 23 = .ok (.iconst 0, 1) := by decide +kernel
theorem dX3_wrongIn_24 : decode cX3_wrongIn 24 = .ok (.istore_n 2, 1) := by decide +kernel
theorem dX3_wrongIn_25 : decode cX3_wrongIn 25 = .ok (.iload_n 2, 1) := by decide +kernel
theorem dX3_wrongIn_26 : decode cX3_wrongIn 26 = .ok (.sipush 300, 3) := by decide +kernel
theorem dX3_wrongIn_29 : decode cX3_wrongIn 29 = .ok (.if_icmp .gt 22, 3) := by decide +kernel
theorem dX3_wrongIn_32 : decode cX3_wrongIn 32 = .ok (.aload_n 0, 1) := by decide +kernel
theorem dX3_wrongIn_33 : decode cX3_wrongIn 33 = .ok (.iload_n 1, 1) := by decide +kernel
theorem dX3_wrongIn_34 : decode cX3_wrongIn 34 = .ok (.invokevirtual 89, 3) := by decide +kernel
theorem dX3_wrongIn_37 : decode cX3_wrongIn 37 = .ok (.ifCond .ne 14, 3) := by decide +kernel
theorem dX3_wrongIn_40 : decode cX3_wrongIn 40 = .ok (.aload_n 0, 1) := by decide +kernel
theorem dX3_wrongIn_41 : decode cX3_wrongIn 41 = .ok (.invokevirtual 114, 3) := by decide +kernel
theorem dX3_wrongIn_44 : decode cX3_wrongIn 44 = .ok (.istore_n 3, 1) := by decide +kernel
theorem dX3_wrongIn_45 : decode cX3_wrongIn 45 = .ok (.iinc 2 1, 3) := by decide +kernel
theorem dX3_wrongIn_48 : decode cX3_wrongIn 48 = .ok (.goto (-23), 3) := by decide +kernel
theorem dX3_wrongIn_51 : decode cX3_wrongIn 51 = .ok (.aload_n 0, 1) := by decide +kernel
theorem dX3_wrongIn_52 : decode cX3_wrongIn 52 = .ok (.getfield 13, 3) := by decide +kernel
theorem dX3_wrongIn_55 : decode cX3_wrongIn 55 = .ok (.iconst 0, 1) := by decide +kernel
theorem dX3_wrongIn_56 : decode cX3_wrongIn 56 = .ok (.aload_n 0, 1) := by decide +kernel
theorem dX3_wrongIn_57 : decode cX3_wrongIn 57 = .ok (.getfield 7, 3) := by decide +kernel
theorem dX3_wrongIn_60 : decode cX3_wrongIn 60 = .ok (.iconst 0, 1) := by decide +kernel
theorem dX3_wrongIn_61 : decode cX3_wrongIn 61 = .ok (.invokestatic 44, 3) := by decide +kernel
theorem dX3_wrongIn_64 : decode cX3_wrongIn 64 = .ok (.iload_n 2, 1) := by decide +kernel
theorem dX3_wrongIn_65 : decode cX3_wrongIn 65 = .ok (.sipush 300, 3) := by decide +kernel
theorem dX3_wrongIn_68 : decode cX3_wrongIn 68 = .ok (.if_icmp .le 8, 3) := by decide +kernel
theorem dX3_wrongIn_71 : decode cX3_wrongIn 71 = .ok (.ldc 163, 2) := by decide +kernel
theorem dX3_wrongIn_73 : decode cX3_wrongIn 73 = .ok (.goto 4, 3) := by decide +kernel
theorem dX3_wrongIn_76 : decode cX3_wrongIn 76 = .ok (.iload_n 2, 1) := by decide +kernel
theorem dX3_wrongIn_77 : decode cX3_wrongIn 77 = .ok (.ireturn, 1) := by decide +kernel
theorem dX3_rightFor_0 : decode cX3_rightFor 0 = .ok (.iload_n 1, 1) := by decide +kernel
theorem dX3_rightFor_1 : decode cX3_rightFor 1 = .ok (.invokestatic 67, 3) := by decide +kernel
theorem dX3_rightFor_4 : decode cX3_rightFor 4 = .ok (.ifCond .ne 6, 3) := by decide +kernel
theorem dX3_rightFor_7 : decode cX3_rightFor 7 = .ok (.ldc 124, 2) := by decide +kernel
theorem dX3_rightFor_9 : decode cX3_rightFor 9 = .ok (.ireturn, 1) := by decide +kernel
theorem dX3_rightFor_10 : decode cX3_rightFor 10 = .ok (.aload_n 0, 1) := by decide +kernel
theorem dX3_rightFor_11 : decode cX3_rightFor 11 = .ok (.getfield 7, 3) := by decide +kernel
theorem dX3_rightFor_14 : decode cX3_rightFor 14 = .ok (.iconst 0, 1) := by decide +kernel
theorem dX3_rightFor_15 : decode cX3_rightFor 15 = .ok (.aload_n 0, 1) := by decide +kernel
theorem dX3_rightFor_16 : decode cX3_rightFor 16 = .ok (.getfield 13, 3) := by decide +kernel
theorem dX3_rightFor_19 : decode cX3_rightFor 19 = .ok (.iconst 0, 1) := by decide +kernel
theorem dX3_rightFor_20 : decode cX3_rightFor 20 = .ok (.invokestatic 44, 3) := by decide +kernel
theorem dX3_rightFor_23 : decode cX3_rightFor 23 = .ok (.iconst 0, 1) := by decide +kernel
theorem dX3_rightFor_24 : decode cX3_rightFor 24 = .ok (.istore_n 2, 1) := by decide +kernel
theorem dX3_rightFor_25 : decode cX3_rightFor 25 = .ok (.iload_n 2, 1) := by decide +kernel
theorem dX3_rightFor_26 : decode cX3_rightFor 26 = .ok (.sipush 300, 3) := by decide +kernel
theorem dX3_rightFor_29 : decode cX3_rightFor 29 = .ok (.if_icmp .gt 21, 3) := by decide +kernel
theorem dX3_rightFor_32 : decode cX3_rightFor 32 = .ok (.aload_n 0, 1) := by decide +kernel
theorem dX3_rightFor_33 : decode cX3_rightFor 33 = .ok (.iload_n 1, 1) := by decide +kernel
theorem dX3_rightFor_34 : decode cX3_rightFor 34 = .ok (.invokevirtual 71, 3) := by decide +kernel
theorem dX3_rightFor_37 : decode cX3_rightFor 37 = .ok (.ifCond .eq 13, 3) := by decide +kernel
theorem dX3_rightFor_40 : decode cX3_rightFor 40 = .ok (.aload_n 0, 1) := by decide +kernel
theorem dX3_rightFor_41 : decode cX3_rightFor 41 = .ok (.invokevirtual 105, 3) := by decide +kernel
theorem dX3_rightFor_44 : decode cX3_rightFor 44 = .ok (.iinc 2 1, 3) := by decide +kernel
theorem dX3_rightFor_47 : decode cX3_rightFor 47 = .ok (.goto (-22), 3) := by decide +kernel
theorem dX3_rightFor_50 : decode cX3_rightFor 50 = .ok (.aload_n 0, 1) := by decide +kernel
theorem dX3_rightFor_51 : decode cX3_rightFor 51 = .ok (.getfield 13, 3) := by decide +kernel
theorem dX3_rightFor_54 : decode cX3_rightFor 54 = .ok (.iconst 0, 1) := by decide +kernel
theorem dX3_rightFor_55 : decode cX3_rightFor 55 = .ok (.aload_n 0, 1) := by decide +kernel
theorem dX3_rightFor_56 : decode cX3_rightFor 56 = .ok (.getfield 7, 3) := by decide +kernel
theorem dX3_rightFor_59 : decode cX3_rightFor 59 = .ok (.iconst 0, 1) := by decide +kernel
theorem dX3_rightFor_60 : decode cX3_rightFor 60 = .ok (.invokestatic 44, 3) := by decide +kernel
theorem dX3_rightFor_63 : decode cX3_rightFor 63 = .ok (.iload_n 2, 1) := by decide +kernel
theorem dX3_rightFor_64 : decode cX3_rightFor 64 = .ok (.sipush 300, 3) := by decide +kernel
theorem dX3_rightFor_67 : decode cX3_rightFor 67 = .ok (.if_icmp .le 8, 3) := by decide +kernel
theorem dX3_rightFor_70 : decode cX3_rightFor 70 = .ok (.ldc 163, 2) := by decide +kernel
theorem dX3_rightFor_72 : decode cX3_rightFor 72 = .ok (.goto 4, 3) := by decide +kernel
theorem dX3_rightFor_75 : decode cX3_rightFor 75 = .ok (.iload_n 2, 1) := by decide +kernel
theorem dX3_rightFor_76 : decode cX3_rightFor 76 = .ok (.ireturn, 1) := by decide +kernel
theorem dX3_lostBy_0 : decode cX3_lostBy 0 = .ok (.aload_n 0, 1) := by decide +kernel
theorem dX3_lostBy_1 : decode cX3_lostBy 1 = .ok (.getfield 7, 3) := by decide +kernel
theorem dX3_lostBy_4 : decode cX3_lostBy 4 = .ok (.iconst 0, 1) := by decide +kernel
theorem dX3_lostBy_5 : decode cX3_lostBy 5 = .ok (.aload_n 0, 1) := by decide +kernel
theorem dX3_lostBy_6 : decode cX3_lostBy 6 = .ok (.getfield 13, 3) := by decide +kernel
theorem dX3_lostBy_9 : decode cX3_lostBy 9 = .ok (.iconst 0, 1) := by decide +kernel
theorem dX3_lostBy_10 : decode cX3_lostBy 10 = .ok (.invokestatic 44, 3) := by decide +kernel
theorem dX3_lostBy_13 : decode cX3_lostBy 13 = .ok (.aload_n 0, 1) := by decide +kernel
theorem dX3_lostBy_14 : decode cX3_lostBy 14 = .ok (.getfield 7, 3) := by decide +kernel
theorem dX3_lostBy_17 : decode cX3_lostBy 17 = .ok (.iconst 3, 1) := by decide +kernel
theorem dX3_lostBy_18 : decode cX3_lostBy 18 = .ok (.iload_n 1, 1) := by decide +kernel
theorem dX3_lostBy_19 : decode cX3_lostBy 19 = .ok (.iastore, 1) := by decide +kernel
theorem dX3_lostBy_20 : decode cX3_lostBy 20 = .ok (.iconst 0, 1) := by decide +kernel
theorem dX3_lostBy_21 : decode cX3_lostBy 21 = .ok (.istore_n 2, 1) := by decide +kernel
theorem dX3_lostBy_22 : decode cX3_lostBy 22 = .ok (.iconst 0, 1) := by decide +kernel
theorem dX3_lostBy_23 : decode cX3_lostBy 23 = .ok (.istore_n 3, 1) := by decide +kernel
theorem dX3_lostBy_24 : decode cX3_lostBy 24 = .ok (.iload_n 3, 1) := by decide +kernel
theorem dX3_lostBy_25 : decode cX3_lostBy 25 = .ok (.bipush 60, 2) := by decide +kernel
theorem dX3_lostBy_27 : decode cX3_lostBy 27 = .ok (.if_icmp .ge 18, 3) := by decide +kernel
theorem dX3_lostBy_30 : decode cX3_lostBy 30 = .ok (.iload_n 2, 1) := by decide +kernel
theorem dX3_lostBy_31 : decode cX3_lostBy 31 = .ok (.ifCond .ne 14, 3) := by decide +kernel
theorem dX3_lostBy_34 : decode cX3_lostBy 34 = .ok (.aload_n 0, 1) := by decide +kernel
theorem dX3_lostBy_35 : decode cX3_lostBy 35 = .ok (.invokevirtual 114, 3) := by decide +kernel
theorem dX3_lostBy_38 : decode cX3_lostBy 38 = .ok (.istore_n 2, 1) := by decide +kernel
theorem dX3_lostBy_39 : decode cX3_lostBy 39 = .ok (.iinc 3 1, 3) := by decide +kernel
theorem dX3_lostBy_42 : decode cX3_lostBy 42 = .ok (.goto (-18), 3) := by decide +kernel
theorem dX3_lostBy_45 : decode cX3_lostBy 45 = .ok (.aload_n 0, 1) := by decide +kernel
theorem dX3_lostBy_46 : decode cX3_lostBy 46 = .ok (.getfield 13, 3) := by decide +kernel
theorem dX3_lostBy_49 : decode cX3_lostBy 49 = .ok (.iconst 0, 1) := by decide +kernel
theorem dX3_lostBy_50 : decode cX3_lostBy 50 = .ok (.aload_n 0, 1) := by decide +kernel
theorem dX3_lostBy_51 : decode cX3_lostBy 51 = .ok (.getfield 7, 3) := by decide +kernel
theorem dX3_lostBy_54 : decode cX3_lostBy 54 = .ok (.iconst 0, 1) := by decide +kernel
theorem dX3_lostBy_55 : decode cX3_lostBy 55 = .ok (.invokestatic 44, 3) := by decide +kernel
theorem dX3_lostBy_58 : decode cX3_lostBy 58 = .ok (.iload_n 2, 1) := by decide +kernel
theorem dX3_lostBy_59 : decode cX3_lostBy 59 = .ok (.ireturn, 1) := by decide +kernel
theorem dX3_safeAge_0 : decode cX3_safeAge 0 = .ok (.bipush 60, 2) := by decide +kernel
theorem dX3_safeAge_2 : decode cX3_safeAge 2 = .ok (.istore_n 1, 1) := by decide +kernel
theorem dX3_safeAge_3 : decode cX3_safeAge 3 = .ok (.iload_n 1, 1) := by decide +kernel
theorem dX3_safeAge_4 : decode cX3_safeAge 4 = .ok (.ifCond .le 17, 3) := by decide +kernel
theorem dX3_safeAge_7 : decode cX3_safeAge 7 = .ok (.aload_n 0, 1) := by decide +kernel
theorem dX3_safeAge_8 : decode cX3_safeAge 8 = .ok (.iload_n 1, 1) := by decide +kernel
theorem dX3_safeAge_9 : decode cX3_safeAge 9 = .ok (.invokevirtual 164, 3) := by decide +kernel
theorem dX3_safeAge_12 : decode cX3_safeAge 12 = .ok (.ifCond .le 9, 3) := by decide +kernel
theorem dX3_safeAge_15 : decode cX3_safeAge 15 = .ok (.iinc 1 (-1), 3) := by decide +kernel
theorem dX3_safeAge_18 : decode cX3_safeAge 18 = .ok (.goto (-15), 3) := by decide +kernel
theorem dX3_safeAge_21 : decode cX3_safeAge 21 = .ok (.iload_n 1, 1) := by decide +kernel
theorem dX3_safeAge_22 : decode cX3_safeAge 22 = .ok (.ifCond .ne 8, 3) := by decide +kernel
theorem dX3_safeAge_25 : decode cX3_safeAge 25 = .ok (.ldc 163, 2) := by decide +kernel
theorem dX3_safeAge_27 : decode cX3_safeAge 27 = .ok (.goto 4, 3) := by decide +kernel
theorem dX3_safeAge_30 : decode cX3_safeAge 30 = .ok (.iload_n 1, 1) := by decide +kernel
theorem dX3_safeAge_31 : decode cX3_safeAge 31 = .ok (.ireturn, 1) := by decide +kernel
theorem dX3_worst_0 : decode cX3_worst 0 = .ok (.iload_n 1, 1) := by decide +kernel
theorem dX3_worst_1 : decode cX3_worst 1 = .ok (.invokestatic 67, 3) := by decide +kernel
theorem dX3_worst_4 : decode cX3_worst 4 = .ok (.ifCond .ne 6, 3) := by decide +kernel
theorem dX3_worst_7 : decode cX3_worst 7 = .ok (.ldc 124, 2) := by decide +kernel
theorem dX3_worst_9 : decode cX3_worst 9 = .ok (.ireturn, 1) := by decide +kernel
theorem dX3_worst_10 : decode cX3_worst 10 = .ok (.ldc 163, 2) := by decide +kernel
theorem dX3_worst_12 : decode cX3_worst 12 = .ok (.istore_n 2, 1) := by decide +kernel
theorem dX3_worst_13 : decode cX3_worst 13 = .ok (.iconst 0, 1) := by decide +kernel
theorem dX3_worst_14 : decode cX3_worst 14 = .ok (.istore_n 3, 1) := by decide +kernel
theorem dX3_worst_15 : decode cX3_worst 15 = .ok (.iload_n 3, 1) := by decide +kernel
theorem dX3_worst_16 : decode cX3_worst 16 = .ok (.bipush 6, 2) := by decide +kernel
theorem dX3_worst_18 : decode cX3_worst 18 = .ok (.if_icmp .ge 84, 3) := by decide +kernel
theorem dX3_worst_21 : decode cX3_worst 21 = .ok (.iconst 0, 1) := by decide +kernel
theorem dX3_worst_22 : decode cX3_worst 22 = .ok (.istore 4, 2) := by decide +kernel
theorem dX3_worst_24 : decode cX3_worst 24 = .ok (.iconst 0, 1) := by decide +kernel
theorem dX3_worst_25 : decode cX3_worst 25 = .ok (.istore 5, 2) := by decide +kernel
theorem dX3_worst_27 : decode cX3_worst 27 = .ok (.iload 5, 2) := by decide +kernel
theorem dX3_worst_29 : decode cX3_worst 29 = .ok (.bipush 6, 2) := by decide +kernel
theorem dX3_worst_31 : decode cX3_worst 31 = .ok (.if_icmp .ge 53, 3) := by decide +kernel
theorem dX3_worst_34 : decode cX3_worst 34 = .ok (.iload 4, 2) := by decide +kernel
theorem dX3_worst_36 : decode cX3_worst 36 = .ok (.aload_n 0, 1) := by decide +kernel
theorem dX3_worst_37 : decode cX3_worst 37 = .ok (.iload 5, 2) := by decide +kernel
theorem dX3_worst_39 : decode cX3_worst 39 = .ok (.invokevirtual 89, 3) := by decide +kernel
theorem dX3_worst_42 : decode cX3_worst 42 = .ok (.aload_n 0, 1) := by decide +kernel
theorem dX3_worst_43 : decode cX3_worst 43 = .ok (.iload_n 3, 1) := by decide +kernel
theorem dX3_worst_44 : decode cX3_worst 44 = .ok (.invokevirtual 89, 3) := by decide +kernel
theorem dX3_worst_47 : decode cX3_worst 47 = .ok (.if_icmp .gt 23, 3) := by decide +kernel
theorem dX3_worst_50 : decode cX3_worst 50 = .ok (.aload_n 0, 1) := by decide +kernel
theorem dX3_worst_51 : decode cX3_worst 51 = .ok (.iload 5, 2) := by decide +kernel
theorem dX3_worst_53 : decode cX3_worst 53 = .ok (.invokevirtual 89, 3) := by decide +kernel
theorem dX3_worst_56 : decode cX3_worst 56 = .ok (.aload_n 0, 1) := by decide +kernel
theorem dX3_worst_57 : decode cX3_worst 57 = .ok (.iload_n 3, 1) := by decide +kernel
theorem dX3_worst_58 : decode cX3_worst 58 = .ok (.invokevirtual 89, 3) := by decide +kernel
theorem dX3_worst_61 : decode cX3_worst 61 = .ok (.if_icmp .ne 13, 3) := by decide +kernel
theorem dX3_worst_64 : decode cX3_worst 64 = .ok (.iload 5, 2) := by decide +kernel
theorem dX3_worst_66 : decode cX3_worst 66 = .ok (.iload_n 3, 1) := by decide +kernel
theorem dX3_worst_67 : decode cX3_worst 67 = .ok (.if_icmp .ge 7, 3) := by decide +kernel
theorem dX3_worst_70 : decode cX3_worst 70 = .ok (.iconst 1, 1) := by decide +kernel
theorem dX3_worst_71 : decode cX3_worst 71 = .ok (.goto 4, 3) := by decide +kernel
theorem dX3_worst_74 : decode cX3_worst 74 = .ok (.iconst 0, 1) := by decide +kernel
theorem dX3_worst_75 : decode cX3_worst 75 = .ok (.iadd, 1) := by decide +kernel
theorem dX3_worst_76 : decode cX3_worst 76 = .ok (.istore 4, 2) := by decide +kernel
theorem dX3_worst_78 : decode cX3_worst 78 = .ok (.iinc 5 1, 3) := by decide +kernel
theorem dX3_worst_81 : decode cX3_worst 81 = .ok (.goto (-54), 3) := by decide +kernel
theorem dX3_worst_84 : decode cX3_worst 84 = .ok (.iload 4, 2) := by decide +kernel
theorem dX3_worst_86 : decode cX3_worst 86 = .ok (.iload_n 1, 1) := by decide +kernel
theorem dX3_worst_87 : decode cX3_worst 87 = .ok (.if_icmp .ne 7, 3) := by decide +kernel
theorem dX3_worst_90 : decode cX3_worst 90 = .ok (.iload_n 3, 1) := by decide +kernel
theorem dX3_worst_91 : decode cX3_worst 91 = .ok (.goto 4, 3) := by decide +kernel
theorem dX3_worst_94 : decode cX3_worst 94 = .ok (.iload_n 2, 1) := by decide +kernel
theorem dX3_worst_95 : decode cX3_worst 95 = .ok (.istore_n 2, 1) := by decide +kernel
theorem dX3_worst_96 : decode cX3_worst 96 = .ok (.iinc 3 1, 3) := by decide +kernel
theorem dX3_worst_99 : decode cX3_worst 99 = .ok (.goto (-84), 3) := by decide +kernel
theorem dX3_worst_102 : decode cX3_worst 102 = .ok (.iload_n 2, 1) := by decide +kernel
theorem dX3_worst_103 : decode cX3_worst 103 = .ok (.ireturn, 1) := by decide +kernel
theorem dX3_mean_0 : decode cX3_mean 0 = .ok (.iconst 0, 1) := by decide +kernel
theorem dX3_mean_1 : decode cX3_mean 1 = .ok (.istore_n 1, 1) := by decide +kernel
theorem dX3_mean_2 : decode cX3_mean 2 = .ok (.iconst 0, 1) := by decide +kernel
theorem dX3_mean_3 : decode cX3_mean 3 = .ok (.istore_n 2, 1) := by decide +kernel
theorem dX3_mean_4 : decode cX3_mean 4 = .ok (.iload_n 2, 1) := by decide +kernel
theorem dX3_mean_5 : decode cX3_mean 5 = .ok (.bipush 48, 2) := by decide +kernel
theorem dX3_mean_7 : decode cX3_mean 7 = .ok (.if_icmp .ge 45, 3) := by decide +kernel
theorem dX3_mean_10 : decode cX3_mean 10 = .ok (.iload_n 1, 1) := by decide +kernel
theorem dX3_mean_11 : decode cX3_mean 11 = .ok (.aload_n 0, 1) := by decide +kernel
theorem dX3_mean_12 : decode cX3_mean 12 = .ok (.iload_n 2, 1) := by decide +kernel
theorem dX3_mean_13 : decode cX3_mean 13 = .ok (.bipush 8, 2) := by decide +kernel
theorem dX3_mean_15 : decode cX3_mean 15 = .ok (.idiv, 1) := by decide +kernel
theorem dX3_mean_16 : decode cX3_mean 16 = .ok (.iload_n 2, 1) := by decide +kernel
theorem dX3_mean_17 : decode cX3_mean 17 = .ok (.bipush 8, 2) := by decide +kernel
theorem dX3_mean_19 : decode cX3_mean 19 = .ok (.irem, 1) := by decide +kernel
theorem dX3_mean_20 : decode cX3_mean 20 = .ok (.iconst 1, 1) := by decide +kernel
theorem dX3_mean_21 : decode cX3_mean 21 = .ok (.invokevirtual 56, 3) := by decide +kernel
theorem dX3_mean_24 : decode cX3_mean 24 = .ok (.aload_n 0, 1) := by decide +kernel
theorem dX3_mean_25 : decode cX3_mean 25 = .ok (.iload_n 2, 1) := by decide +kernel
theorem dX3_mean_26 : decode cX3_mean 26 = .ok (.bipush 8, 2) := by decide +kernel
theorem dX3_mean_28 : decode cX3_mean 28 = .ok (.idiv, 1) := by decide +kernel
theorem dX3_mean_29 : decode cX3_mean 29 = .ok (.iload_n 2, 1) := by decide +kernel
theorem dX3_mean_30 : decode cX3_mean 30 = .ok (.bipush 8, 2) := by decide +kernel
theorem dX3_mean_32 : decode cX3_mean 32 = .ok (.irem, 1) := by decide +kernel
theorem dX3_mean_33 : decode cX3_mean 33 = .ok (.iconst 0, 1) := by decide +kernel
theorem dX3_mean_34 : decode cX3_mean 34 = .ok (.invokevirtual 56, 3) := by decide +kernel
theorem dX3_mean_37 : decode cX3_mean 37 = .ok (.invokestatic 63, 3) := by decide +kernel
theorem dX3_mean_40 : decode cX3_mean 40 = .ok (.isub, 1) := by decide +kernel
theorem dX3_mean_41 : decode cX3_mean 41 = .ok (.invokestatic 99, 3) := by decide +kernel
theorem dX3_mean_44 : decode cX3_mean 44 = .ok (.iadd, 1) := by decide +kernel
theorem dX3_mean_45 : decode cX3_mean 45 = .ok (.istore_n 1, 1) := by decide +kernel
theorem dX3_mean_46 : decode cX3_mean 46 = .ok (.iinc 2 1, 3) := by decide +kernel
theorem dX3_mean_49 : decode cX3_mean 49 = .ok (.goto (-45), 3) := by decide +kernel
theorem dX3_mean_52 : decode cX3_mean 52 = .ok (.iload_n 1, 1) := by decide +kernel
theorem dX3_mean_53 : decode cX3_mean 53 = .ok (.i2f, 1) := by decide +kernel
theorem dX3_mean_54 : decode cX3_mean 54 = .ok (.ldc 167, 2) := by decide +kernel
theorem dX3_mean_56 : decode cX3_mean 56 = .ok (.fdiv, 1) := by decide +kernel
theorem dX3_mean_57 : decode cX3_mean 57 = .ok (.invokestatic 168, 3) := by decide +kernel
theorem dX3_mean_60 : decode cX3_mean 60 = .ok (.ireturn, 1) := by decide +kernel
theorem dX3_share_0 : decode cX3_share 0 = .ok (.aload_n 0, 1) := by decide +kernel
theorem dX3_share_1 : decode cX3_share 1 = .ok (.getfield 7, 3) := by decide +kernel
theorem dX3_share_4 : decode cX3_share 4 = .ok (.bipush 8, 2) := by decide +kernel
theorem dX3_share_6 : decode cX3_share 6 = .ok (.iaload, 1) := by decide +kernel
theorem dX3_share_7 : decode cX3_share 7 = .ok (.aload_n 0, 1) := by decide +kernel
theorem dX3_share_8 : decode cX3_share 8 = .ok (.getfield 7, 3) := by decide +kernel
theorem dX3_share_11 : decode cX3_share 11 = .ok (.bipush 12, 2) := by decide +kernel
theorem dX3_share_13 : decode cX3_share 13 = .ok (.iaload, 1) := by decide +kernel
theorem dX3_share_14 : decode cX3_share 14 = .ok (.iadd, 1) := by decide +kernel
theorem dX3_share_15 : decode cX3_share 15 = .ok (.aload_n 0, 1) := by decide +kernel
theorem dX3_share_16 : decode cX3_share 16 = .ok (.getfield 7, 3) := by decide +kernel
theorem dX3_share_19 : decode cX3_share 19 = .ok (.bipush 16, 2) := by decide +kernel
theorem dX3_share_21 : decode cX3_share 21 = .ok (.iaload, 1) := by decide +kernel
theorem dX3_share_22 : decode cX3_share 22 = .ok (.iadd, 1) := by decide +kernel
theorem dX3_share_23 : decode cX3_share 23 = .ok (.istore_n 1, 1) := by decide +kernel
theorem dX3_share_24 : decode cX3_share 24 = .ok (.aload_n 0, 1) := by decide +kernel
theorem dX3_share_25 : decode cX3_share 25 = .ok (.getfield 7, 3) := by decide +kernel
theorem dX3_share_28 : decode cX3_share 28 = .ok (.bipush 7, 2) := by decide +kernel
theorem dX3_share_30 : decode cX3_share 30 = .ok (.iaload, 1) := by decide +kernel
theorem dX3_share_31 : decode cX3_share 31 = .ok (.ifCond .ne 8, 3) := by decide +kernel
theorem dX3_share_34 : decode cX3_share 34 = .ok (.ldc 163, 2) := by decide +kernel
theorem dX3_share_36 : decode cX3_share 36 = .ok (.goto 17, 3) := by decide +kernel
theorem dX3_share_39 : decode cX3_share 39 = .ok (.iload_n 1, 1) := by decide +kernel
theorem dX3_share_40 : decode cX3_share 40 = .ok (.i2f, 1) := by decide +kernel
theorem dX3_share_41 : decode cX3_share 41 = .ok (.aload_n 0, 1) := by decide +kernel
theorem dX3_share_42 : decode cX3_share 42 = .ok (.getfield 7, 3) := by decide +kernel
theorem dX3_share_45 : decode cX3_share 45 = .ok (.bipush 7, 2) := by decide +kernel
theorem dX3_share_47 : decode cX3_share 47 = .ok (.iaload, 1) := by decide +kernel
theorem dX3_share_48 : decode cX3_share 48 = .ok (.i2f, 1) := by decide +kernel
theorem dX3_share_49 : decode cX3_share 49 = .ok (.fdiv, 1) := by decide +kernel
theorem dX3_share_50 : decode cX3_share 50 = .ok (.invokestatic 168, 3) := by decide +kernel
theorem dX3_share_53 : decode cX3_share 53 = .ok (.ireturn, 1) := by decide +kernel
theorem dX3_wrongAll_0 : decode cX3_wrongAll 0 = .ok (.iconst 0, 1) := by decide +kernel
theorem dX3_wrongAll_1 : decode cX3_wrongAll 1 = .ok (.istore_n 1, 1) := by decide +kernel
theorem dX3_wrongAll_2 : decode cX3_wrongAll 2 = .ok (.iconst 0, 1) := by decide +kernel
theorem dX3_wrongAll_3 : decode cX3_wrongAll 3 = .ok (.istore_n 2, 1) := by decide +kernel
theorem dX3_wrongAll_4 : decode cX3_wrongAll 4 = .ok (.iload_n 2, 1) := by decide +kernel
theorem dX3_wrongAll_5 : decode cX3_wrongAll 5 = .ok (.bipush 6, 2) := by decide +kernel
theorem dX3_wrongAll_7 : decode cX3_wrongAll 7 = .ok (.if_icmp .ge 17, 3) := by decide +kernel
theorem dX3_wrongAll_10 : decode cX3_wrongAll 10 = .ok (.iload_n 1, 1) := by decide +kernel
theorem dX3_wrongAll_11 : decode cX3_wrongAll 11 = .ok (.aload_n 0, 1) := by decide +kernel
theorem dX3_wrongAll_12 : decode cX3_wrongAll 12 = .ok (.iload_n 2, 1) := by decide +kernel
theorem dX3_wrongAll_13 : decode cX3_wrongAll 13 = .ok (.invokevirtual 89, 3) := by decide +kernel
theorem dX3_wrongAll_16 : decode cX3_wrongAll 16 = .ok (.iadd, 1) := by decide +kernel
theorem dX3_wrongAll_17 : decode cX3_wrongAll 17 = .ok (.istore_n 1, 1) := by decide +kernel
theorem dX3_wrongAll_18 : decode cX3_wrongAll 18 = .ok (.iinc 2 1, 3) := by decide +kernel
theorem dX3_wrongAll_21 : decode cX3_wrongAll 21 = .ok (.goto (-17), 3) := by decide +kernel
theorem dX3_wrongAll_24 : decode cX3_wrongAll 24 = .ok (.iload_n 1, 1) := by decide +kernel
theorem dX3_wrongAll_25 : decode cX3_wrongAll 25 = .ok (.ireturn, 1) := by decide +kernel
theorem dX3_isOf_0 : decode cX3_isOf 0 = .ok (.iload_n 2, 1) := by decide +kernel
theorem dX3_isOf_1 : decode cX3_isOf 1 = .ok (.iconst 2, 1) := by decide +kernel
theorem dX3_isOf_2 : decode cX3_isOf 2 = .ok (.if_icmp .ne 19, 3) := by decide +kernel
theorem dX3_isOf_5 : decode cX3_isOf 5 = .ok (.aload_n 0, 1) := by decide +kernel
theorem dX3_isOf_6 : decode cX3_isOf 6 = .ok (.iload_n 1, 1) := by decide +kernel
theorem dX3_isOf_7 : decode cX3_isOf 7 = .ok (.invokevirtual 89, 3) := by decide +kernel
theorem dX3_isOf_10 : decode cX3_isOf 10 = .ok (.ifCond .le 7, 3) := by decide +kernel
theorem dX3_isOf_13 : decode cX3_isOf 13 = .ok (.iconst 1, 1) := by decide +kernel
theorem dX3_isOf_14 : decode cX3_isOf 14 = .ok (.goto 36, 3) := by decide +kernel
theorem dX3_isOf_17 : decode cX3_isOf 17 = .ok (.iconst 0, 1) := by decide +kernel
theorem dX3_isOf_18 : decode cX3_isOf 18 = .ok (.goto 32, 3) := by decide +kernel
theorem dX3_isOf_21 : decode cX3_isOf 21 = .ok (.iload_n 2, 1) := by decide +kernel
theorem dX3_isOf_22 : decode cX3_isOf 22 = .ok (.iconst 3, 1) := by decide +kernel
theorem dX3_isOf_23 : decode cX3_isOf 23 = .ok (.if_icmp .ne 11, 3) := by decide +kernel
theorem dX3_isOf_26 : decode cX3_isOf 26 = .ok (.aload_n 0, 1) := by decide +kernel
theorem dX3_isOf_27 : decode cX3_isOf 27 = .ok (.iload_n 1, 1) := by decide +kernel
theorem dX3_isOf_28 : decode cX3_isOf 28 = .ok (.invokevirtual 71, 3) := by decide +kernel
theorem dX3_isOf_31 : decode cX3_isOf 31 = .ok (.goto 19, 3) := by decide +kernel
theorem dX3_isOf_34 : decode cX3_isOf 34 = .ok (.aload_n 0, 1) := by decide +kernel
theorem dX3_isOf_35 : decode cX3_isOf 35 = .ok (.iload_n 1, 1) := by decide +kernel
theorem dX3_isOf_36 : decode cX3_isOf 36 = .ok (.invokevirtual 154, 3) := by decide +kernel
theorem dX3_isOf_39 : decode cX3_isOf 39 = .ok (.iload_n 2, 1) := by decide +kernel
theorem dX3_isOf_40 : decode cX3_isOf 40 = .ok (.iconst 3, 1) := by decide +kernel
theorem dX3_isOf_41 : decode cX3_isOf 41 = .ok (.isub, 1) := by decide +kernel
theorem dX3_isOf_42 : decode cX3_isOf 42 = .ok (.if_icmp .ne 7, 3) := by decide +kernel
theorem dX3_isOf_45 : decode cX3_isOf 45 = .ok (.iconst 1, 1) := by decide +kernel
theorem dX3_isOf_46 : decode cX3_isOf 46 = .ok (.goto 4, 3) := by decide +kernel
theorem dX3_isOf_49 : decode cX3_isOf 49 = .ok (.iconst 0, 1) := by decide +kernel
theorem dX3_isOf_50 : decode cX3_isOf 50 = .ok (.ireturn, 1) := by decide +kernel
theorem dX3_setOf_0 : decode cX3_setOf 0 = .ok (.iconst 0, 1) := by decide +kernel
theorem dX3_setOf_1 : decode cX3_setOf 1 = .ok (.istore_n 2, 1) := by decide +kernel
theorem dX3_setOf_2 : decode cX3_setOf 2 = .ok (.iconst 0, 1) := by decide +kernel
theorem dX3_setOf_3 : decode cX3_setOf 3 = .ok (.istore_n 3, 1) := by decide +kernel
theorem dX3_setOf_4 : decode cX3_setOf 4 = .ok (.iload_n 3, 1) := by decide +kernel
theorem dX3_setOf_5 : decode cX3_setOf 5 = .ok (.bipush 6, 2) := by decide +kernel
theorem dX3_setOf_7 : decode cX3_setOf 7 = .ok (.if_icmp .ge 28, 3) := by decide +kernel
theorem dX3_setOf_10 : decode cX3_setOf 10 = .ok (.iload_n 2, 1) := by decide +kernel
theorem dX3_setOf_11 : decode cX3_setOf 11 = .ok (.aload_n 0, 1) := by decide +kernel
theorem dX3_setOf_12 : decode cX3_setOf 12 = .ok (.iload_n 3, 1) := by decide +kernel
theorem dX3_setOf_13 : decode cX3_setOf 13 = .ok (.iload_n 1, 1) := by decide +kernel
theorem dX3_setOf_14 : decode cX3_setOf 14 = .ok (.invokevirtual 174, 3) := by decide +kernel
theorem dX3_setOf_17 : decode cX3_setOf 17 = .ok (.ifCond .eq 9, 3) := by decide +kernel
theorem dX3_setOf_20 : decode cX3_setOf 20 = .ok (.iconst 1, 1) := by decide +kernel
theorem dX3_setOf_21 : decode cX3_setOf 21 = .ok (.iload_n 3, 1) := by decide +kernel
theorem dX3_setOf_22 : decode cX3_setOf 22 = .ok (.ishl, 1) := by decide +kernel
theorem dX3_setOf_23 : decode cX3_setOf 23 = .ok (.goto 4, 3) := by decide +kernel
theorem dX3_setOf_26 : decode cX3_setOf 26 = .ok (.iconst 0, 1) := by decide +kernel
theorem dX3_setOf_27 : decode cX3_setOf 27 = .ok (.ior, 1) := by decide +kernel
theorem dX3_setOf_28 : decode cX3_setOf 28 = .ok (.istore_n 2, 1) := by decide +kernel
theorem dX3_setOf_29 : decode cX3_setOf 29 = .ok (.iinc 3 1, 3) := by decide +kernel
theorem dX3_setOf_32 : decode cX3_setOf 32 = .ok (.goto (-28), 3) := by decide +kernel
theorem dX3_setOf_35 : decode cX3_setOf 35 = .ok (.iload_n 2, 1) := by decide +kernel
theorem dX3_setOf_36 : decode cX3_setOf 36 = .ok (.ireturn, 1) := by decide +kernel
theorem dX3_failed_0 : decode cX3_failed 0 = .ok (.iconst 0, 1) := by decide +kernel
theorem dX3_failed_1 : decode cX3_failed 1 = .ok (.istore_n 1, 1) := by decide +kernel
theorem dX3_failed_2 : decode cX3_failed 2 = .ok (.iconst 0, 1) := by decide +kernel
theorem dX3_failed_3 : decode cX3_failed 3 = .ok (.istore_n 2, 1) := by decide +kernel
theorem dX3_failed_4 : decode cX3_failed 4 = .ok (.iload_n 2, 1) := by decide +kernel
theorem dX3_failed_5 : decode cX3_failed 5 = .ok (.bipush 18, 2) := by decide +kernel
theorem dX3_failed_7 : decode cX3_failed 7 = .ok (.if_icmp .ge 25, 3) := by decide +kernel
theorem dX3_failed_10 : decode cX3_failed 10 = .ok (.iload_n 1, 1) := by decide +kernel
theorem dX3_failed_11 : decode cX3_failed 11 = .ok (.aload_n 0, 1) := by decide +kernel
theorem dX3_failed_12 : decode cX3_failed 12 = .ok (.iload_n 2, 1) := by decide +kernel
theorem dX3_failed_13 : decode cX3_failed 13 = .ok (.iconst 3, 1) := by decide +kernel
theorem dX3_failed_14 : decode cX3_failed 14 = .ok (.idiv, 1) := by decide +kernel
theorem dX3_failed_15 : decode cX3_failed 15 = .ok (.bipush 7, 2) := by decide +kernel
theorem dX3_failed_17 : decode cX3_failed 17 = .ok (.iload_n 2, 1) := by decide +kernel
theorem dX3_failed_18 : decode cX3_failed 18 = .ok (.iconst 3, 1) := by decide +kernel
theorem dX3_failed_19 : decode cX3_failed 19 = .ok (.irem, 1) := by decide +kernel
theorem dX3_failed_20 : decode cX3_failed 20 = .ok (.iadd, 1) := by decide +kernel
theorem dX3_failed_21 : decode cX3_failed 21 = .ok (.invokevirtual 52, 3) := by decide +kernel
theorem dX3_failed_24 : decode cX3_failed 24 = .ok (.iadd, 1) := by decide +kernel
theorem dX3_failed_25 : decode cX3_failed 25 = .ok (.istore_n 1, 1) := by decide +kernel
theorem dX3_failed_26 : decode cX3_failed 26 = .ok (.iinc 2 1, 3) := by decide +kernel
theorem dX3_failed_29 : decode cX3_failed 29 = .ok (.goto (-25), 3) := by decide +kernel
theorem dX3_failed_32 : decode cX3_failed 32 = .ok (.iload_n 1, 1) := by decide +kernel
theorem dX3_failed_33 : decode cX3_failed 33 = .ok (.ireturn, 1) := by decide +kernel
theorem dX3_pairs_0 : decode cX3_pairs 0 = .ok (.iconst 0, 1) := by decide +kernel
theorem dX3_pairs_1 : decode cX3_pairs 1 = .ok (.istore_n 1, 1) := by decide +kernel
theorem dX3_pairs_2 : decode cX3_pairs 2 = .ok (.iconst 0, 1) := by decide +kernel
theorem dX3_pairs_3 : decode cX3_pairs 3 = .ok (.istore_n 2, 1) := by decide +kernel
theorem dX3_pairs_4 : decode cX3_pairs 4 = .ok (.iload_n 2, 1) := by decide +kernel
theorem dX3_pairs_5 : decode cX3_pairs 5 = .ok (.bipush 9, 2) := by decide +kernel
theorem dX3_pairs_7 : decode cX3_pairs 7 = .ok (.if_icmp .ge 29, 3) := by decide +kernel
theorem dX3_pairs_10 : decode cX3_pairs 10 = .ok (.iload_n 1, 1) := by decide +kernel
theorem dX3_pairs_11 : decode cX3_pairs 11 = .ok (.aload_n 0, 1) := by decide +kernel
theorem dX3_pairs_12 : decode cX3_pairs 12 = .ok (.getfield 7, 3) := by decide +kernel
theorem dX3_pairs_15 : decode cX3_pairs 15 = .ok (.bipush 8, 2) := by decide +kernel
theorem dX3_pairs_17 : decode cX3_pairs 17 = .ok (.iload_n 2, 1) := by decide +kernel
theorem dX3_pairs_18 : decode cX3_pairs 18 = .ok (.iadd, 1) := by decide +kernel
theorem dX3_pairs_19 : decode cX3_pairs 19 = .ok (.iaload, 1) := by decide +kernel
theorem dX3_pairs_20 : decode cX3_pairs 20 = .ok (.ifCond .le 7, 3) := by decide +kernel
theorem dX3_pairs_23 : decode cX3_pairs 23 = .ok (.iconst 1, 1) := by decide +kernel
theorem dX3_pairs_24 : decode cX3_pairs 24 = .ok (.goto 4, 3) := by decide +kernel
theorem dX3_pairs_27 : decode cX3_pairs 27 = .ok (.iconst 0, 1) := by decide +kernel
theorem dX3_pairs_28 : decode cX3_pairs 28 = .ok (.iadd, 1) := by decide +kernel
theorem dX3_pairs_29 : decode cX3_pairs 29 = .ok (.istore_n 1, 1) := by decide +kernel
theorem dX3_pairs_30 : decode cX3_pairs 30 = .ok (.iinc 2 1, 3) := by decide +kernel
theorem dX3_pairs_33 : decode cX3_pairs 33 = .ok (.goto (-29), 3) := by decide +kernel
theorem dX3_pairs_36 : decode cX3_pairs 36 = .ok (.iload_n 1, 1) := by decide +kernel
theorem dX3_pairs_37 : decode cX3_pairs 37 = .ok (.ireturn, 1) := by decide +kernel
theorem dX3_ofLevel_0 : decode cX3_ofLevel 0 = .ok (.iconst 0, 1) := by decide +kernel
theorem dX3_ofLevel_1 : decode cX3_ofLevel 1 = .ok (.istore_n 2, 1) := by decide +kernel
theorem dX3_ofLevel_2 : decode cX3_ofLevel 2 = .ok (.iconst 0, 1) := by decide +kernel
theorem dX3_ofLevel_3 : decode cX3_ofLevel 3 = .ok (.istore_n 3, 1) := by decide +kernel
theorem dX3_ofLevel_4 : decode cX3_ofLevel 4 = .ok (.iload_n 3, 1) := by decide +kernel
theorem dX3_ofLevel_5 : decode cX3_ofLevel 5 = .ok (.bipush 48, 2) := by decide +kernel
theorem dX3_ofLevel_7 : decode cX3_ofLevel 7 = .ok (.if_icmp .ge 34, 3) := by decide +kernel
theorem dX3_ofLevel_10 : decode cX3_ofLevel 10 = .ok (.iload_n 2, 1) := by decide +kernel
theorem dX3_ofLevel_11 : decode cX3_ofLevel 11 = .ok (.aload_n 0, 1) := by decide +kernel
theorem dX3_ofLevel_12 : decode cX3_ofLevel 12 = .ok (.iload_n 3, 1) := by decide +kernel
theorem dX3_ofLevel_13 : decode cX3_ofLevel 13 = .ok (.bipush 8, 2) := by decide +kernel
theorem dX3_ofLevel_15 : decode cX3_ofLevel 15 = .ok (.idiv, 1) := by decide +kernel
theorem dX3_ofLevel_16 : decode cX3_ofLevel 16 = .ok (.iload_n 3, 1) := by decide +kernel
theorem dX3_ofLevel_17 : decode cX3_ofLevel 17 = .ok (.bipush 8, 2) := by decide +kernel
theorem dX3_ofLevel_19 : decode cX3_ofLevel 19 = .ok (.irem, 1) := by decide +kernel
theorem dX3_ofLevel_20 : decode cX3_ofLevel 20 = .ok (.iconst 0, 1) := by decide +kernel
theorem dX3_ofLevel_21 : decode cX3_ofLevel 21 = .ok (.invokevirtual 56, 3) := by decide +kernel
theorem dX3_ofLevel_24 : decode cX3_ofLevel 24 = .ok (.iload_n 1, 1) := by decide +kernel
theorem dX3_ofLevel_25 : decode cX3_ofLevel 25 = .ok (.if_icmp .ne 7, 3) := by decide +kernel
theorem dX3_ofLevel_28 : decode cX3_ofLevel 28 = .ok (.iconst 1, 1) := by decide +kernel
theorem dX3_ofLevel_29 : decode cX3_ofLevel 29 = .ok (.goto 4, 3) := by decide +kernel
theorem dX3_ofLevel_32 : decode cX3_ofLevel 32 = .ok (.iconst 0, 1) := by decide +kernel
theorem dX3_ofLevel_33 : decode cX3_ofLevel 33 = .ok (.iadd, 1) := by decide +kernel
theorem dX3_ofLevel_34 : decode cX3_ofLevel 34 = .ok (.istore_n 2, 1) := by decide +kernel
theorem dX3_ofLevel_35 : decode cX3_ofLevel 35 = .ok (.iinc 3 1, 3) := by decide +kernel
theorem dX3_ofLevel_38 : decode cX3_ofLevel 38 = .ok (.goto (-34), 3) := by decide +kernel
theorem dX3_ofLevel_41 : decode cX3_ofLevel 41 = .ok (.iload_n 2, 1) := by decide +kernel
theorem dX3_ofLevel_42 : decode cX3_ofLevel 42 = .ok (.ireturn, 1) := by decide +kernel
theorem dX3_count_0 : decode cX3_count 0 = .ok (.iload_n 1, 1) := by decide +kernel
theorem dX3_count_1 : decode cX3_count 1 = .ok (.bipush 7, 2) := by decide +kernel
theorem dX3_count_3 : decode cX3_count 3 = .ok (.bipush 10, 2) := by decide +kernel
theorem dX3_count_5 : decode cX3_count 5 = .ok (.invokestatic 48, 3) := by decide +kernel
theorem dX3_count_8 : decode cX3_count 8 = .ok (.ifCond .eq 15, 3) := by decide +kernel
theorem dX3_count_11 : decode cX3_count 11 = .ok (.aload_n 0, 1) := by decide +kernel
theorem dX3_count_12 : decode cX3_count 12 = .ok (.getfield 7, 3) := by decide +kernel
theorem dX3_count_15 : decode cX3_count 15 = .ok (.iconst 4, 1) := by decide +kernel
theorem dX3_count_16 : decode cX3_count 16 = .ok (.iload_n 1, 1) := by decide +kernel
theorem dX3_count_17 : decode cX3_count 17 = .ok (.iadd, 1) := by decide +kernel
theorem dX3_count_18 : decode cX3_count 18 = .ok (.bipush 7, 2) := by decide +kernel
theorem dX3_count_20 : decode cX3_count 20 = .ok (.isub, 1) := by decide +kernel
theorem dX3_count_21 : decode cX3_count 21 = .ok (.iaload, 1) := by decide +kernel
theorem dX3_count_22 : decode cX3_count 22 = .ok (.ireturn, 1) := by decide +kernel
theorem dX3_count_23 : decode cX3_count 23 = .ok (.iload_n 1, 1) := by decide +kernel
theorem dX3_count_24 : decode cX3_count 24 = .ok (.tableswitch 167 0 22 #[108, 115, 120, 120, 120, 120, 126, 167, 167, 167, 167, 131, 136, 136, 136, 145, 150, 167, 167, 167, 155, 155, 155], 108) := by decide +kernel
theorem dX3_count_132 : decode cX3_count 132 = .ok (.aload_n 0, 1) := by decide +kernel
theorem dX3_count_133 : decode cX3_count 133 = .ok (.getfield 7, 3) := by decide +kernel
theorem dX3_count_136 : decode cX3_count 136 = .ok (.iconst 0, 1) := by decide +kernel
theorem dX3_count_137 : decode cX3_count 137 = .ok (.iaload, 1) := by decide +kernel
theorem dX3_count_138 : decode cX3_count 138 = .ok (.ireturn, 1) := by decide +kernel
theorem dX3_count_139 : decode cX3_count 139 = .ok (.aload_n 0, 1) := by decide +kernel
theorem dX3_count_140 : decode cX3_count 140 = .ok (.invokevirtual 178, 3) := by decide +kernel
theorem dX3_count_143 : decode cX3_count 143 = .ok (.ireturn, 1) := by decide +kernel
theorem dX3_count_144 : decode cX3_count 144 = .ok (.aload_n 0, 1) := by decide +kernel
theorem dX3_count_145 : decode cX3_count 145 = .ok (.iload_n 1, 1) := by decide +kernel
theorem dX3_count_146 : decode cX3_count 146 = .ok (.invokevirtual 181, 3) := by decide +kernel
theorem dX3_count_149 : decode cX3_count 149 = .ok (.ireturn, 1) := by decide +kernel
theorem dX3_count_150 : decode cX3_count 150 = .ok (.aload_n 0, 1) := by decide +kernel
theorem dX3_count_151 : decode cX3_count 151 = .ok (.invokevirtual 184, 3) := by decide +kernel
theorem dX3_count_154 : decode cX3_count 154 = .ok (.ireturn, 1) := by decide +kernel
theorem dX3_count_155 : decode cX3_count 155 = .ok (.aload_n 0, 1) := by decide +kernel
theorem dX3_count_156 : decode cX3_count 156 = .ok (.invokevirtual 187, 3) := by decide +kernel
theorem dX3_count_159 : decode cX3_count 159 = .ok (.ireturn, 1) := by decide +kernel
theorem dX3_count_160 : decode cX3_count 160 = .ok (.aload_n 0, 1) := by decide +kernel
theorem dX3_count_161 : decode cX3_count 161 = .ok (.iload_n 1, 1) := by decide +kernel
theorem dX3_count_162 : decode cX3_count 162 = .ok (.bipush 12, 2) := by decide +kernel
theorem dX3_count_164 : decode cX3_count 164 = .ok (.isub, 1) := by decide +kernel
theorem dX3_count_165 : decode cX3_count 165 = .ok (.invokevirtual 190, 3) := by decide +kernel
theorem dX3_count_168 : decode cX3_count 168 = .ok (.ireturn, 1) := by decide +kernel
theorem dX3_count_169 : decode cX3_count 169 = .ok (.aload_n 0, 1) := by decide +kernel
theorem dX3_count_170 : decode cX3_count 170 = .ok (.getfield 40, 3) := by decide +kernel
theorem dX3_count_173 : decode cX3_count 173 = .ok (.ireturn, 1) := by decide +kernel
theorem dX3_count_174 : decode cX3_count 174 = .ok (.aload_n 0, 1) := by decide +kernel
theorem dX3_count_175 : decode cX3_count 175 = .ok (.getfield 193, 3) := by decide +kernel
theorem dX3_count_178 : decode cX3_count 178 = .ok (.ireturn, 1) := by decide +kernel
theorem dX3_count_179 : decode cX3_count 179 = .ok (.aload_n 0, 1) := by decide +kernel
theorem dX3_count_180 : decode cX3_count 180 = .ok (.getfield 7, 3) := by decide +kernel
theorem dX3_count_183 : decode cX3_count 183 = .ok (.iconst 1, 1) := by decide +kernel
theorem dX3_count_184 : decode cX3_count 184 = .ok (.iload_n 1, 1) := by decide +kernel
theorem dX3_count_185 : decode cX3_count 185 = .ok (.iadd, 1) := by decide +kernel
theorem dX3_count_186 : decode cX3_count 186 = .ok (.bipush 20, 2) := by decide +kernel
theorem dX3_count_188 : decode cX3_count 188 = .ok (.isub, 1) := by decide +kernel
theorem dX3_count_189 : decode cX3_count 189 = .ok (.iaload, 1) := by decide +kernel
theorem dX3_count_190 : decode cX3_count 190 = .ok (.ireturn, 1) := by decide +kernel
theorem dX3_count_191 : decode cX3_count 191 = .ok (.ldc 124, 2) := by decide +kernel
theorem dX3_count_193 : decode cX3_count 193 = .ok (.ireturn, 1) := by decide +kernel
theorem dX3_type_0 : decode cX3_type 0 = .ok (.iload_n 1, 1) := by decide +kernel
theorem dX3_type_1 : decode cX3_type 1 = .ok (.bipush 32, 2) := by decide +kernel
theorem dX3_type_3 : decode cX3_type 3 = .ok (.bipush 126, 2) := by decide +kernel
theorem dX3_type_5 : decode cX3_type 5 = .ok (.invokestatic 48, 3) := by decide +kernel
theorem dX3_type_8 : decode cX3_type 8 = .ok (.ifCond .ne 6, 3) := by decide +kernel
theorem dX3_type_11 : decode cX3_type 11 = .ok (.ldc 124, 2) := by decide +kernel
theorem dX3_type_13 : decode cX3_type 13 = .ok (.ireturn, 1) := by decide +kernel
theorem dX3_type_14 : decode cX3_type 14 = .ok (.aload_n 0, 1) := by decide +kernel
theorem dX3_type_15 : decode cX3_type 15 = .ok (.getfield 193, 3) := by decide +kernel
theorem dX3_type_18 : decode cX3_type 18 = .ok (.bipush 60, 2) := by decide +kernel
theorem dX3_type_20 : decode cX3_type 20 = .ok (.if_icmp .ne 6, 3) := by decide +kernel
theorem dX3_type_23 : decode cX3_type 23 = .ok (.ldc 126, 2) := by decide +kernel
theorem dX3_type_25 : decode cX3_type 25 = .ok (.ireturn, 1) := by decide +kernel
theorem dX3_type_26 : decode cX3_type 26 = .ok (.aload_n 0, 1) := by decide +kernel
theorem dX3_type_27 : decode cX3_type 27 = .ok (.getfield 22, 3) := by decide +kernel
theorem dX3_type_30 : decode cX3_type 30 = .ok (.aload_n 0, 1) := by decide +kernel
theorem dX3_type_31 : decode cX3_type 31 = .ok (.getfield 193, 3) := by decide +kernel
theorem dX3_type_34 : decode cX3_type 34 = .ok (.iload_n 1, 1) := by decide +kernel
theorem dX3_type_35 : decode cX3_type 35 = .ok (.iastore, 1) := by decide +kernel
theorem dX3_type_36 : decode cX3_type 36 = .ok (.aload_n 0, 1) := by decide +kernel
theorem dX3_type_37 : decode cX3_type 37 = .ok (.dup, 1) := by decide +kernel
theorem dX3_type_38 : decode cX3_type 38 = .ok (.getfield 193, 3) := by decide +kernel
theorem dX3_type_41 : decode cX3_type 41 = .ok (.iconst 1, 1) := by decide +kernel
theorem dX3_type_42 : decode cX3_type 42 = .ok (.iadd, 1) := by decide +kernel
theorem dX3_type_43 : decode cX3_type 43 = .ok (.putfield 193, 3) := by decide +kernel
theorem dX3_type_46 : decode cX3_type 46 = .ok (.aload_n 0, 1) := by decide +kernel
theorem dX3_type_47 : decode cX3_type 47 = .ok (.getfield 193, 3) := by decide +kernel
theorem dX3_type_50 : decode cX3_type 50 = .ok (.ireturn, 1) := by decide +kernel
theorem dX3_clearText_0 : decode cX3_clearText 0 = .ok (.aload_n 0, 1) := by decide +kernel
theorem dX3_clearText_1 : decode cX3_clearText 1 = .ok (.getfield 193, 3) := by decide +kernel
theorem dX3_clearText_4 : decode cX3_clearText 4 = .ok (.istore_n 1, 1) := by decide +kernel
theorem dX3_clearText_5 : decode cX3_clearText 5 = .ok (.aload_n 0, 1) := by decide +kernel
theorem dX3_clearText_6 : decode cX3_clearText 6 = .ok (.iconst 0, 1) := by decide +kernel
theorem dX3_clearText_7 : decode cX3_clearText 7 = .ok (.putfield 193, 3) := by decide +kernel
theorem dX3_clearText_10 : decode cX3_clearText 10 = .ok (.iload_n 1, 1) := by decide +kernel
theorem dX3_clearText_11 : decode cX3_clearText 11 = .ok (.ireturn, 1) := by decide +kernel
theorem dX3_here_0 : decode cX3_here 0 = .ok (.aload_n 0, 1) := by decide +kernel
theorem dX3_here_1 : decode cX3_here 1 = .ok (.getfield 196, 3) := by decide +kernel
theorem dX3_here_4 : decode cX3_here 4 = .ok (.aload_n 0, 1) := by decide +kernel
theorem dX3_here_5 : decode cX3_here 5 = .ok (.getfield 193, 3) := by decide +kernel
theorem dX3_here_8 : decode cX3_here 8 = .ok (.if_icmp .ge 15, 3) := by decide +kernel
theorem dX3_here_11 : decode cX3_here 11 = .ok (.aload_n 0, 1) := by decide +kernel
theorem dX3_here_12 : decode cX3_here 12 = .ok (.getfield 22, 3) := by decide +kernel
theorem dX3_here_15 : decode cX3_here 15 = .ok (.aload_n 0, 1) := by decide +kernel
theorem dX3_here_16 : decode cX3_here 16 = .ok (.getfield 196, 3) := by decide +kernel
theorem dX3_here_19 : decode cX3_here 19 = .ok (.iaload, 1) := by decide +kernel
theorem dX3_here_20 : decode cX3_here 20 = .ok (.goto 4, 3) := by decide +kernel
theorem dX3_here_23 : decode cX3_here 23 = .ok (.iconst 0, 1) := by decide +kernel
theorem dX3_here_24 : decode cX3_here 24 = .ok (.ireturn, 1) := by decide +kernel
theorem dX3_takes_0 : decode cX3_takes 0 = .ok (.aload_n 0, 1) := by decide +kernel
theorem dX3_takes_1 : decode cX3_takes 1 = .ok (.aload_n 0, 1) := by decide +kernel
theorem dX3_takes_2 : decode cX3_takes 2 = .ok (.getfield 199, 3) := by decide +kernel
theorem dX3_takes_5 : decode cX3_takes 5 = .ok (.ifCond .eq 11, 3) := by decide +kernel
theorem dX3_takes_8 : decode cX3_takes 8 = .ok (.iload_n 1, 1) := by decide +kernel
theorem dX3_takes_9 : decode cX3_takes 9 = .ok (.ifCond .eq 7, 3) := by decide +kernel
theorem dX3_takes_12 : decode cX3_takes 12 = .ok (.iconst 1, 1) := by decide +kernel
theorem dX3_takes_13 : decode cX3_takes 13 = .ok (.goto 4, 3) := by decide +kernel
theorem dX3_takes_16 : decode cX3_takes 16 = .ok (.iconst 0, 1) := by decide +kernel
theorem dX3_takes_17 : decode cX3_takes 17 = .ok (.putfield 199, 3) := by decide +kernel
theorem dX3_takes_20 : decode cX3_takes 20 = .ok (.aload_n 0, 1) := by decide +kernel
theorem dX3_takes_21 : decode cX3_takes 21 = .ok (.dup, 1) := by decide +kernel
theorem dX3_takes_22 : decode cX3_takes 22 = .ok (.getfield 196, 3) := by decide +kernel
theorem dX3_takes_25 : decode cX3_takes 25 = .ok (.aload_n 0, 1) := by decide +kernel
theorem dX3_takes_26 : decode cX3_takes 26 = .ok (.getfield 199, 3) := by decide +kernel
theorem dX3_takes_29 : decode cX3_takes 29 = .ok (.ifCond .eq 7, 3) := by decide +kernel
theorem dX3_takes_32 : decode cX3_takes 32 = .ok (.iconst 1, 1) := by decide +kernel
theorem dX3_takes_33 : decode cX3_takes 33 = .ok (.goto 4, 3) := by decide +kernel
theorem dX3_takes_36 : decode cX3_takes 36 = .ok (.iconst 0, 1) := by decide +kernel
theorem dX3_takes_37 : decode cX3_takes 37 = .ok (.iadd, 1) := by decide +kernel
theorem dX3_takes_38 : decode cX3_takes 38 = .ok (.putfield 196, 3) := by decide +kernel
theorem dX3_takes_41 : decode cX3_takes 41 = .ok (.return_, 1) := by decide +kernel
theorem dX3_takesNumber_0 : decode cX3_takesNumber 0 = .ok (.iconst 0, 1) := by decide +kernel
theorem dX3_takesNumber_1 : decode cX3_takesNumber 1 = .ok (.istore_n 2, 1) := by decide +kernel
theorem dX3_takesNumber_2 : decode cX3_takesNumber 2 = .ok (.iconst 0, 1) := by decide +kernel
theorem dX3_takesNumber_3 : decode cX3_takesNumber 3 = .ok (.istore_n 3, 1) := by decide +kernel
theorem dX3_takesNumber_4 : decode cX3_takesNumber 4 = .ok (.aload_n 0, 1) := by decide +kernel
theorem dX3_takesNumber_5 : decode cX3_takesNumber 5 = .ok (.getfield 199, 3) := by decide +kernel
theorem dX3_takesNumber_8 : decode cX3_takesNumber 8 = .ok (.ifCond .eq 51, 3) := by decide +kernel
theorem dX3_takesNumber_11 : decode cX3_takesNumber 11 = .ok (.iload_n 3, 1) := by decide +kernel
theorem dX3_takesNumber_12 : decode cX3_takesNumber 12 = .ok (.iconst 3, 1) := by decide +kernel
theorem dX3_takesNumber_13 : decode cX3_takesNumber 13 = .ok (.if_icmp .ge 46, 3) := by decide +kernel
theorem dX3_takesNumber_16 : decode cX3_takesNumber 16 = .ok (.aload_n 0, 1) := by decide +kernel
theorem dX3_takesNumber_17 : decode cX3_takesNumber 17 = .ok (.invokevirtual 203, 3) := by decide +kernel
theorem dX3_takesNumber_20 : decode cX3_takesNumber 20 = .ok (.bipush 48, 2) := by decide +kernel
theorem dX3_takesNumber_22 : decode cX3_takesNumber 22 = .ok (.bipush 57, 2) := by decide +kernel
theorem dX3_takesNumber_24 : decode cX3_takesNumber 24 = .ok (.invokestatic 48, 3) := by decide +kernel
theorem dX3_takesNumber_27 : decode cX3_takesNumber 27 = .ok (.ifCond .eq 32, 3) := by decide +kernel
theorem dX3_takesNumber_30 : decode cX3_takesNumber 30 = .ok (.bipush 10, 2) := by decide +kernel
theorem dX3_takesNumber_32 : decode cX3_takesNumber 32 = .ok (.iload_n 2, 1) := by decide +kernel
theorem dX3_takesNumber_33 : decode cX3_takesNumber 33 = .ok (.imul, 1) := by decide +kernel
theorem dX3_takesNumber_34 : decode cX3_takesNumber 34 = .ok (.aload_n 0, 1) := by decide +kernel
theorem dX3_takesNumber_35 : decode cX3_takesNumber 35 = .ok (.invokevirtual 203, 3) := by decide +kernel
theorem dX3_takesNumber_38 : decode cX3_takesNumber 38 = .ok (.iadd, 1) := by decide +kernel
theorem dX3_takesNumber_39 : decode cX3_takesNumber 39 = .ok (.bipush 48, 2) := by decide +kernel
theorem dX3_takesNumber_41 : decode cX3_takesNumber 41 = .ok (.isub, 1) := by decide +kernel
theorem dX3_takesNumber_42 : decode cX3_takesNumber 42 = .ok (.istore_n 2, 1) := by decide +kernel
theorem dX3_takesNumber_43 : decode cX3_takesNumber 43 = .ok (.iinc 3 1, 3) := by decide +kernel
theorem dX3_takesNumber_46 : decode cX3_takesNumber 46 = .ok (.aload_n 0, 1) := by decide +kernel
theorem dX3_takesNumber_47 : decode cX3_takesNumber 47 = .ok (.dup, 1) := by decide +kernel
theorem dX3_takesNumber_48 : decode cX3_takesNumber 48 = .ok (.getfield 196, 3) := by decide +kernel
theorem dX3_takesNumber_51 : decode cX3_takesNumber 51 = .ok (.iconst 1, 1) := by decide +kernel
theorem dX3_takesNumber_52 : decode cX3_takesNumber 52 = .ok (.iadd, 1) := by decide +kernel
theorem dX3_takesNumber_53 : decode cX3_takesNumber 53 = .ok (.putfield 196, 3) := by decide +kernel
theorem dX3_takesNumber_56 : decode cX3_takesNumber 56 = .ok (.goto (-52), 3) := by decide +kernel
theorem dX3_takesNumber_59 : decode cX3_takesNumber 59 = .ok (.aload_n 0, 1) := by decide +kernel
theorem dX3_takesNumber_60 : decode cX3_takesNumber 60 = .ok (.aload_n 0, 1) := by decide +kernel
theorem dX3_takesNumber_61 : decode cX3_takesNumber 61 = .ok (.getfield 199, 3) := by decide +kernel
theorem dX3_takesNumber_64 : decode cX3_takesNumber 64 = .ok (.ifCond .eq 11, 3) := by decide +kernel
theorem dX3_takesNumber_67 : decode cX3_takesNumber 67 = .ok (.iload_n 3, 1) := by decide +kernel
theorem dX3_takesNumber_68 : decode cX3_takesNumber 68 = .ok (.ifCond .le 7, 3) := by decide +kernel
theorem dX3_takesNumber_71 : decode cX3_takesNumber 71 = .ok (.iconst 1, 1) := by decide +kernel
theorem dX3_takesNumber_72 : decode cX3_takesNumber 72 = .ok (.goto 4, 3) := by decide +kernel
theorem dX3_takesNumber_75 : decode cX3_takesNumber 75 = .ok (.iconst 0, 1) := by decide +kernel
theorem dX3_takesNumber_76 : decode cX3_takesNumber 76 = .ok (.putfield 199, 3) := by decide +kernel
theorem dX3_takesNumber_79 : decode cX3_takesNumber 79 = .ok (.aload_n 0, 1) := by decide +kernel
theorem dX3_takesNumber_80 : decode cX3_takesNumber 80 = .ok (.getfield 25, 3) := by decide +kernel
theorem dX3_takesNumber_83 : decode cX3_takesNumber 83 = .ok (.iload_n 1, 1) := by decide +kernel
theorem dX3_takesNumber_84 : decode cX3_takesNumber 84 = .ok (.iload_n 2, 1) := by decide +kernel
theorem dX3_takesNumber_85 : decode cX3_takesNumber 85 = .ok (.iastore, 1) := by decide +kernel
theorem dX3_takesNumber_86 : decode cX3_takesNumber 86 = .ok (.return_, 1) := by decide +kernel
theorem dX3_takesOrder_0 : decode cX3_takesOrder 0 = .ok (.aload_n 0, 1) := by decide +kernel
theorem dX3_takesOrder_1 : decode cX3_takesOrder 1 = .ok (.aload_n 0, 1) := by decide +kernel
theorem dX3_takesOrder_2 : decode cX3_takesOrder 2 = .ok (.getfield 196, 3) := by decide +kernel
theorem dX3_takesOrder_5 : decode cX3_takesOrder 5 = .ok (.putfield 206, 3) := by decide +kernel
theorem dX3_takesOrder_8 : decode cX3_takesOrder 8 = .ok (.aload_n 0, 1) := by decide +kernel
theorem dX3_takesOrder_9 : decode cX3_takesOrder 9 = .ok (.iconst 1, 1) := by decide +kernel
theorem dX3_takesOrder_10 : decode cX3_takesOrder 10 = .ok (.putfield 199, 3) := by decide +kernel
theorem dX3_takesOrder_13 : decode cX3_takesOrder 13 = .ok (.aload_n 0, 1) := by decide +kernel
theorem dX3_takesOrder_14 : decode cX3_takesOrder 14 = .ok (.aload_n 0, 1) := by decide +kernel
theorem dX3_takesOrder_15 : decode cX3_takesOrder 15 = .ok (.invokevirtual 203, 3) := by decide +kernel
theorem dX3_takesOrder_18 : decode cX3_takesOrder 18 = .ok (.putfield 209, 3) := by decide +kernel
theorem dX3_takesOrder_21 : decode cX3_takesOrder 21 = .ok (.aload_n 0, 1) := by decide +kernel
theorem dX3_takesOrder_22 : decode cX3_takesOrder 22 = .ok (.aload_n 0, 1) := by decide +kernel
theorem dX3_takesOrder_23 : decode cX3_takesOrder 23 = .ok (.getfield 209, 3) := by decide +kernel
theorem dX3_takesOrder_26 : decode cX3_takesOrder 26 = .ok (.bipush 119, 2) := by decide +kernel
theorem dX3_takesOrder_28 : decode cX3_takesOrder 28 = .ok (.if_icmp .eq 48, 3) := by decide +kernel
theorem dX3_takesOrder_31 : decode cX3_takesOrder 31 = .ok (.aload_n 0, 1) := by decide +kernel
theorem dX3_takesOrder_32 : decode cX3_takesOrder 32 = .ok (.getfield 209, 3) := by decide +kernel
theorem dX3_takesOrder_35 : decode cX3_takesOrder 35 = .ok (.bipush 97, 2) := by decide +kernel
theorem dX3_takesOrder_37 : decode cX3_takesOrder 37 = .ok (.if_icmp .eq 39, 3) := by decide +kernel
theorem dX3_takesOrder_40 : decode cX3_takesOrder 40 = .ok (.aload_n 0, 1) := by decide +kernel
theorem dX3_takesOrder_41 : decode cX3_takesOrder 41 = .ok (.getfield 209, 3) := by decide +kernel
theorem dX3_takesOrder_44 : decode cX3_takesOrder 44 = .ok (.bipush 102, 2) := by decide +kernel
theorem dX3_takesOrder_46 : decode cX3_takesOrder 46 = .ok (.if_icmp .eq 30, 3) := by decide +kernel
theorem dX3_takesOrder_49 : decode cX3_takesOrder 49 = .ok (.aload_n 0, 1) := by decide +kernel
theorem dX3_takesOrder_50 : decode cX3_takesOrder 50 = .ok (.getfield 209, 3) := by decide +kernel
theorem dX3_takesOrder_53 : decode cX3_takesOrder 53 = .ok (.bipush 109, 2) := by decide +kernel
theorem dX3_takesOrder_55 : decode cX3_takesOrder 55 = .ok (.if_icmp .eq 21, 3) := by decide +kernel
theorem dX3_takesOrder_58 : decode cX3_takesOrder 58 = .ok (.aload_n 0, 1) := by decide +kernel
theorem dX3_takesOrder_59 : decode cX3_takesOrder 59 = .ok (.getfield 209, 3) := by decide +kernel
theorem dX3_takesOrder_62 : decode cX3_takesOrder 62 = .ok (.bipush 114, 2) := by decide +kernel
theorem dX3_takesOrder_64 : decode cX3_takesOrder 64 = .ok (.if_icmp .eq 12, 3) := by decide +kernel
theorem dX3_takesOrder_67 : decode cX3_takesOrder 67 = .ok (.aload_n 0, 1) := by decide +kernel
theorem dX3_takesOrder_68 : decode cX3_takesOrder 68 = .ok (.getfield 209, 3) := by decide +kernel
theorem dX3_takesOrder_71 : decode cX3_takesOrder 71 = .ok (.bipush 100, 2) := by decide +kernel
theorem dX3_takesOrder_73 : decode cX3_takesOrder 73 = .ok (.if_icmp .ne 7, 3) := by decide +kernel
theorem dX3_takesOrder_76 : decode cX3_takesOrder 76 = .ok (.iconst 1, 1) := by decide +kernel
theorem dX3_takesOrder_77 : decode cX3_takesOrder 77 = .ok (.goto 4, 3) := by decide +kernel
theorem dX3_takesOrder_80 : decode cX3_takesOrder 80 = .ok (.iconst 0, 1) := by decide +kernel
theorem dX3_takesOrder_81 : decode cX3_takesOrder 81 = .ok (.invokevirtual 212, 3) := by decide +kernel
theorem dX3_takesOrder_84 : decode cX3_takesOrder 84 = .ok (.aload_n 0, 1) := by decide +kernel
theorem dX3_takesOrder_85 : decode cX3_takesOrder 85 = .ok (.getfield 209, 3) := by decide +kernel
theorem dX3_takesOrder_88 : decode cX3_takesOrder 88 = .ok (.bipush 119, 2) := by decide +kernel
theorem dX3_takesOrder_90 : decode cX3_takesOrder 90 = .ok (.if_icmp .eq 12, 3) := by decide +kernel
theorem dX3_takesOrder_93 : decode cX3_takesOrder 93 = .ok (.aload_n 0, 1) := by decide +kernel
theorem dX3_takesOrder_94 : decode cX3_takesOrder 94 = .ok (.getfield 209, 3) := by decide +kernel
theorem dX3_takesOrder_97 : decode cX3_takesOrder 97 = .ok (.bipush 102, 2) := by decide +kernel
theorem dX3_takesOrder_99 : decode cX3_takesOrder 99 = .ok (.if_icmp .ne 7, 3) := by decide +kernel
theorem dX3_takesOrder_102 : decode cX3_takesOrder 102 = .ok (.iconst 3, 1) := by decide +kernel
theorem dX3_takesOrder_103 : decode cX3_takesOrder 103 = .ok (.goto 26, 3) := by decide +kernel
theorem dX3_takesOrder_106 : decode cX3_takesOrder 106 = .ok (.aload_n 0, 1) := by decide +kernel
theorem dX3_takesOrder_107 : decode cX3_takesOrder 107 = .ok (.getfield 209, 3) := by decide +kernel
theorem dX3_takesOrder_110 : decode cX3_takesOrder 110 = .ok (.bipush 109, 2) := by decide +kernel
theorem dX3_takesOrder_112 : decode cX3_takesOrder 112 = .ok (.if_icmp .eq 12, 3) := by decide +kernel
theorem dX3_takesOrder_115 : decode cX3_takesOrder 115 = .ok (.aload_n 0, 1) := by decide +kernel
theorem dX3_takesOrder_116 : decode cX3_takesOrder 116 = .ok (.getfield 209, 3) := by decide +kernel
theorem dX3_takesOrder_119 : decode cX3_takesOrder 119 = .ok (.bipush 114, 2) := by decide +kernel
theorem dX3_takesOrder_121 : decode cX3_takesOrder 121 = .ok (.if_icmp .ne 7, 3) := by decide +kernel
theorem dX3_takesOrder_124 : decode cX3_takesOrder 124 = .ok (.iconst 2, 1) := by decide +kernel
theorem dX3_takesOrder_125 : decode cX3_takesOrder 125 = .ok (.goto 4, 3) := by decide +kernel
theorem dX3_takesOrder_128 : decode cX3_takesOrder 128 = .ok (.iconst 1, 1) := by decide +kernel
theorem dX3_takesOrder_129 : decode cX3_takesOrder 129 = .ok (.istore_n 1, 1) := by decide +kernel
theorem dX3_takesOrder_130 : decode cX3_takesOrder 130 = .ok (.iconst 0, 1) := by decide +kernel
theorem dX3_takesOrder_131 : decode cX3_takesOrder 131 = .ok (.istore_n 2, 1) := by decide +kernel
theorem dX3_takesOrder_132 : decode cX3_takesOrder 132 = .ok (.iload_n 2, 1) := by decide +kernel
theorem dX3_takesOrder_133 : decode cX3_takesOrder 133 = .ok (.iload_n 1, 1) := by decide +kernel
theorem dX3_takesOrder_134 : decode cX3_takesOrder 134 = .ok (.if_icmp .ge 36, 3) := by decide +kernel
theorem dX3_takesOrder_137 : decode cX3_takesOrder 137 = .ok (.iload_n 2, 1) := by decide +kernel
theorem dX3_takesOrder_138 : decode cX3_takesOrder 138 = .ok (.ifCond .le 21, 3) := by decide +kernel
theorem dX3_takesOrder_141 : decode cX3_takesOrder 141 = .ok (.aload_n 0, 1) := by decide +kernel
theorem dX3_takesOrder_142 : decode cX3_takesOrder 142 = .ok (.aload_n 0, 1) := by decide +kernel
theorem dX3_takesOrder_143 : decode cX3_takesOrder 143 = .ok (.invokevirtual 203, 3) := by decide +kernel
theorem dX3_takesOrder_146 : decode cX3_takesOrder 146 = .ok (.bipush 44, 2) := by decide +kernel
theorem dX3_takesOrder_148 : decode cX3_takesOrder 148 = .ok (.if_icmp .ne 7, 3) := by decide +kernel
theorem dX3_takesOrder_151 : decode cX3_takesOrder 151 = .ok (.iconst 1, 1) := by decide +kernel
theorem dX3_takesOrder_152 : decode cX3_takesOrder 152 = .ok (.goto 4, 3) := by decide +kernel
theorem dX3_takesOrder_155 : decode cX3_takesOrder 155 = .ok (.iconst 0, 1) := by decide +kernel
theorem dX3_takesOrder_156 : decode cX3_takesOrder 156 = .ok (.invokevirtual 212, 3) := by decide +kernel
theorem dX3_takesOrder_159 : decode cX3_takesOrder 159 = .ok (.aload_n 0, 1) := by decide +kernel
theorem dX3_takesOrder_160 : decode cX3_takesOrder 160 = .ok (.iload_n 2, 1) := by decide +kernel
theorem dX3_takesOrder_161 : decode cX3_takesOrder 161 = .ok (.invokevirtual 216, 3) := by decide +kernel
theorem dX3_takesOrder_164 : decode cX3_takesOrder 164 = .ok (.iinc 2 1, 3) := by decide +kernel
theorem dX3_takesOrder_167 : decode cX3_takesOrder 167 = .ok (.goto (-35), 3) := by decide +kernel
theorem dX3_takesOrder_170 : decode cX3_takesOrder 170 = .ok (.aload_n 0, 1) := by decide +kernel
theorem dX3_takesOrder_171 : decode cX3_takesOrder 171 = .ok (.aload_n 0, 1) := by decide +kernel
theorem dX3_takesOrder_172 : decode cX3_takesOrder 172 = .ok (.invokevirtual 203, 3) := by decide +kernel
theorem dX3_takesOrder_175 : decode cX3_takesOrder 175 = .ok (.bipush 59, 2) := by decide +kernel
theorem dX3_takesOrder_177 : decode cX3_takesOrder 177 = .ok (.if_icmp .ne 7, 3) := by decide +kernel
theorem dX3_takesOrder_180 : decode cX3_takesOrder 180 = .ok (.iconst 1, 1) := by decide +kernel
theorem dX3_takesOrder_181 : decode cX3_takesOrder 181 = .ok (.goto 4, 3) := by decide +kernel
theorem dX3_takesOrder_184 : decode cX3_takesOrder 184 = .ok (.iconst 0, 1) := by decide +kernel
theorem dX3_takesOrder_185 : decode cX3_takesOrder 185 = .ok (.invokevirtual 212, 3) := by decide +kernel
theorem dX3_takesOrder_188 : decode cX3_takesOrder 188 = .ok (.return_, 1) := by decide +kernel
theorem dX3_errorOfOrder_0 : decode cX3_errorOfOrder 0 = .ok (.aload_n 0, 1) := by decide +kernel
theorem dX3_errorOfOrder_1 : decode cX3_errorOfOrder 1 = .ok (.getfield 209, 3) := by decide +kernel
theorem dX3_errorOfOrder_4 : decode cX3_errorOfOrder 4 = .ok (.lookupswitch 149 #[(97, 74), (102, 93), (109, 116), (114, 133), (119, 52)], 52) := by decide +kernel
theorem dX3_errorOfOrder_56 : decode cX3_errorOfOrder 56 = .ok (.aload_n 0, 1) := by decide +kernel
theorem dX3_errorOfOrder_57 : decode cX3_errorOfOrder 57 = .ok (.getfield 25, 3) := by decide +kernel
theorem dX3_errorOfOrder_60 : decode cX3_errorOfOrder 60 = .ok (.iconst 0, 1) := by decide +kernel
theorem dX3_errorOfOrder_61 : decode cX3_errorOfOrder 61 = .ok (.iaload, 1) := by decide +kernel
theorem dX3_errorOfOrder_62 : decode cX3_errorOfOrder 62 = .ok (.aload_n 0, 1) := by decide +kernel
theorem dX3_errorOfOrder_63 : decode cX3_errorOfOrder 63 = .ok (.getfield 25, 3) := by decide +kernel
theorem dX3_errorOfOrder_66 : decode cX3_errorOfOrder 66 = .ok (.iconst 1, 1) := by decide +kernel
theorem dX3_errorOfOrder_67 : decode cX3_errorOfOrder 67 = .ok (.iaload, 1) := by decide +kernel
theorem dX3_errorOfOrder_68 : decode cX3_errorOfOrder 68 = .ok (.aload_n 0, 1) := by decide +kernel
theorem dX3_errorOfOrder_69 : decode cX3_errorOfOrder 69 = .ok (.getfield 25, 3) := by decide +kernel
theorem dX3_errorOfOrder_72 : decode cX3_errorOfOrder 72 = .ok (.iconst 2, 1) := by decide +kernel
theorem dX3_errorOfOrder_73 : decode cX3_errorOfOrder 73 = .ok (.iaload, 1) := by decide +kernel
theorem dX3_errorOfOrder_74 : decode cX3_errorOfOrder 74 = .ok (.invokestatic 127, 3) := by decide +kernel
theorem dX3_errorOfOrder_77 : decode cX3_errorOfOrder 77 = .ok (.ireturn, 1) := by decide +kernel
theorem dX3_errorOfOrder_78 : decode cX3_errorOfOrder 78 = .ok (.aload_n 0, 1) := by decide +kernel
theorem dX3_errorOfOrder_79 : decode cX3_errorOfOrder 79 = .ok (.getfield 25, 3) := by decide +kernel
theorem dX3_errorOfOrder_82 : decode cX3_errorOfOrder 82 = .ok (.iconst 0, 1) := by decide +kernel
theorem dX3_errorOfOrder_83 : decode cX3_errorOfOrder 83 = .ok (.iaload, 1) := by decide +kernel
theorem dX3_errorOfOrder_84 : decode cX3_errorOfOrder 84 = .ok (.invokestatic 67, 3) := by decide +kernel
theorem dX3_errorOfOrder_87 : decode cX3_errorOfOrder 87 = .ok (.ifCond .eq 7, 3) := by decide +kernel
theorem dX3_errorOfOrder_90 : decode cX3_errorOfOrder 90 = .ok (.iconst 0, 1) := by decide +kernel
theorem dX3_errorOfOrder_91 : decode cX3_errorOfOrder 91 = .ok (.goto 5, 3) := by decide +kernel
theorem dX3_errorOfOrder_94 : decode cX3_errorOfOrder 94 = .ok (.ldc 124, 2) := by decide +kernel
theorem dX3_errorOfOrder_96 : decode cX3_errorOfOrder 96 = .ok (.ireturn, 1) := by decide +kernel
theorem dX3_errorOfOrder_97 : decode cX3_errorOfOrder 97 = .ok (.aload_n 0, 1) := by decide +kernel
theorem dX3_errorOfOrder_98 : decode cX3_errorOfOrder 98 = .ok (.aload_n 0, 1) := by decide +kernel
theorem dX3_errorOfOrder_99 : decode cX3_errorOfOrder 99 = .ok (.getfield 25, 3) := by decide +kernel
theorem dX3_errorOfOrder_102 : decode cX3_errorOfOrder 102 = .ok (.iconst 0, 1) := by decide +kernel
theorem dX3_errorOfOrder_103 : decode cX3_errorOfOrder 103 = .ok (.iaload, 1) := by decide +kernel
theorem dX3_errorOfOrder_104 : decode cX3_errorOfOrder 104 = .ok (.aload_n 0, 1) := by decide +kernel
theorem dX3_errorOfOrder_105 : decode cX3_errorOfOrder 105 = .ok (.getfield 25, 3) := by decide +kernel
theorem dX3_errorOfOrder_108 : decode cX3_errorOfOrder 108 = .ok (.iconst 1, 1) := by decide +kernel
theorem dX3_errorOfOrder_109 : decode cX3_errorOfOrder 109 = .ok (.iaload, 1) := by decide +kernel
theorem dX3_errorOfOrder_110 : decode cX3_errorOfOrder 110 = .ok (.aload_n 0, 1) := by decide +kernel
theorem dX3_errorOfOrder_111 : decode cX3_errorOfOrder 111 = .ok (.getfield 25, 3) := by decide +kernel
theorem dX3_errorOfOrder_114 : decode cX3_errorOfOrder 114 = .ok (.iconst 2, 1) := by decide +kernel
theorem dX3_errorOfOrder_115 : decode cX3_errorOfOrder 115 = .ok (.iaload, 1) := by decide +kernel
theorem dX3_errorOfOrder_116 : decode cX3_errorOfOrder 116 = .ok (.invokevirtual 133, 3) := by decide +kernel
theorem dX3_errorOfOrder_119 : decode cX3_errorOfOrder 119 = .ok (.ireturn, 1) := by decide +kernel
theorem dX3_errorOfOrder_120 : decode cX3_errorOfOrder 120 = .ok (.aload_n 0, 1) := by decide +kernel
theorem dX3_errorOfOrder_121 : decode cX3_errorOfOrder 121 = .ok (.aload_n 0, 1) := by decide +kernel
theorem dX3_errorOfOrder_122 : decode cX3_errorOfOrder 122 = .ok (.getfield 25, 3) := by decide +kernel
theorem dX3_errorOfOrder_125 : decode cX3_errorOfOrder 125 = .ok (.iconst 0, 1) := by decide +kernel
theorem dX3_errorOfOrder_126 : decode cX3_errorOfOrder 126 = .ok (.iaload, 1) := by decide +kernel
theorem dX3_errorOfOrder_127 : decode cX3_errorOfOrder 127 = .ok (.aload_n 0, 1) := by decide +kernel
theorem dX3_errorOfOrder_128 : decode cX3_errorOfOrder 128 = .ok (.getfield 25, 3) := by decide +kernel
theorem dX3_errorOfOrder_131 : decode cX3_errorOfOrder 131 = .ok (.iconst 1, 1) := by decide +kernel
theorem dX3_errorOfOrder_132 : decode cX3_errorOfOrder 132 = .ok (.iaload, 1) := by decide +kernel
theorem dX3_errorOfOrder_133 : decode cX3_errorOfOrder 133 = .ok (.invokevirtual 139, 3) := by decide +kernel
theorem dX3_errorOfOrder_136 : decode cX3_errorOfOrder 136 = .ok (.ireturn, 1) := by decide +kernel
theorem dX3_errorOfOrder_137 : decode cX3_errorOfOrder 137 = .ok (.aload_n 0, 1) := by decide +kernel
theorem dX3_errorOfOrder_138 : decode cX3_errorOfOrder 138 = .ok (.getfield 25, 3) := by decide +kernel
theorem dX3_errorOfOrder_141 : decode cX3_errorOfOrder 141 = .ok (.iconst 0, 1) := by decide +kernel
theorem dX3_errorOfOrder_142 : decode cX3_errorOfOrder 142 = .ok (.iaload, 1) := by decide +kernel
theorem dX3_errorOfOrder_143 : decode cX3_errorOfOrder 143 = .ok (.aload_n 0, 1) := by decide +kernel
theorem dX3_errorOfOrder_144 : decode cX3_errorOfOrder 144 = .ok (.getfield 25, 3) := by decide +kernel
theorem dX3_errorOfOrder_147 : decode cX3_errorOfOrder 147 = .ok (.iconst 1, 1) := by decide +kernel
theorem dX3_errorOfOrder_148 : decode cX3_errorOfOrder 148 = .ok (.iaload, 1) := by decide +kernel
theorem dX3_errorOfOrder_149 : decode cX3_errorOfOrder 149 = .ok (.invokestatic 142, 3) := by decide +kernel
theorem dX3_errorOfOrder_152 : decode cX3_errorOfOrder 152 = .ok (.ireturn, 1) := by decide +kernel
theorem dX3_errorOfOrder_153 : decode cX3_errorOfOrder 153 = .ok (.aload_n 0, 1) := by decide +kernel
theorem dX3_errorOfOrder_154 : decode cX3_errorOfOrder 154 = .ok (.aload_n 0, 1) := by decide +kernel
theorem dX3_errorOfOrder_155 : decode cX3_errorOfOrder 155 = .ok (.getfield 25, 3) := by decide +kernel
theorem dX3_errorOfOrder_158 : decode cX3_errorOfOrder 158 = .ok (.iconst 0, 1) := by decide +kernel
theorem dX3_errorOfOrder_159 : decode cX3_errorOfOrder 159 = .ok (.iaload, 1) := by decide +kernel
theorem dX3_errorOfOrder_160 : decode cX3_errorOfOrder 160 = .ok (.invokevirtual 145, 3) := by decide +kernel
theorem dX3_errorOfOrder_163 : decode cX3_errorOfOrder 163 = .ok (.ireturn, 1) := by decide +kernel
theorem dX3_doesOrder_0 : decode cX3_doesOrder 0 = .ok (.iconst 0, 1) := by decide +kernel
theorem dX3_doesOrder_1 : decode cX3_doesOrder 1 = .ok (.istore_n 1, 1) := by decide +kernel
theorem dX3_doesOrder_2 : decode cX3_doesOrder 2 = .ok (.aload_n 0, 1) := by decide +kernel
theorem dX3_doesOrder_3 : decode cX3_doesOrder 3 = .ok (.getfield 209, 3) := by decide +kernel
theorem dX3_doesOrder_6 : decode cX3_doesOrder 6 = .ok (.lookupswitch 158 #[(97, 76), (102, 90), (109, 115), (114, 138), (119, 50)], 50) := by decide +kernel
theorem dX3_doesOrder_56 : decode cX3_doesOrder 56 = .ok (.aload_n 0, 1) := by decide +kernel
theorem dX3_doesOrder_57 : decode cX3_doesOrder 57 = .ok (.aload_n 0, 1) := by decide +kernel
theorem dX3_doesOrder_58 : decode cX3_doesOrder 58 = .ok (.getfield 25, 3) := by decide +kernel
theorem dX3_doesOrder_61 : decode cX3_doesOrder 61 = .ok (.iconst 0, 1) := by decide +kernel
theorem dX3_doesOrder_62 : decode cX3_doesOrder 62 = .ok (.iaload, 1) := by decide +kernel
theorem dX3_doesOrder_63 : decode cX3_doesOrder 63 = .ok (.aload_n 0, 1) := by decide +kernel
theorem dX3_doesOrder_64 : decode cX3_doesOrder 64 = .ok (.getfield 25, 3) := by decide +kernel
theorem dX3_doesOrder_67 : decode cX3_doesOrder 67 = .ok (.iconst 1, 1) := by decide +kernel
theorem dX3_doesOrder_68 : decode cX3_doesOrder 68 = .ok (.iaload, 1) := by decide +kernel
theorem dX3_doesOrder_69 : decode cX3_doesOrder 69 = .ok (.aload_n 0, 1) := by decide +kernel
theorem dX3_doesOrder_70 : decode cX3_doesOrder 70 = .ok (.getfield 25, 3) := by decide +kernel
theorem dX3_doesOrder_73 : decode cX3_doesOrder 73 = .ok (.iconst 2, 1) := by decide +kernel
theorem dX3_doesOrder_74 : decode cX3_doesOrder 74 = .ok (.iaload, 1) := by decide +kernel
theorem dX3_doesOrder_75 : decode cX3_doesOrder 75 = .ok (.invokevirtual 36, 3) := by decide +kernel
theorem dX3_doesOrder_78 : decode cX3_doesOrder 78 = .ok (.istore_n 1, 1) := by decide +kernel
theorem dX3_doesOrder_79 : decode cX3_doesOrder 79 = .ok (.goto 96, 3) := by decide +kernel
theorem dX3_doesOrder_82 : decode cX3_doesOrder 82 = .ok (.aload_n 0, 1) := by decide +kernel
theorem dX3_doesOrder_83 : decode cX3_doesOrder 83 = .ok (.aload_n 0, 1) := by decide +kernel
theorem dX3_doesOrder_84 : decode cX3_doesOrder 84 = .ok (.getfield 25, 3) := by decide +kernel
theorem dX3_doesOrder_87 : decode cX3_doesOrder 87 = .ok (.iconst 0, 1) := by decide +kernel
theorem dX3_doesOrder_88 : decode cX3_doesOrder 88 = .ok (.iaload, 1) := by decide +kernel
theorem dX3_doesOrder_89 : decode cX3_doesOrder 89 = .ok (.invokevirtual 111, 3) := by decide +kernel
theorem dX3_doesOrder_92 : decode cX3_doesOrder 92 = .ok (.istore_n 1, 1) := by decide +kernel
theorem dX3_doesOrder_93 : decode cX3_doesOrder 93 = .ok (.goto 82, 3) := by decide +kernel
theorem dX3_doesOrder_96 : decode cX3_doesOrder 96 = .ok (.aload_n 0, 1) := by decide +kernel
theorem dX3_doesOrder_97 : decode cX3_doesOrder 97 = .ok (.aload_n 0, 1) := by decide +kernel
theorem dX3_doesOrder_98 : decode cX3_doesOrder 98 = .ok (.getfield 25, 3) := by decide +kernel
theorem dX3_doesOrder_101 : decode cX3_doesOrder 101 = .ok (.iconst 0, 1) := by decide +kernel
theorem dX3_doesOrder_102 : decode cX3_doesOrder 102 = .ok (.iaload, 1) := by decide +kernel
theorem dX3_doesOrder_103 : decode cX3_doesOrder 103 = .ok (.aload_n 0, 1) := by decide +kernel
theorem dX3_doesOrder_104 : decode cX3_doesOrder 104 = .ok (.getfield 25, 3) := by decide +kernel
theorem dX3_doesOrder_107 : decode cX3_doesOrder 107 = .ok (.iconst 1, 1) := by decide +kernel
theorem dX3_doesOrder_108 : decode cX3_doesOrder 108 = .ok (.iaload, 1) := by decide +kernel
theorem dX3_doesOrder_109 : decode cX3_doesOrder 109 = .ok (.aload_n 0, 1) := by decide +kernel
theorem dX3_doesOrder_110 : decode cX3_doesOrder 110 = .ok (.getfield 25, 3) := by decide +kernel
theorem dX3_doesOrder_113 : decode cX3_doesOrder 113 = .ok (.iconst 2, 1) := by decide +kernel
theorem dX3_doesOrder_114 : decode cX3_doesOrder 114 = .ok (.iaload, 1) := by decide +kernel
theorem dX3_doesOrder_115 : decode cX3_doesOrder 115 = .ok (.invokevirtual 136, 3) := by decide +kernel
theorem dX3_doesOrder_118 : decode cX3_doesOrder 118 = .ok (.goto 57, 3) := by decide +kernel
theorem dX3_doesOrder_121 : decode cX3_doesOrder 121 = .ok (.aload_n 0, 1) := by decide +kernel
theorem dX3_doesOrder_122 : decode cX3_doesOrder 122 = .ok (.aload_n 0, 1) := by decide +kernel
theorem dX3_doesOrder_123 : decode cX3_doesOrder 123 = .ok (.getfield 25, 3) := by decide +kernel
theorem dX3_doesOrder_126 : decode cX3_doesOrder 126 = .ok (.iconst 0, 1) := by decide +kernel
theorem dX3_doesOrder_127 : decode cX3_doesOrder 127 = .ok (.iaload, 1) := by decide +kernel
theorem dX3_doesOrder_128 : decode cX3_doesOrder 128 = .ok (.bipush 7, 2) := by decide +kernel
theorem dX3_doesOrder_130 : decode cX3_doesOrder 130 = .ok (.aload_n 0, 1) := by decide +kernel
theorem dX3_doesOrder_131 : decode cX3_doesOrder 131 = .ok (.getfield 25, 3) := by decide +kernel
theorem dX3_doesOrder_134 : decode cX3_doesOrder 134 = .ok (.iconst 1, 1) := by decide +kernel
theorem dX3_doesOrder_135 : decode cX3_doesOrder 135 = .ok (.iaload, 1) := by decide +kernel
theorem dX3_doesOrder_136 : decode cX3_doesOrder 136 = .ok (.iadd, 1) := by decide +kernel
theorem dX3_doesOrder_137 : decode cX3_doesOrder 137 = .ok (.iconst 0, 1) := by decide +kernel
theorem dX3_doesOrder_138 : decode cX3_doesOrder 138 = .ok (.invokevirtual 28, 3) := by decide +kernel
theorem dX3_doesOrder_141 : decode cX3_doesOrder 141 = .ok (.goto 34, 3) := by decide +kernel
theorem dX3_doesOrder_144 : decode cX3_doesOrder 144 = .ok (.aload_n 0, 1) := by decide +kernel
theorem dX3_doesOrder_145 : decode cX3_doesOrder 145 = .ok (.aload_n 0, 1) := by decide +kernel
theorem dX3_doesOrder_146 : decode cX3_doesOrder 146 = .ok (.getfield 25, 3) := by decide +kernel
theorem dX3_doesOrder_149 : decode cX3_doesOrder 149 = .ok (.iconst 0, 1) := by decide +kernel
theorem dX3_doesOrder_150 : decode cX3_doesOrder 150 = .ok (.iaload, 1) := by decide +kernel
theorem dX3_doesOrder_151 : decode cX3_doesOrder 151 = .ok (.iconst 0, 1) := by decide +kernel
theorem dX3_doesOrder_152 : decode cX3_doesOrder 152 = .ok (.aload_n 0, 1) := by decide +kernel
theorem dX3_doesOrder_153 : decode cX3_doesOrder 153 = .ok (.getfield 25, 3) := by decide +kernel
theorem dX3_doesOrder_156 : decode cX3_doesOrder 156 = .ok (.iconst 1, 1) := by decide +kernel
theorem dX3_doesOrder_157 : decode cX3_doesOrder 157 = .ok (.iaload, 1) := by decide +kernel
theorem dX3_doesOrder_158 : decode cX3_doesOrder 158 = .ok (.invokevirtual 28, 3) := by decide +kernel
theorem dX3_doesOrder_161 : decode cX3_doesOrder 161 = .ok (.goto 14, 3) := by decide +kernel
theorem dX3_doesOrder_164 : decode cX3_doesOrder 164 = .ok (.aload_n 0, 1) := by decide +kernel
theorem dX3_doesOrder_165 : decode cX3_doesOrder 165 = .ok (.aload_n 0, 1) := by decide +kernel
theorem dX3_doesOrder_166 : decode cX3_doesOrder 166 = .ok (.getfield 25, 3) := by decide +kernel
theorem dX3_doesOrder_169 : decode cX3_doesOrder 169 = .ok (.iconst 0, 1) := by decide +kernel
theorem dX3_doesOrder_170 : decode cX3_doesOrder 170 = .ok (.iaload, 1) := by decide +kernel
theorem dX3_doesOrder_171 : decode cX3_doesOrder 171 = .ok (.invokevirtual 148, 3) := by decide +kernel
theorem dX3_doesOrder_174 : decode cX3_doesOrder 174 = .ok (.istore_n 1, 1) := by decide +kernel
theorem dX3_doesOrder_175 : decode cX3_doesOrder 175 = .ok (.return_, 1) := by decide +kernel
theorem dX3_doesAll_0 : decode cX3_doesAll 0 = .ok (.iconst 0, 1) := by decide +kernel
theorem dX3_doesAll_1 : decode cX3_doesAll 1 = .ok (.istore_n 1, 1) := by decide +kernel
theorem dX3_doesAll_2 : decode cX3_doesAll 2 = .ok (.aload_n 0, 1) := by decide +kernel
theorem dX3_doesAll_3 : decode cX3_doesAll 3 = .ok (.iconst 0, 1) := by decide +kernel
theorem dX3_doesAll_4 : decode cX3_doesAll 4 = .ok (.putfield 219, 3) := by decide +kernel
theorem dX3_doesAll_7 : decode cX3_doesAll 7 = .ok (.aload_n 0, 1) := by decide +kernel
theorem dX3_doesAll_8 : decode cX3_doesAll 8 = .ok (.iconst 0, 1) := by decide +kernel
theorem dX3_doesAll_9 : decode cX3_doesAll 9 = .ok (.putfield 196, 3) := by decide +kernel
theorem dX3_doesAll_12 : decode cX3_doesAll 12 = .ok (.aload_n 0, 1) := by decide +kernel
theorem dX3_doesAll_13 : decode cX3_doesAll 13 = .ok (.getfield 219, 3) := by decide +kernel
theorem dX3_doesAll_16 : decode cX3_doesAll 16 = .ok (.ifCond .ne 98, 3) := by decide +kernel
theorem dX3_doesAll_19 : decode cX3_doesAll 19 = .ok (.aload_n 0, 1) := by decide +kernel
theorem dX3_doesAll_20 : decode cX3_doesAll 20 = .ok (.getfield 196, 3) := by decide +kernel
theorem dX3_doesAll_23 : decode cX3_doesAll 23 = .ok (.aload_n 0, 1) := by decide +kernel
theorem dX3_doesAll_24 : decode cX3_doesAll 24 = .ok (.getfield 193, 3) := by decide +kernel
theorem dX3_doesAll_27 : decode cX3_doesAll 27 = .ok (.if_icmp .ge 87, 3) := by decide +kernel
theorem dX3_doesAll_30 : decode cX3_doesAll 30 = .ok (.aload_n 0, 1) := by decide +kernel
theorem dX3_doesAll_31 : decode cX3_doesAll 31 = .ok (.invokevirtual 222, 3) := by decide +kernel
theorem dX3_doesAll_34 : decode cX3_doesAll 34 = .ok (.aload_n 0, 1) := by decide +kernel
theorem dX3_doesAll_35 : decode cX3_doesAll 35 = .ok (.getfield 199, 3) := by decide +kernel
theorem dX3_doesAll_38 : decode cX3_doesAll 38 = .ok (.ifCond .eq 10, 3) := by decide +kernel
theorem dX3_doesAll_41 : decode cX3_doesAll 41 = .ok (.aload_n 0, 1) := by decide +kernel
theorem dX3_doesAll_42 : decode cX3_doesAll 42 = .ok (.invokevirtual 225, 3) := by decide +kernel
theorem dX3_doesAll_45 : decode cX3_doesAll 45 = .ok (.goto 4, 3) := by decide +kernel
theorem dX3_doesAll_48 : decode cX3_doesAll 48 = .ok (.iconst 0, 1) := by decide +kernel
theorem dX3_doesAll_49 : decode cX3_doesAll 49 = .ok (.istore_n 2, 1) := by decide +kernel
theorem dX3_doesAll_50 : decode cX3_doesAll 50 = .ok (.aload_n 0, 1) := by decide +kernel
theorem dX3_doesAll_51 : decode cX3_doesAll 51 = .ok (.getfield 199, 3) := by decide +kernel
theorem dX3_doesAll_54 : decode cX3_doesAll 54 = .ok (.ifCond .eq 7, 3) := by decide +kernel
theorem dX3_doesAll_57 : decode cX3_doesAll 57 = .ok (.iload_n 2, 1) := by decide +kernel
theorem dX3_doesAll_58 : decode cX3_doesAll 58 = .ok (.ifCond .ge 46, 3) := by decide +kernel
theorem dX3_doesAll_61 : decode cX3_doesAll 61 = .ok (.aload_n 0, 1) := by decide +kernel
theorem dX3_doesAll_62 : decode cX3_doesAll 62 = .ok (.aload_n 0, 1) := by decide +kernel
theorem dX3_doesAll_63 : decode cX3_doesAll 63 = .ok (.getfield 199, 3) := by decide +kernel
theorem dX3_doesAll_66 : decode cX3_doesAll 66 = .ok (.ifCond .eq 7, 3) := by decide +kernel
theorem dX3_doesAll_69 : decode cX3_doesAll 69 = .ok (.iconst 2, 1) := by decide +kernel
theorem dX3_doesAll_70 : decode cX3_doesAll 70 = .ok (.goto 4, 3) := by decide +kernel
theorem dX3_doesAll_73 : decode cX3_doesAll 73 = .ok (.iconst 1, 1) := by decide +kernel
theorem dX3_doesAll_74 : decode cX3_doesAll 74 = .ok (.putfield 219, 3) := by decide +kernel
theorem dX3_doesAll_77 : decode cX3_doesAll 77 = .ok (.aload_n 0, 1) := by decide +kernel
theorem dX3_doesAll_78 : decode cX3_doesAll 78 = .ok (.aload_n 0, 1) := by decide +kernel
theorem dX3_doesAll_79 : decode cX3_doesAll 79 = .ok (.getfield 199, 3) := by decide +kernel
theorem dX3_doesAll_82 : decode cX3_doesAll 82 = .ok (.ifCond .eq 7, 3) := by decide +kernel
theorem dX3_doesAll_85 : decode cX3_doesAll 85 = .ok (.iload_n 2, 1) := by decide +kernel
theorem dX3_doesAll_86 : decode cX3_doesAll 86 = .ok (.goto 12, 3) := by decide +kernel
theorem dX3_doesAll_89 : decode cX3_doesAll 89 = .ok (.aload_n 0, 1) := by decide +kernel
theorem dX3_doesAll_90 : decode cX3_doesAll 90 = .ok (.getfield 196, 3) := by decide +kernel
theorem dX3_doesAll_93 : decode cX3_doesAll 93 = .ok (.aload_n 0, 1) := by decide +kernel
theorem dX3_doesAll_94 : decode cX3_doesAll 94 = .ok (.getfield 206, 3) := by decide +kernel
theorem dX3_doesAll_97 : decode cX3_doesAll 97 = .ok (.isub, 1) := by decide +kernel
theorem dX3_doesAll_98 : decode cX3_doesAll 98 = .ok (.putfield 228, 3) := by decide +kernel
theorem dX3_doesAll_101 : decode cX3_doesAll 101 = .ok (.goto 10, 3) := by decide +kernel
theorem dX3_doesAll_104 : decode cX3_doesAll 104 = .ok (.aload_n 0, 1) := by decide +kernel
theorem dX3_doesAll_105 : decode cX3_doesAll 105 = .ok (.invokevirtual 231, 3) := by decide +kernel
theorem dX3_doesAll_108 : decode cX3_doesAll 108 = .ok (.iinc 1 1, 3) := by decide +kernel
theorem dX3_doesAll_111 : decode cX3_doesAll 111 = .ok (.goto (-99), 3) := by decide +kernel
theorem dX3_doesAll_114 : decode cX3_doesAll 114 = .ok (.iload_n 1, 1) := by decide +kernel
theorem dX3_doesAll_115 : decode cX3_doesAll 115 = .ok (.ireturn, 1) := by decide +kernel
theorem dX3_fault_0 : decode cX3_fault 0 = .ok (.iload_n 1, 1) := by decide +kernel
theorem dX3_fault_1 : decode cX3_fault 1 = .ok (.iconst 0, 1) := by decide +kernel
theorem dX3_fault_2 : decode cX3_fault 2 = .ok (.iconst 2, 1) := by decide +kernel
theorem dX3_fault_3 : decode cX3_fault 3 = .ok (.invokestatic 48, 3) := by decide +kernel
theorem dX3_fault_6 : decode cX3_fault 6 = .ok (.ifCond .ne 6, 3) := by decide +kernel
theorem dX3_fault_9 : decode cX3_fault 9 = .ok (.ldc 124, 2) := by decide +kernel
theorem dX3_fault_11 : decode cX3_fault 11 = .ok (.ireturn, 1) := by decide +kernel
theorem dX3_fault_12 : decode cX3_fault 12 = .ok (.aload_n 0, 1) := by decide +kernel
theorem dX3_fault_13 : decode cX3_fault 13 = .ok (.getfield 7, 3) := by decide +kernel
theorem dX3_fault_16 : decode cX3_fault 16 = .ok (.iconst 0, 1) := by decide +kernel
theorem dX3_fault_17 : decode cX3_fault 17 = .ok (.aload_n 0, 1) := by decide +kernel
theorem dX3_fault_18 : decode cX3_fault 18 = .ok (.getfield 16, 3) := by decide +kernel
theorem dX3_fault_21 : decode cX3_fault 21 = .ok (.iconst 0, 1) := by decide +kernel
theorem dX3_fault_22 : decode cX3_fault 22 = .ok (.invokestatic 44, 3) := by decide +kernel
theorem dX3_fault_25 : decode cX3_fault 25 = .ok (.aload_n 0, 1) := by decide +kernel
theorem dX3_fault_26 : decode cX3_fault 26 = .ok (.invokevirtual 234, 3) := by decide +kernel
theorem dX3_fault_29 : decode cX3_fault 29 = .ok (.istore_n 2, 1) := by decide +kernel
theorem dX3_fault_30 : decode cX3_fault 30 = .ok (.aload_n 0, 1) := by decide +kernel
theorem dX3_fault_31 : decode cX3_fault 31 = .ok (.getfield 16, 3) := by decide +kernel
theorem dX3_fault_34 : decode cX3_fault 34 = .ok (.iconst 0, 1) := by decide +kernel
theorem dX3_fault_35 : decode cX3_fault 35 = .ok (.aload_n 0, 1) := by decide +kernel
theorem dX3_fault_36 : decode cX3_fault 36 = .ok (.getfield 7, 3) := by decide +kernel
theorem dX3_fault_39 : decode cX3_fault 39 = .ok (.iconst 0, 1) := by decide +kernel
theorem dX3_fault_40 : decode cX3_fault 40 = .ok (.invokestatic 44, 3) := by decide +kernel
theorem dX3_fault_43 : decode cX3_fault 43 = .ok (.aload_n 0, 1) := by decide +kernel
theorem dX3_fault_44 : decode cX3_fault 44 = .ok (.getfield 219, 3) := by decide +kernel
theorem dX3_fault_47 : decode cX3_fault 47 = .ok (.ifCond .ne 8, 3) := by decide +kernel
theorem dX3_fault_50 : decode cX3_fault 50 = .ok (.ldc 163, 2) := by decide +kernel
theorem dX3_fault_52 : decode cX3_fault 52 = .ok (.goto 30, 3) := by decide +kernel
theorem dX3_fault_55 : decode cX3_fault 55 = .ok (.iload_n 1, 1) := by decide +kernel
theorem dX3_fault_56 : decode cX3_fault 56 = .ok (.ifCond .ne 10, 3) := by decide +kernel
theorem dX3_fault_59 : decode cX3_fault 59 = .ok (.aload_n 0, 1) := by decide +kernel
theorem dX3_fault_60 : decode cX3_fault 60 = .ok (.getfield 206, 3) := by decide +kernel
theorem dX3_fault_63 : decode cX3_fault 63 = .ok (.goto 19, 3) := by decide +kernel
theorem dX3_fault_66 : decode cX3_fault 66 = .ok (.iload_n 1, 1) := by decide +kernel
theorem dX3_fault_67 : decode cX3_fault 67 = .ok (.iconst 1, 1) := by decide +kernel
theorem dX3_fault_68 : decode cX3_fault 68 = .ok (.if_icmp .ne 10, 3) := by decide +kernel
theorem dX3_fault_71 : decode cX3_fault 71 = .ok (.aload_n 0, 1) := by decide +kernel
theorem dX3_fault_72 : decode cX3_fault 72 = .ok (.getfield 219, 3) := by decide +kernel
theorem dX3_fault_75 : decode cX3_fault 75 = .ok (.goto 7, 3) := by decide +kernel
theorem dX3_fault_78 : decode cX3_fault 78 = .ok (.aload_n 0, 1) := by decide +kernel
theorem dX3_fault_79 : decode cX3_fault 79 = .ok (.getfield 228, 3) := by decide +kernel
theorem dX3_fault_82 : decode cX3_fault 82 = .ok (.ireturn, 1) := by decide +kernel
theorem dX3_play_0 : decode cX3_play 0 = .ok (.aload_n 0, 1) := by decide +kernel
theorem dX3_play_1 : decode cX3_play 1 = .ok (.getfield 7, 3) := by decide +kernel
theorem dX3_play_4 : decode cX3_play 4 = .ok (.iconst 0, 1) := by decide +kernel
theorem dX3_play_5 : decode cX3_play 5 = .ok (.aload_n 0, 1) := by decide +kernel
theorem dX3_play_6 : decode cX3_play 6 = .ok (.getfield 16, 3) := by decide +kernel
theorem dX3_play_9 : decode cX3_play 9 = .ok (.iconst 0, 1) := by decide +kernel
theorem dX3_play_10 : decode cX3_play 10 = .ok (.invokestatic 44, 3) := by decide +kernel
theorem dX3_play_13 : decode cX3_play 13 = .ok (.aload_n 0, 1) := by decide +kernel
theorem dX3_play_14 : decode cX3_play 14 = .ok (.invokevirtual 234, 3) := by decide +kernel
theorem dX3_play_17 : decode cX3_play 17 = .ok (.istore_n 1, 1) := by decide +kernel
theorem dX3_play_18 : decode cX3_play 18 = .ok (.aload_n 0, 1) := by decide +kernel
theorem dX3_play_19 : decode cX3_play 19 = .ok (.getfield 16, 3) := by decide +kernel
theorem dX3_play_22 : decode cX3_play 22 = .ok (.iconst 0, 1) := by decide +kernel
theorem dX3_play_23 : decode cX3_play 23 = .ok (.aload_n 0, 1) := by decide +kernel
theorem dX3_play_24 : decode cX3_play 24 = .ok (.getfield 7, 3) := by decide +kernel
theorem dX3_play_27 : decode cX3_play 27 = .ok (.iconst 0, 1) := by decide +kernel
theorem dX3_play_28 : decode cX3_play 28 = .ok (.invokestatic 44, 3) := by decide +kernel
theorem dX3_play_31 : decode cX3_play 31 = .ok (.aload_n 0, 1) := by decide +kernel
theorem dX3_play_32 : decode cX3_play 32 = .ok (.getfield 219, 3) := by decide +kernel
theorem dX3_play_35 : decode cX3_play 35 = .ok (.ifCond .le 6, 3) := by decide +kernel
theorem dX3_play_38 : decode cX3_play 38 = .ok (.ldc 125, 2) := by decide +kernel
theorem dX3_play_40 : decode cX3_play 40 = .ok (.ireturn, 1) := by decide +kernel
theorem dX3_play_41 : decode cX3_play 41 = .ok (.aload_n 0, 1) := by decide +kernel
theorem dX3_play_42 : decode cX3_play 42 = .ok (.invokevirtual 130, 3) := by decide +kernel
theorem dX3_play_45 : decode cX3_play 45 = .ok (.aload_n 0, 1) := by decide +kernel
theorem dX3_play_46 : decode cX3_play 46 = .ok (.invokevirtual 234, 3) := by decide +kernel
theorem dX3_play_49 : decode cX3_play 49 = .ok (.istore_n 1, 1) := by decide +kernel
theorem dX3_play_50 : decode cX3_play 50 = .ok (.iload_n 1, 1) := by decide +kernel
theorem dX3_play_51 : decode cX3_play 51 = .ok (.ireturn, 1) := by decide +kernel
theorem dJxf58ca_isNaN_12338_0 : decode cJxf58ca_isNaN_12338 0 = .ok (.fload_n 0, 1) := by decide +kernel
theorem dJxf58ca_isNaN_12338_1 : decode cJxf58ca_isNaN_12338 1 = .ok (.fload_n 0, 1) := by decide +kernel
theorem dJxf58ca_isNaN_12338_2 : decode cJxf58ca_isNaN_12338 2 = .ok (.fcmp .l, 1) := by decide +kernel
theorem dJxf58ca_isNaN_12338_3 : decode cJxf58ca_isNaN_12338 3 = .ok (.ifCond .eq 7, 3) := by decide +kernel
theorem dJxf58ca_isNaN_12338_6 : decode cJxf58ca_isNaN_12338 6 = .ok (.iconst 1, 1) := by decide +kernel
theorem dJxf58ca_isNaN_12338_7 : decode cJxf58ca_isNaN_12338 7 = .ok (.goto 4, 3) := by decide +kernel
theorem dJxf58ca_isNaN_12338_10 : decode cJxf58ca_isNaN_12338 10 = .ok (.iconst 0, 1) := by decide +kernel
theorem dJxf58ca_isNaN_12338_11 : decode cJxf58ca_isNaN_12338 11 = .ok (.ireturn, 1) := by decide +kernel
theorem dJxf58ca_floatToIntBits_5c35a_0 : decode cJxf58ca_floatToIntBits_5c35a 0 = .ok (.fload_n 0, 1) := by decide +kernel
theorem dJxf58ca_floatToIntBits_5c35a_1 : decode cJxf58ca_floatToIntBits_5c35a 1 = .ok (.invokestatic 59, 3) := by decide +kernel
theorem dJxf58ca_floatToIntBits_5c35a_4 : decode cJxf58ca_floatToIntBits_5c35a 4 = .ok (.ifCond .ne 8, 3) := by decide +kernel
theorem dJxf58ca_floatToIntBits_5c35a_7 : decode cJxf58ca_floatToIntBits_5c35a 7 = .ok (.fload_n 0, 1) := by decide +kernel
theorem dJxf58ca_floatToIntBits_5c35a_8 : decode cJxf58ca_floatToIntBits_5c35a 8 = .ok (.invokestatic 74, 3) := by decide +kernel
theorem dJxf58ca_floatToIntBits_5c35a_11 : decode cJxf58ca_floatToIntBits_5c35a 11 = .ok (.ireturn, 1) := by decide +kernel
theorem dJxf58ca_floatToIntBits_5c35a_12 : decode cJxf58ca_floatToIntBits_5c35a 12 = .ok (.ldc 77, 2) := by decide +kernel
theorem dJxf58ca_floatToIntBits_5c35a_14 : decode cJxf58ca_floatToIntBits_5c35a 14 = .ok (.ireturn, 1) := by decide +kernel
theorem dJ9_abs_0f7a4_0 : decode cJ9_abs_0f7a4 0 = .ok (.iload_n 0, 1) := by decide +kernel
theorem dJ9_abs_0f7a4_1 : decode cJ9_abs_0f7a4 1 = .ok (.ifCond .ge 8, 3) := by decide +kernel
theorem dJ9_abs_0f7a4_4 : decode cJ9_abs_0f7a4 4 = .ok (.iload_n 0, 1) := by decide +kernel
theorem dJ9_abs_0f7a4_5 : decode cJ9_abs_0f7a4 5 = .ok (.ineg, 1) := by decide +kernel
theorem dJ9_abs_0f7a4_6 : decode cJ9_abs_0f7a4 6 = .ok (.goto 4, 3) := by decide +kernel
theorem dJ9_abs_0f7a4_9 : decode cJ9_abs_0f7a4 9 = .ok (.iload_n 0, 1) := by decide +kernel
theorem dJ9_abs_0f7a4_10 : decode cJ9_abs_0f7a4 10 = .ok (.ireturn, 1) := by decide +kernel
theorem dJ9_max_7cf53_0 : decode cJ9_max_7cf53 0 = .ok (.iload_n 0, 1) := by decide +kernel
theorem dJ9_max_7cf53_1 : decode cJ9_max_7cf53 1 = .ok (.iload_n 1, 1) := by decide +kernel
theorem dJ9_max_7cf53_2 : decode cJ9_max_7cf53 2 = .ok (.if_icmp .lt 7, 3) := by decide +kernel
theorem dJ9_max_7cf53_5 : decode cJ9_max_7cf53 5 = .ok (.iload_n 0, 1) := by decide +kernel
theorem dJ9_max_7cf53_6 : decode cJ9_max_7cf53 6 = .ok (.goto 4, 3) := by decide +kernel
theorem dJ9_max_7cf53_9 : decode cJ9_max_7cf53 9 = .ok (.iload_n 1, 1) := by decide +kernel
theorem dJ9_max_7cf53_10 : decode cJ9_max_7cf53 10 = .ok (.ireturn, 1) := by decide +kernel
theorem dJ9_min_7cf53_0 : decode cJ9_min_7cf53 0 = .ok (.iload_n 0, 1) := by decide +kernel
theorem dJ9_min_7cf53_1 : decode cJ9_min_7cf53 1 = .ok (.iload_n 1, 1) := by decide +kernel
theorem dJ9_min_7cf53_2 : decode cJ9_min_7cf53 2 = .ok (.if_icmp .gt 7, 3) := by decide +kernel
theorem dJ9_min_7cf53_5 : decode cJ9_min_7cf53 5 = .ok (.iload_n 0, 1) := by decide +kernel
theorem dJ9_min_7cf53_6 : decode cJ9_min_7cf53 6 = .ok (.goto 4, 3) := by decide +kernel
theorem dJ9_min_7cf53_9 : decode cJ9_min_7cf53 9 = .ok (.iload_n 1, 1) := by decide +kernel
theorem dJ9_min_7cf53_10 : decode cJ9_min_7cf53 10 = .ok (.ireturn, 1) := by decide +kernel
theorem dL_law_0 : decode cL_law 0 = .ok (.new 7, 3) := by decide +kernel
theorem dL_law_3 : decode cL_law 3 = .ok (.dup, 1) := by decide +kernel
theorem dL_law_4 : decode cL_law 4 = .ok (.invokespecial 9, 3) := by decide +kernel
theorem dL_law_7 : decode cL_law 7 = .ok (.astore_n 1, 1) := by decide +kernel
theorem dL_law_8 : decode cL_law 8 = .ok (.new 10, 3) := by decide +kernel
theorem dL_law_11 : decode cL_law 11 = .ok (.dup, 1) := by decide +kernel
theorem dL_law_12 : decode cL_law 12 = .ok (.invokespecial 12, 3) := by decide +kernel
theorem dL_law_15 : decode cL_law 15 = .ok (.astore_n 2, 1) := by decide +kernel
theorem dL_law_16 : decode cL_law 16 = .ok (.iconst 0, 1) := by decide +kernel
theorem dL_law_17 : decode cL_law 17 = .ok (.istore_n 3, 1) := by decide +kernel
theorem dL_law_18 : decode cL_law 18 = .ok (.iload_n 3, 1) := by decide +kernel
theorem dL_law_19 : decode cL_law 19 = .ok (.aload_n 0, 1) := by decide +kernel
theorem dL_law_20 : decode cL_law 20 = .ok (.arraylength, 1) := by decide +kernel
theorem dL_law_21 : decode cL_law 21 = .ok (.iconst 4, 1) := by decide +kernel
theorem dL_law_22 : decode cL_law 22 = .ok (.isub, 1) := by decide +kernel
theorem dL_law_23 : decode cL_law 23 = .ok (.if_icmp .gt 796, 3) := by decide +kernel
theorem dL_law_26 : decode cL_law 26 = .ok (.aload_n 0, 1) := by decide +kernel
theorem dL_law_27 : decode cL_law 27 = .ok (.iload_n 3, 1) := by decide +kernel
theorem dL_law_28 : decode cL_law 28 = .ok (.iaload, 1) := by decide +kernel
theorem dL_law_29 : decode cL_law 29 = .ok (.bipush 31, 2) := by decide +kernel
theorem dL_law_31 : decode cL_law 31 = .ok (.iand, 1) := by decide +kernel
theorem dL_law_32 : decode cL_law 32 = .ok (.tableswitch 781 0 24 #[116, 159, 192, 215, 248, 291, 324, 357, 380, 413, 456, 499, 532, 565, 588, 611, 624, 647, 660, 673, 696, 709, 732, 745, 768], 116) := by decide +kernel
theorem dL_law_148 : decode cL_law 148 = .ok (.aload_n 1, 1) := by decide +kernel
theorem dL_law_149 : decode cL_law 149 = .ok (.aload_n 0, 1) := by decide +kernel
theorem dL_law_150 : decode cL_law 150 = .ok (.iload_n 3, 1) := by decide +kernel
theorem dL_law_151 : decode cL_law 151 = .ok (.iconst 1, 1) := by decide +kernel
theorem dL_law_152 : decode cL_law 152 = .ok (.iadd, 1) := by decide +kernel
theorem dL_law_153 : decode cL_law 153 = .ok (.iaload, 1) := by decide +kernel
theorem dL_law_154 : decode cL_law 154 = .ok (.aload_n 0, 1) := by decide +kernel
theorem dL_law_155 : decode cL_law 155 = .ok (.iload_n 3, 1) := by decide +kernel
theorem dL_law_156 : decode cL_law 156 = .ok (.iconst 2, 1) := by decide +kernel
theorem dL_law_157 : decode cL_law 157 = .ok (.iadd, 1) := by decide +kernel
theorem dL_law_158 : decode cL_law 158 = .ok (.iaload, 1) := by decide +kernel
theorem dL_law_159 : decode cL_law 159 = .ok (.aload_n 0, 1) := by decide +kernel
theorem dL_law_160 : decode cL_law 160 = .ok (.iload_n 3, 1) := by decide +kernel
theorem dL_law_161 : decode cL_law 161 = .ok (.iconst 3, 1) := by decide +kernel
theorem dL_law_162 : decode cL_law 162 = .ok (.iadd, 1) := by decide +kernel
theorem dL_law_163 : decode cL_law 163 = .ok (.iaload, 1) := by decide +kernel
theorem dL_law_164 : decode cL_law 164 = .ok (.invokevirtual 13, 3) := by decide +kernel
theorem dL_law_167 : decode cL_law 167 = .ok (.aload_n 2, 1) := by decide +kernel
theorem dL_law_168 : decode cL_law 168 = .ok (.aload_n 0, 1) := by decide +kernel
theorem dL_law_169 : decode cL_law 169 = .ok (.iload_n 3, 1) := by decide +kernel
theorem dL_law_170 : decode cL_law 170 = .ok (.iconst 1, 1) := by decide +kernel
theorem dL_law_171 : decode cL_law 171 = .ok (.iadd, 1) := by decide +kernel
theorem dL_law_172 : decode cL_law 172 = .ok (.iaload, 1) := by decide +kernel
theorem dL_law_173 : decode cL_law 173 = .ok (.aload_n 0, 1) := by decide +kernel
theorem dL_law_174 : decode cL_law 174 = .ok (.iload_n 3, 1) := by decide +kernel
theorem dL_law_175 : decode cL_law 175 = .ok (.iconst 2, 1) := by decide +kernel
theorem dL_law_176 : decode cL_law 176 = .ok (.iadd, 1) := by decide +kernel
theorem dL_law_177 : decode cL_law 177 = .ok (.iaload, 1) := by decide +kernel
theorem dL_law_178 : decode cL_law 178 = .ok (.aload_n 0, 1) := by decide +kernel
theorem dL_law_179 : decode cL_law 179 = .ok (.iload_n 3, 1) := by decide +kernel
theorem dL_law_180 : decode cL_law 180 = .ok (.iconst 3, 1) := by decide +kernel
theorem dL_law_181 : decode cL_law 181 = .ok (.iadd, 1) := by decide +kernel
theorem dL_law_182 : decode cL_law 182 = .ok (.iaload, 1) := by decide +kernel
theorem dL_law_183 : decode cL_law 183 = .ok (.invokevirtual 17, 3) := by decide +kernel
theorem dL_law_186 : decode cL_law 186 = .ok (.if_icmp .eq 627, 3) := by decide +kernel
theorem dL_law_189 : decode cL_law 189 = .ok (.iconst 0, 1) := by decide +kernel
theorem dL_law_190 : decode cL_law 190 = .ok (.ireturn, 1) := by decide +kernel
theorem dL_law_191 : decode cL_law 191 = .ok (.aload_n 1, 1) := by decide +kernel
theorem dL_law_192 : decode cL_law 192 = .ok (.aload_n 0, 1) := by decide +kernel
theorem dL_law_193 : decode cL_law 193 = .ok (.iload_n 3, 1) := by decide +kernel
theorem dL_law_194 : decode cL_law 194 = .ok (.iconst 1, 1) := by decide +kernel
theorem dL_law_195 : decode cL_law 195 = .ok (.iadd, 1) := by decide +kernel
theorem dL_law_196 : decode cL_law 196 = .ok (.iaload, 1) := by decide +kernel
theorem dL_law_197 : decode cL_law 197 = .ok (.aload_n 0, 1) := by decide +kernel
theorem dL_law_198 : decode cL_law 198 = .ok (.iload_n 3, 1) := by decide +kernel
theorem dL_law_199 : decode cL_law 199 = .ok (.iconst 2, 1) := by decide +kernel
theorem dL_law_200 : decode cL_law 200 = .ok (.iadd, 1) := by decide +kernel
theorem dL_law_201 : decode cL_law 201 = .ok (.iaload, 1) := by decide +kernel
theorem dL_law_202 : decode cL_law 202 = .ok (.invokevirtual 18, 3) := by decide +kernel
theorem dL_law_205 : decode cL_law 205 = .ok (.aload_n 2, 1) := by decide +kernel
theorem dL_law_206 : decode cL_law 206 = .ok (.aload_n 0, 1) := by decide +kernel
theorem dL_law_207 : decode cL_law 207 = .ok (.iload_n 3, 1) := by decide +kernel
theorem dL_law_208 : decode cL_law 208 = .ok (.iconst 1, 1) := by decide +kernel
theorem dL_law_209 : decode cL_law 209 = .ok (.iadd, 1) := by decide +kernel
theorem dL_law_210 : decode cL_law 210 = .ok (.iaload, 1) := by decide +kernel
theorem dL_law_211 : decode cL_law 211 = .ok (.aload_n 0, 1) := by decide +kernel
theorem dL_law_212 : decode cL_law 212 = .ok (.iload_n 3, 1) := by decide +kernel
theorem dL_law_213 : decode cL_law 213 = .ok (.iconst 2, 1) := by decide +kernel
theorem dL_law_214 : decode cL_law 214 = .ok (.iadd, 1) := by decide +kernel
theorem dL_law_215 : decode cL_law 215 = .ok (.iaload, 1) := by decide +kernel
theorem dL_law_216 : decode cL_law 216 = .ok (.invokevirtual 22, 3) := by decide +kernel
theorem dL_law_219 : decode cL_law 219 = .ok (.if_icmp .eq 594, 3) := by decide +kernel
theorem dL_law_222 : decode cL_law 222 = .ok (.iconst 0, 1) := by decide +kernel
theorem dL_law_223 : decode cL_law 223 = .ok (.ireturn, 1) := by decide +kernel
theorem dL_law_224 : decode cL_law 224 = .ok (.aload_n 1, 1) := by decide +kernel
theorem dL_law_225 : decode cL_law 225 = .ok (.aload_n 0, 1) := by decide +kernel
theorem dL_law_226 : decode cL_law 226 = .ok (.iload_n 3, 1) := by decide +kernel
theorem dL_law_227 : decode cL_law 227 = .ok (.iconst 1, 1) := by decide +kernel
theorem dL_law_228 : decode cL_law 228 = .ok (.iadd, 1) := by decide +kernel
theorem dL_law_229 : decode cL_law 229 = .ok (.iaload, 1) := by decide +kernel
theorem dL_law_230 : decode cL_law 230 = .ok (.invokevirtual 23, 3) := by decide +kernel
theorem dL_law_233 : decode cL_law 233 = .ok (.aload_n 2, 1) := by decide +kernel
theorem dL_law_234 : decode cL_law 234 = .ok (.aload_n 0, 1) := by decide +kernel
theorem dL_law_235 : decode cL_law 235 = .ok (.iload_n 3, 1) := by decide +kernel
theorem dL_law_236 : decode cL_law 236 = .ok (.iconst 1, 1) := by decide +kernel
theorem dL_law_237 : decode cL_law 237 = .ok (.iadd, 1) := by decide +kernel
theorem dL_law_238 : decode cL_law 238 = .ok (.iaload, 1) := by decide +kernel
theorem dL_law_239 : decode cL_law 239 = .ok (.invokevirtual 27, 3) := by decide +kernel
theorem dL_law_242 : decode cL_law 242 = .ok (.if_icmp .eq 571, 3) := by decide +kernel
theorem dL_law_245 : decode cL_law 245 = .ok (.iconst 0, 1) := by decide +kernel
theorem dL_law_246 : decode cL_law 246 = .ok (.ireturn, 1) := by decide +kernel
theorem dL_law_247 : decode cL_law 247 = .ok (.aload_n 1, 1) := by decide +kernel
theorem dL_law_248 : decode cL_law 248 = .ok (.aload_n 0, 1) := by decide +kernel
theorem dL_law_249 : decode cL_law 249 = .ok (.iload_n 3, 1) := by decide +kernel
theorem dL_law_250 : decode cL_law 250 = .ok (.iconst 1, 1) := by decide +kernel
theorem dL_law_251 : decode cL_law 251 = .ok (.iadd, 1) := by decide +kernel
theorem dL_law_252 : decode cL_law 252 = .ok (.iaload, 1) := by decide +kernel
theorem dL_law_253 : decode cL_law 253 = .ok (.aload_n 0, 1) := by decide +kernel
theorem dL_law_254 : decode cL_law 254 = .ok (.iload_n 3, 1) := by decide +kernel
theorem dL_law_255 : decode cL_law 255 = .ok (.iconst 2, 1) := by decide +kernel
theorem dL_law_256 : decode cL_law 256 = .ok (.iadd, 1) := by decide +kernel
theorem dL_law_257 : decode cL_law 257 = .ok (.iaload, 1) := by decide +kernel
theorem dL_law_258 : decode cL_law 258 = .ok (.invokevirtual 28, 3) := by decide +kernel
theorem dL_law_261 : decode cL_law 261 = .ok (.aload_n 2, 1) := by decide +kernel
theorem dL_law_262 : decode cL_law 262 = .ok (.aload_n 0, 1) := by decide +kernel
theorem dL_law_263 : decode cL_law 263 = .ok (.iload_n 3, 1) := by decide +kernel
theorem dL_law_264 : decode cL_law 264 = .ok (.iconst 1, 1) := by decide +kernel
theorem dL_law_265 : decode cL_law 265 = .ok (.iadd, 1) := by decide +kernel
theorem dL_law_266 : decode cL_law 266 = .ok (.iaload, 1) := by decide +kernel
theorem dL_law_267 : decode cL_law 267 = .ok (.aload_n 0, 1) := by decide +kernel
theorem dL_law_268 : decode cL_law 268 = .ok (.iload_n 3, 1) := by decide +kernel
theorem dL_law_269 : decode cL_law 269 = .ok (.iconst 2, 1) := by decide +kernel
theorem dL_law_270 : decode cL_law 270 = .ok (.iadd, 1) := by decide +kernel
theorem dL_law_271 : decode cL_law 271 = .ok (.iaload, 1) := by decide +kernel
theorem dL_law_272 : decode cL_law 272 = .ok (.invokevirtual 31, 3) := by decide +kernel
theorem dL_law_275 : decode cL_law 275 = .ok (.if_icmp .eq 538, 3) := by decide +kernel
theorem dL_law_278 : decode cL_law 278 = .ok (.iconst 0, 1) := by decide +kernel
theorem dL_law_279 : decode cL_law 279 = .ok (.ireturn, 1) := by decide +kernel
theorem dL_law_280 : decode cL_law 280 = .ok (.aload_n 1, 1) := by decide +kernel
theorem dL_law_281 : decode cL_law 281 = .ok (.aload_n 0, 1) := by decide +kernel
theorem dL_law_282 : decode cL_law 282 = .ok (.iload_n 3, 1) := by decide +kernel
theorem dL_law_283 : decode cL_law 283 = .ok (.iconst 1, 1) := by decide +kernel
theorem dL_law_284 : decode cL_law 284 = .ok (.iadd, 1) := by decide +kernel
theorem dL_law_285 : decode cL_law 285 = .ok (.iaload, 1) := by decide +kernel
theorem dL_law_286 : decode cL_law 286 = .ok (.aload_n 0, 1) := by decide +kernel
theorem dL_law_287 : decode cL_law 287 = .ok (.iload_n 3, 1) := by decide +kernel
theorem dL_law_288 : decode cL_law 288 = .ok (.iconst 2, 1) := by decide +kernel
theorem dL_law_289 : decode cL_law 289 = .ok (.iadd, 1) := by decide +kernel
theorem dL_law_290 : decode cL_law 290 = .ok (.iaload, 1) := by decide +kernel
theorem dL_law_291 : decode cL_law 291 = .ok (.aload_n 0, 1) := by decide +kernel
theorem dL_law_292 : decode cL_law 292 = .ok (.iload_n 3, 1) := by decide +kernel
theorem dL_law_293 : decode cL_law 293 = .ok (.iconst 3, 1) := by decide +kernel
theorem dL_law_294 : decode cL_law 294 = .ok (.iadd, 1) := by decide +kernel
theorem dL_law_295 : decode cL_law 295 = .ok (.iaload, 1) := by decide +kernel
theorem dL_law_296 : decode cL_law 296 = .ok (.invokevirtual 32, 3) := by decide +kernel
theorem dL_law_299 : decode cL_law 299 = .ok (.aload_n 2, 1) := by decide +kernel
theorem dL_law_300 : decode cL_law 300 = .ok (.aload_n 0, 1) := by decide +kernel
theorem dL_law_301 : decode cL_law 301 = .ok (.iload_n 3, 1) := by decide +kernel
theorem dL_law_302 : decode cL_law 302 = .ok (.iconst 1, 1) := by decide +kernel
theorem dL_law_303 : decode cL_law 303 = .ok (.iadd, 1) := by decide +kernel
theorem dL_law_304 : decode cL_law 304 = .ok (.iaload, 1) := by decide +kernel
theorem dL_law_305 : decode cL_law 305 = .ok (.aload_n 0, 1) := by decide +kernel
theorem dL_law_306 : decode cL_law 306 = .ok (.iload_n 3, 1) := by decide +kernel
theorem dL_law_307 : decode cL_law 307 = .ok (.iconst 2, 1) := by decide +kernel
theorem dL_law_308 : decode cL_law 308 = .ok (.iadd, 1) := by decide +kernel
theorem dL_law_309 : decode cL_law 309 = .ok (.iaload, 1) := by decide +kernel
theorem dL_law_310 : decode cL_law 310 = .ok (.aload_n 0, 1) := by decide +kernel
theorem dL_law_311 : decode cL_law 311 = .ok (.iload_n 3, 1) := by decide +kernel
theorem dL_law_312 : decode cL_law 312 = .ok (.iconst 3, 1) := by decide +kernel
theorem dL_law_313 : decode cL_law 313 = .ok (.iadd, 1) := by decide +kernel
theorem dL_law_314 : decode cL_law 314 = .ok (.iaload, 1) := by decide +kernel
theorem dL_law_315 : decode cL_law 315 = .ok (.invokevirtual 35, 3) := by decide +kernel
theorem dL_law_318 : decode cL_law 318 = .ok (.if_icmp .eq 495, 3) := by decide +kernel
theorem dL_law_321 : decode cL_law 321 = .ok (.iconst 0, 1) := by decide +kernel
theorem dL_law_322 : decode cL_law 322 = .ok (.ireturn, 1) := by decide +kernel
theorem dL_law_323 : decode cL_law 323 = .ok (.aload_n 1, 1) := by decide +kernel
theorem dL_law_324 : decode cL_law 324 = .ok (.aload_n 0, 1) := by decide +kernel
theorem dL_law_325 : decode cL_law 325 = .ok (.iload_n 3, 1) := by decide +kernel
theorem dL_law_326 : decode cL_law 326 = .ok (.iconst 1, 1) := by decide +kernel
theorem dL_law_327 : decode cL_law 327 = .ok (.iadd, 1) := by decide +kernel
theorem dL_law_328 : decode cL_law 328 = .ok (.iaload, 1) := by decide +kernel
theorem dL_law_329 : decode cL_law 329 = .ok (.aload_n 0, 1) := by decide +kernel
theorem dL_law_330 : decode cL_law 330 = .ok (.iload_n 3, 1) := by decide +kernel
theorem dL_law_331 : decode cL_law 331 = .ok (.iconst 2, 1) := by decide +kernel
theorem dL_law_332 : decode cL_law 332 = .ok (.iadd, 1) := by decide +kernel
theorem dL_law_333 : decode cL_law 333 = .ok (.iaload, 1) := by decide +kernel
theorem dL_law_334 : decode cL_law 334 = .ok (.invokevirtual 36, 3) := by decide +kernel
theorem dL_law_337 : decode cL_law 337 = .ok (.aload_n 2, 1) := by decide +kernel
theorem dL_law_338 : decode cL_law 338 = .ok (.aload_n 0, 1) := by decide +kernel
theorem dL_law_339 : decode cL_law 339 = .ok (.iload_n 3, 1) := by decide +kernel
theorem dL_law_340 : decode cL_law 340 = .ok (.iconst 1, 1) := by decide +kernel
theorem dL_law_341 : decode cL_law 341 = .ok (.iadd, 1) := by decide +kernel
theorem dL_law_342 : decode cL_law 342 = .ok (.iaload, 1) := by decide +kernel
theorem dL_law_343 : decode cL_law 343 = .ok (.aload_n 0, 1) := by decide +kernel
theorem dL_law_344 : decode cL_law 344 = .ok (.iload_n 3, 1) := by decide +kernel
theorem dL_law_345 : decode cL_law 345 = .ok (.iconst 2, 1) := by decide +kernel
theorem dL_law_346 : decode cL_law 346 = .ok (.iadd, 1) := by decide +kernel
theorem dL_law_347 : decode cL_law 347 = .ok (.iaload, 1) := by decide +kernel
theorem dL_law_348 : decode cL_law 348 = .ok (.invokevirtual 39, 3) := by decide +kernel
theorem dL_law_351 : decode cL_law 351 = .ok (.if_icmp .eq 462, 3) := by decide +kernel
theorem dL_law_354 : decode cL_law 354 = .ok (.iconst 0, 1) := by decide +kernel
theorem dL_law_355 : decode cL_law 355 = .ok (.ireturn, 1) := by decide +kernel
theorem dL_law_356 : decode cL_law 356 = .ok (.aload_n 1, 1) := by decide +kernel
theorem dL_law_357 : decode cL_law 357 = .ok (.aload_n 0, 1) := by decide +kernel
theorem dL_law_358 : decode cL_law 358 = .ok (.iload_n 3, 1) := by decide +kernel
theorem dL_law_359 : decode cL_law 359 = .ok (.iconst 1, 1) := by decide +kernel
theorem dL_law_360 : decode cL_law 360 = .ok (.iadd, 1) := by decide +kernel
theorem dL_law_361 : decode cL_law 361 = .ok (.iaload, 1) := by decide +kernel
theorem dL_law_362 : decode cL_law 362 = .ok (.aload_n 0, 1) := by decide +kernel
theorem dL_law_363 : decode cL_law 363 = .ok (.iload_n 3, 1) := by decide +kernel
theorem dL_law_364 : decode cL_law 364 = .ok (.iconst 2, 1) := by decide +kernel
theorem dL_law_365 : decode cL_law 365 = .ok (.iadd, 1) := by decide +kernel
theorem dL_law_366 : decode cL_law 366 = .ok (.iaload, 1) := by decide +kernel
theorem dL_law_367 : decode cL_law 367 = .ok (.invokevirtual 40, 3) := by decide +kernel
theorem dL_law_370 : decode cL_law 370 = .ok (.aload_n 2, 1) := by decide +kernel
theorem dL_law_371 : decode cL_law 371 = .ok (.aload_n 0, 1) := by decide +kernel
theorem dL_law_372 : decode cL_law 372 = .ok (.iload_n 3, 1) := by decide +kernel
theorem dL_law_373 : decode cL_law 373 = .ok (.iconst 1, 1) := by decide +kernel
theorem dL_law_374 : decode cL_law 374 = .ok (.iadd, 1) := by decide +kernel
theorem dL_law_375 : decode cL_law 375 = .ok (.iaload, 1) := by decide +kernel
theorem dL_law_376 : decode cL_law 376 = .ok (.aload_n 0, 1) := by decide +kernel
theorem dL_law_377 : decode cL_law 377 = .ok (.iload_n 3, 1) := by decide +kernel
theorem dL_law_378 : decode cL_law 378 = .ok (.iconst 2, 1) := by decide +kernel
theorem dL_law_379 : decode cL_law 379 = .ok (.iadd, 1) := by decide +kernel
theorem dL_law_380 : decode cL_law 380 = .ok (.iaload, 1) := by decide +kernel
theorem dL_law_381 : decode cL_law 381 = .ok (.invokevirtual 43, 3) := by decide +kernel
theorem dL_law_384 : decode cL_law 384 = .ok (.if_icmp .eq 429, 3) := by decide +kernel
theorem dL_law_387 : decode cL_law 387 = .ok (.iconst 0, 1) := by decide +kernel
theorem dL_law_388 : decode cL_law 388 = .ok (.ireturn, 1) := by decide +kernel
theorem dL_law_389 : decode cL_law 389 = .ok (.aload_n 1, 1) := by decide +kernel
theorem dL_law_390 : decode cL_law 390 = .ok (.aload_n 0, 1) := by decide +kernel
theorem dL_law_391 : decode cL_law 391 = .ok (.iload_n 3, 1) := by decide +kernel
theorem dL_law_392 : decode cL_law 392 = .ok (.iconst 1, 1) := by decide +kernel
theorem dL_law_393 : decode cL_law 393 = .ok (.iadd, 1) := by decide +kernel
theorem dL_law_394 : decode cL_law 394 = .ok (.iaload, 1) := by decide +kernel
theorem dL_law_395 : decode cL_law 395 = .ok (.invokevirtual 44, 3) := by decide +kernel
theorem dL_law_398 : decode cL_law 398 = .ok (.aload_n 2, 1) := by decide +kernel
theorem dL_law_399 : decode cL_law 399 = .ok (.aload_n 0, 1) := by decide +kernel
theorem dL_law_400 : decode cL_law 400 = .ok (.iload_n 3, 1) := by decide +kernel
theorem dL_law_401 : decode cL_law 401 = .ok (.iconst 1, 1) := by decide +kernel
theorem dL_law_402 : decode cL_law 402 = .ok (.iadd, 1) := by decide +kernel
theorem dL_law_403 : decode cL_law 403 = .ok (.iaload, 1) := by decide +kernel
theorem dL_law_404 : decode cL_law 404 = .ok (.invokevirtual 47, 3) := by decide +kernel
theorem dL_law_407 : decode cL_law 407 = .ok (.if_icmp .eq 406, 3) := by decide +kernel
theorem dL_law_410 : decode cL_law 410 = .ok (.iconst 0, 1) := by decide +kernel
theorem dL_law_411 : decode cL_law 411 = .ok (.ireturn, 1) := by decide +kernel
theorem dL_law_412 : decode cL_law 412 = .ok (.aload_n 1, 1) := by decide +kernel
theorem dL_law_413 : decode cL_law 413 = .ok (.aload_n 0, 1) := by decide +kernel
theorem dL_law_414 : decode cL_law 414 = .ok (.iload_n 3, 1) := by decide +kernel
theorem dL_law_415 : decode cL_law 415 = .ok (.iconst 1, 1) := by decide +kernel
theorem dL_law_416 : decode cL_law 416 = .ok (.iadd, 1) := by decide +kernel
theorem dL_law_417 : decode cL_law 417 = .ok (.iaload, 1) := by decide +kernel
theorem dL_law_418 : decode cL_law 418 = .ok (.aload_n 0, 1) := by decide +kernel
theorem dL_law_419 : decode cL_law 419 = .ok (.iload_n 3, 1) := by decide +kernel
theorem dL_law_420 : decode cL_law 420 = .ok (.iconst 2, 1) := by decide +kernel
theorem dL_law_421 : decode cL_law 421 = .ok (.iadd, 1) := by decide +kernel
theorem dL_law_422 : decode cL_law 422 = .ok (.iaload, 1) := by decide +kernel
theorem dL_law_423 : decode cL_law 423 = .ok (.invokevirtual 48, 3) := by decide +kernel
theorem dL_law_426 : decode cL_law 426 = .ok (.aload_n 2, 1) := by decide +kernel
theorem dL_law_427 : decode cL_law 427 = .ok (.aload_n 0, 1) := by decide +kernel
theorem dL_law_428 : decode cL_law 428 = .ok (.iload_n 3, 1) := by decide +kernel
theorem dL_law_429 : decode cL_law 429 = .ok (.iconst 1, 1) := by decide +kernel
theorem dL_law_430 : decode cL_law 430 = .ok (.iadd, 1) := by decide +kernel
theorem dL_law_431 : decode cL_law 431 = .ok (.iaload, 1) := by decide +kernel
theorem dL_law_432 : decode cL_law 432 = .ok (.aload_n 0, 1) := by decide +kernel
theorem dL_law_433 : decode cL_law 433 = .ok (.iload_n 3, 1) := by decide +kernel
theorem dL_law_434 : decode cL_law 434 = .ok (.iconst 2, 1) := by decide +kernel
theorem dL_law_435 : decode cL_law 435 = .ok (.iadd, 1) := by decide +kernel
theorem dL_law_436 : decode cL_law 436 = .ok (.iaload, 1) := by decide +kernel
theorem dL_law_437 : decode cL_law 437 = .ok (.invokevirtual 51, 3) := by decide +kernel
theorem dL_law_440 : decode cL_law 440 = .ok (.if_icmp .eq 373, 3) := by decide +kernel
theorem dL_law_443 : decode cL_law 443 = .ok (.iconst 0, 1) := by decide +kernel
theorem dL_law_444 : decode cL_law 444 = .ok (.ireturn, 1) := by decide +kernel
theorem dL_law_445 : decode cL_law 445 = .ok (.aload_n 1, 1) := by decide +kernel
theorem dL_law_446 : decode cL_law 446 = .ok (.aload_n 0, 1) := by decide +kernel
theorem dL_law_447 : decode cL_law 447 = .ok (.iload_n 3, 1) := by decide +kernel
theorem dL_law_448 : decode cL_law 448 = .ok (.iconst 1, 1) := by decide +kernel
theorem dL_law_449 : decode cL_law 449 = .ok (.iadd, 1) := by decide +kernel
theorem dL_law_450 : decode cL_law 450 = .ok (.iaload, 1) := by decide +kernel
theorem dL_law_451 : decode cL_law 451 = .ok (.aload_n 0, 1) := by decide +kernel
theorem dL_law_452 : decode cL_law 452 = .ok (.iload_n 3, 1) := by decide +kernel
theorem dL_law_453 : decode cL_law 453 = .ok (.iconst 2, 1) := by decide +kernel
theorem dL_law_454 : decode cL_law 454 = .ok (.iadd, 1) := by decide +kernel
theorem dL_law_455 : decode cL_law 455 = .ok (.iaload, 1) := by decide +kernel
theorem dL_law_456 : decode cL_law 456 = .ok (.aload_n 0, 1) := by decide +kernel
theorem dL_law_457 : decode cL_law 457 = .ok (.iload_n 3, 1) := by decide +kernel
theorem dL_law_458 : decode cL_law 458 = .ok (.iconst 3, 1) := by decide +kernel
theorem dL_law_459 : decode cL_law 459 = .ok (.iadd, 1) := by decide +kernel
theorem dL_law_460 : decode cL_law 460 = .ok (.iaload, 1) := by decide +kernel
theorem dL_law_461 : decode cL_law 461 = .ok (.invokevirtual 52, 3) := by decide +kernel
theorem dL_law_464 : decode cL_law 464 = .ok (.aload_n 2, 1) := by decide +kernel
theorem dL_law_465 : decode cL_law 465 = .ok (.aload_n 0, 1) := by decide +kernel
theorem dL_law_466 : decode cL_law 466 = .ok (.iload_n 3, 1) := by decide +kernel
theorem dL_law_467 : decode cL_law 467 = .ok (.iconst 1, 1) := by decide +kernel
theorem dL_law_468 : decode cL_law 468 = .ok (.iadd, 1) := by decide +kernel
theorem dL_law_469 : decode cL_law 469 = .ok (.iaload, 1) := by decide +kernel
theorem dL_law_470 : decode cL_law 470 = .ok (.aload_n 0, 1) := by decide +kernel
theorem dL_law_471 : decode cL_law 471 = .ok (.iload_n 3, 1) := by decide +kernel
theorem dL_law_472 : decode cL_law 472 = .ok (.iconst 2, 1) := by decide +kernel
theorem dL_law_473 : decode cL_law 473 = .ok (.iadd, 1) := by decide +kernel
theorem dL_law_474 : decode cL_law 474 = .ok (.iaload, 1) := by decide +kernel
theorem dL_law_475 : decode cL_law 475 = .ok (.aload_n 0, 1) := by decide +kernel
theorem dL_law_476 : decode cL_law 476 = .ok (.iload_n 3, 1) := by decide +kernel
theorem dL_law_477 : decode cL_law 477 = .ok (.iconst 3, 1) := by decide +kernel
theorem dL_law_478 : decode cL_law 478 = .ok (.iadd, 1) := by decide +kernel
theorem dL_law_479 : decode cL_law 479 = .ok (.iaload, 1) := by decide +kernel
theorem dL_law_480 : decode cL_law 480 = .ok (.invokevirtual 55, 3) := by decide +kernel
theorem dL_law_483 : decode cL_law 483 = .ok (.if_icmp .eq 330, 3) := by decide +kernel
theorem dL_law_486 : decode cL_law 486 = .ok (.iconst 0, 1) := by decide +kernel
theorem dL_law_487 : decode cL_law 487 = .ok (.ireturn, 1) := by decide +kernel
theorem dL_law_488 : decode cL_law 488 = .ok (.aload_n 1, 1) := by decide +kernel
theorem dL_law_489 : decode cL_law 489 = .ok (.aload_n 0, 1) := by decide +kernel
theorem dL_law_490 : decode cL_law 490 = .ok (.iload_n 3, 1) := by decide +kernel
theorem dL_law_491 : decode cL_law 491 = .ok (.iconst 1, 1) := by decide +kernel
theorem dL_law_492 : decode cL_law 492 = .ok (.iadd, 1) := by decide +kernel
theorem dL_law_493 : decode cL_law 493 = .ok (.iaload, 1) := by decide +kernel
theorem dL_law_494 : decode cL_law 494 = .ok (.aload_n 0, 1) := by decide +kernel
theorem dL_law_495 : decode cL_law 495 = .ok (.iload_n 3, 1) := by decide +kernel
theorem dL_law_496 : decode cL_law 496 = .ok (.iconst 2, 1) := by decide +kernel
theorem dL_law_497 : decode cL_law 497 = .ok (.iadd, 1) := by decide +kernel
theorem dL_law_498 : decode cL_law 498 = .ok (.iaload, 1) := by decide +kernel
theorem dL_law_499 : decode cL_law 499 = .ok (.aload_n 0, 1) := by decide +kernel
theorem dL_law_500 : decode cL_law 500 = .ok (.iload_n 3, 1) := by decide +kernel
theorem dL_law_501 : decode cL_law 501 = .ok (.iconst 3, 1) := by decide +kernel
theorem dL_law_502 : decode cL_law 502 = .ok (.iadd, 1) := by decide +kernel
theorem dL_law_503 : decode cL_law 503 = .ok (.iaload, 1) := by decide +kernel
theorem dL_law_504 : decode cL_law 504 = .ok (.invokevirtual 56, 3) := by decide +kernel
theorem dL_law_507 : decode cL_law 507 = .ok (.aload_n 2, 1) := by decide +kernel
theorem dL_law_508 : decode cL_law 508 = .ok (.aload_n 0, 1) := by decide +kernel
theorem dL_law_509 : decode cL_law 509 = .ok (.iload_n 3, 1) := by decide +kernel
theorem dL_law_510 : decode cL_law 510 = .ok (.iconst 1, 1) := by decide +kernel
theorem dL_law_511 : decode cL_law 511 = .ok (.iadd, 1) := by decide +kernel
theorem dL_law_512 : decode cL_law 512 = .ok (.iaload, 1) := by decide +kernel
theorem dL_law_513 : decode cL_law 513 = .ok (.aload_n 0, 1) := by decide +kernel
theorem dL_law_514 : decode cL_law 514 = .ok (.iload_n 3, 1) := by decide +kernel
theorem dL_law_515 : decode cL_law 515 = .ok (.iconst 2, 1) := by decide +kernel
theorem dL_law_516 : decode cL_law 516 = .ok (.iadd, 1) := by decide +kernel
theorem dL_law_517 : decode cL_law 517 = .ok (.iaload, 1) := by decide +kernel
theorem dL_law_518 : decode cL_law 518 = .ok (.aload_n 0, 1) := by decide +kernel
theorem dL_law_519 : decode cL_law 519 = .ok (.iload_n 3, 1) := by decide +kernel
theorem dL_law_520 : decode cL_law 520 = .ok (.iconst 3, 1) := by decide +kernel
theorem dL_law_521 : decode cL_law 521 = .ok (.iadd, 1) := by decide +kernel
theorem dL_law_522 : decode cL_law 522 = .ok (.iaload, 1) := by decide +kernel
theorem dL_law_523 : decode cL_law 523 = .ok (.invokevirtual 59, 3) := by decide +kernel
theorem dL_law_526 : decode cL_law 526 = .ok (.if_icmp .eq 287, 3) := by decide +kernel
theorem dL_law_529 : decode cL_law 529 = .ok (.iconst 0, 1) := by decide +kernel
theorem dL_law_530 : decode cL_law 530 = .ok (.ireturn, 1) := by decide +kernel
theorem dL_law_531 : decode cL_law 531 = .ok (.aload_n 1, 1) := by decide +kernel
theorem dL_law_532 : decode cL_law 532 = .ok (.aload_n 0, 1) := by decide +kernel
theorem dL_law_533 : decode cL_law 533 = .ok (.iload_n 3, 1) := by decide +kernel
theorem dL_law_534 : decode cL_law 534 = .ok (.iconst 1, 1) := by decide +kernel
theorem dL_law_535 : decode cL_law 535 = .ok (.iadd, 1) := by decide +kernel
theorem dL_law_536 : decode cL_law 536 = .ok (.iaload, 1) := by decide +kernel
theorem dL_law_537 : decode cL_law 537 = .ok (.aload_n 0, 1) := by decide +kernel
theorem dL_law_538 : decode cL_law 538 = .ok (.iload_n 3, 1) := by decide +kernel
theorem dL_law_539 : decode cL_law 539 = .ok (.iconst 2, 1) := by decide +kernel
theorem dL_law_540 : decode cL_law 540 = .ok (.iadd, 1) := by decide +kernel
theorem dL_law_541 : decode cL_law 541 = .ok (.iaload, 1) := by decide +kernel
theorem dL_law_542 : decode cL_law 542 = .ok (.invokevirtual 60, 3) := by decide +kernel
theorem dL_law_545 : decode cL_law 545 = .ok (.aload_n 2, 1) := by decide +kernel
theorem dL_law_546 : decode cL_law 546 = .ok (.aload_n 0, 1) := by decide +kernel
theorem dL_law_547 : decode cL_law 547 = .ok (.iload_n 3, 1) := by decide +kernel
theorem dL_law_548 : decode cL_law 548 = .ok (.iconst 1, 1) := by decide +kernel
theorem dL_law_549 : decode cL_law 549 = .ok (.iadd, 1) := by decide +kernel
theorem dL_law_550 : decode cL_law 550 = .ok (.iaload, 1) := by decide +kernel
theorem dL_law_551 : decode cL_law 551 = .ok (.aload_n 0, 1) := by decide +kernel
theorem dL_law_552 : decode cL_law 552 = .ok (.iload_n 3, 1) := by decide +kernel
theorem dL_law_553 : decode cL_law 553 = .ok (.iconst 2, 1) := by decide +kernel
theorem dL_law_554 : decode cL_law 554 = .ok (.iadd, 1) := by decide +kernel
theorem dL_law_555 : decode cL_law 555 = .ok (.iaload, 1) := by decide +kernel
theorem dL_law_556 : decode cL_law 556 = .ok (.invokevirtual 63, 3) := by decide +kernel
theorem dL_law_559 : decode cL_law 559 = .ok (.if_icmp .eq 254, 3) := by decide +kernel
theorem dL_law_562 : decode cL_law 562 = .ok (.iconst 0, 1) := by decide +kernel
theorem dL_law_563 : decode cL_law 563 = .ok (.ireturn, 1) := by decide +kernel
theorem dL_law_564 : decode cL_law 564 = .ok (.aload_n 1, 1) := by decide +kernel
theorem dL_law_565 : decode cL_law 565 = .ok (.aload_n 0, 1) := by decide +kernel
theorem dL_law_566 : decode cL_law 566 = .ok (.iload_n 3, 1) := by decide +kernel
theorem dL_law_567 : decode cL_law 567 = .ok (.iconst 1, 1) := by decide +kernel
theorem dL_law_568 : decode cL_law 568 = .ok (.iadd, 1) := by decide +kernel
theorem dL_law_569 : decode cL_law 569 = .ok (.iaload, 1) := by decide +kernel
theorem dL_law_570 : decode cL_law 570 = .ok (.aload_n 0, 1) := by decide +kernel
theorem dL_law_571 : decode cL_law 571 = .ok (.iload_n 3, 1) := by decide +kernel
theorem dL_law_572 : decode cL_law 572 = .ok (.iconst 2, 1) := by decide +kernel
theorem dL_law_573 : decode cL_law 573 = .ok (.iadd, 1) := by decide +kernel
theorem dL_law_574 : decode cL_law 574 = .ok (.iaload, 1) := by decide +kernel
theorem dL_law_575 : decode cL_law 575 = .ok (.invokevirtual 64, 3) := by decide +kernel
theorem dL_law_578 : decode cL_law 578 = .ok (.aload_n 2, 1) := by decide +kernel
theorem dL_law_579 : decode cL_law 579 = .ok (.aload_n 0, 1) := by decide +kernel
theorem dL_law_580 : decode cL_law 580 = .ok (.iload_n 3, 1) := by decide +kernel
theorem dL_law_581 : decode cL_law 581 = .ok (.iconst 1, 1) := by decide +kernel
theorem dL_law_582 : decode cL_law 582 = .ok (.iadd, 1) := by decide +kernel
theorem dL_law_583 : decode cL_law 583 = .ok (.iaload, 1) := by decide +kernel
theorem dL_law_584 : decode cL_law 584 = .ok (.aload_n 0, 1) := by decide +kernel
theorem dL_law_585 : decode cL_law 585 = .ok (.iload_n 3, 1) := by decide +kernel
theorem dL_law_586 : decode cL_law 586 = .ok (.iconst 2, 1) := by decide +kernel
theorem dL_law_587 : decode cL_law 587 = .ok (.iadd, 1) := by decide +kernel
theorem dL_law_588 : decode cL_law 588 = .ok (.iaload, 1) := by decide +kernel
theorem dL_law_589 : decode cL_law 589 = .ok (.invokevirtual 67, 3) := by decide +kernel
theorem dL_law_592 : decode cL_law 592 = .ok (.if_icmp .eq 221, 3) := by decide +kernel
theorem dL_law_595 : decode cL_law 595 = .ok (.iconst 0, 1) := by decide +kernel
theorem dL_law_596 : decode cL_law 596 = .ok (.ireturn, 1) := by decide +kernel
theorem dL_law_597 : decode cL_law 597 = .ok (.aload_n 1, 1) := by decide +kernel
theorem dL_law_598 : decode cL_law 598 = .ok (.aload_n 0, 1) := by decide +kernel
theorem dL_law_599 : decode cL_law 599 = .ok (.iload_n 3, 1) := by decide +kernel
theorem dL_law_600 : decode cL_law 600 = .ok (.iconst 1, 1) := by decide +kernel
theorem dL_law_601 : decode cL_law 601 = .ok (.iadd, 1) := by decide +kernel
theorem dL_law_602 : decode cL_law 602 = .ok (.iaload, 1) := by decide +kernel
theorem dL_law_603 : decode cL_law 603 = .ok (.invokevirtual 68, 3) := by decide +kernel
theorem dL_law_606 : decode cL_law 606 = .ok (.aload_n 2, 1) := by decide +kernel
theorem dL_law_607 : decode cL_law 607 = .ok (.aload_n 0, 1) := by decide +kernel
theorem dL_law_608 : decode cL_law 608 = .ok (.iload_n 3, 1) := by decide +kernel
theorem dL_law_609 : decode cL_law 609 = .ok (.iconst 1, 1) := by decide +kernel
theorem dL_law_610 : decode cL_law 610 = .ok (.iadd, 1) := by decide +kernel
theorem dL_law_611 : decode cL_law 611 = .ok (.iaload, 1) := by decide +kernel
theorem dL_law_612 : decode cL_law 612 = .ok (.invokevirtual 71, 3) := by decide +kernel
theorem dL_law_615 : decode cL_law 615 = .ok (.if_icmp .eq 198, 3) := by decide +kernel
theorem dL_law_618 : decode cL_law 618 = .ok (.iconst 0, 1) := by decide +kernel
theorem dL_law_619 : decode cL_law 619 = .ok (.ireturn, 1) := by decide +kernel
theorem dL_law_620 : decode cL_law 620 = .ok (.aload_n 1, 1) := by decide +kernel
theorem dL_law_621 : decode cL_law 621 = .ok (.aload_n 0, 1) := by decide +kernel
theorem dL_law_622 : decode cL_law 622 = .ok (.iload_n 3, 1) := by decide +kernel
theorem dL_law_623 : decode cL_law 623 = .ok (.iconst 1, 1) := by decide +kernel
theorem dL_law_624 : decode cL_law 624 = .ok (.iadd, 1) := by decide +kernel
theorem dL_law_625 : decode cL_law 625 = .ok (.iaload, 1) := by decide +kernel
theorem dL_law_626 : decode cL_law 626 = .ok (.invokevirtual 72, 3) := by decide +kernel
theorem dL_law_629 : decode cL_law 629 = .ok (.aload_n 2, 1) := by decide +kernel
theorem dL_law_630 : decode cL_law 630 = .ok (.aload_n 0, 1) := by decide +kernel
theorem dL_law_631 : decode cL_law 631 = .ok (.iload_n 3, 1) := by decide +kernel
theorem dL_law_632 : decode cL_law 632 = .ok (.iconst 1, 1) := by decide +kernel
theorem dL_law_633 : decode cL_law 633 = .ok (.iadd, 1) := by decide +kernel
theorem dL_law_634 : decode cL_law 634 = .ok (.iaload, 1) := by decide +kernel
theorem dL_law_635 : decode cL_law 635 = .ok (.invokevirtual 75, 3) := by decide +kernel
theorem dL_law_638 : decode cL_law 638 = .ok (.if_icmp .eq 175, 3) := by decide +kernel
theorem dL_law_641 : decode cL_law 641 = .ok (.iconst 0, 1) := by decide +kernel
theorem dL_law_642 : decode cL_law 642 = .ok (.ireturn, 1) := by decide +kernel
theorem dL_law_643 : decode cL_law 643 = .ok (.aload_n 1, 1) := by decide +kernel
theorem dL_law_644 : decode cL_law 644 = .ok (.invokevirtual 76, 3) := by decide +kernel
theorem dL_law_647 : decode cL_law 647 = .ok (.aload_n 2, 1) := by decide +kernel
theorem dL_law_648 : decode cL_law 648 = .ok (.invokevirtual 80, 3) := by decide +kernel
theorem dL_law_651 : decode cL_law 651 = .ok (.if_icmp .eq 162, 3) := by decide +kernel
theorem dL_law_654 : decode cL_law 654 = .ok (.iconst 0, 1) := by decide +kernel
theorem dL_law_655 : decode cL_law 655 = .ok (.ireturn, 1) := by decide +kernel
theorem dL_law_656 : decode cL_law 656 = .ok (.aload_n 1, 1) := by decide +kernel
theorem dL_law_657 : decode cL_law 657 = .ok (.aload_n 0, 1) := by decide +kernel
theorem dL_law_658 : decode cL_law 658 = .ok (.iload_n 3, 1) := by decide +kernel
theorem dL_law_659 : decode cL_law 659 = .ok (.iconst 1, 1) := by decide +kernel
theorem dL_law_660 : decode cL_law 660 = .ok (.iadd, 1) := by decide +kernel
theorem dL_law_661 : decode cL_law 661 = .ok (.iaload, 1) := by decide +kernel
theorem dL_law_662 : decode cL_law 662 = .ok (.invokevirtual 81, 3) := by decide +kernel
theorem dL_law_665 : decode cL_law 665 = .ok (.aload_n 2, 1) := by decide +kernel
theorem dL_law_666 : decode cL_law 666 = .ok (.aload_n 0, 1) := by decide +kernel
theorem dL_law_667 : decode cL_law 667 = .ok (.iload_n 3, 1) := by decide +kernel
theorem dL_law_668 : decode cL_law 668 = .ok (.iconst 1, 1) := by decide +kernel
theorem dL_law_669 : decode cL_law 669 = .ok (.iadd, 1) := by decide +kernel
theorem dL_law_670 : decode cL_law 670 = .ok (.iaload, 1) := by decide +kernel
theorem dL_law_671 : decode cL_law 671 = .ok (.invokevirtual 84, 3) := by decide +kernel
theorem dL_law_674 : decode cL_law 674 = .ok (.if_icmp .eq 139, 3) := by decide +kernel
theorem dL_law_677 : decode cL_law 677 = .ok (.iconst 0, 1) := by decide +kernel
theorem dL_law_678 : decode cL_law 678 = .ok (.ireturn, 1) := by decide +kernel
theorem dL_law_679 : decode cL_law 679 = .ok (.aload_n 1, 1) := by decide +kernel
theorem dL_law_680 : decode cL_law 680 = .ok (.invokevirtual 85, 3) := by decide +kernel
theorem dL_law_683 : decode cL_law 683 = .ok (.aload_n 2, 1) := by decide +kernel
theorem dL_law_684 : decode cL_law 684 = .ok (.invokevirtual 88, 3) := by decide +kernel
theorem dL_law_687 : decode cL_law 687 = .ok (.if_icmp .eq 126, 3) := by decide +kernel
theorem dL_law_690 : decode cL_law 690 = .ok (.iconst 0, 1) := by decide +kernel
theorem dL_law_691 : decode cL_law 691 = .ok (.ireturn, 1) := by decide +kernel
theorem dL_law_692 : decode cL_law 692 = .ok (.aload_n 1, 1) := by decide +kernel
theorem dL_law_693 : decode cL_law 693 = .ok (.invokevirtual 89, 3) := by decide +kernel
theorem dL_law_696 : decode cL_law 696 = .ok (.aload_n 2, 1) := by decide +kernel
theorem dL_law_697 : decode cL_law 697 = .ok (.invokevirtual 92, 3) := by decide +kernel
theorem dL_law_700 : decode cL_law 700 = .ok (.if_icmp .eq 113, 3) := by decide +kernel
theorem dL_law_703 : decode cL_law 703 = .ok (.iconst 0, 1) := by decide +kernel
theorem dL_law_704 : decode cL_law 704 = .ok (.ireturn, 1) := by decide +kernel
theorem dL_law_705 : decode cL_law 705 = .ok (.aload_n 1, 1) := by decide +kernel
theorem dL_law_706 : decode cL_law 706 = .ok (.aload_n 0, 1) := by decide +kernel
theorem dL_law_707 : decode cL_law 707 = .ok (.iload_n 3, 1) := by decide +kernel
theorem dL_law_708 : decode cL_law 708 = .ok (.iconst 1, 1) := by decide +kernel
theorem dL_law_709 : decode cL_law 709 = .ok (.iadd, 1) := by decide +kernel
theorem dL_law_710 : decode cL_law 710 = .ok (.iaload, 1) := by decide +kernel
theorem dL_law_711 : decode cL_law 711 = .ok (.invokevirtual 93, 3) := by decide +kernel
theorem dL_law_714 : decode cL_law 714 = .ok (.aload_n 2, 1) := by decide +kernel
theorem dL_law_715 : decode cL_law 715 = .ok (.aload_n 0, 1) := by decide +kernel
theorem dL_law_716 : decode cL_law 716 = .ok (.iload_n 3, 1) := by decide +kernel
theorem dL_law_717 : decode cL_law 717 = .ok (.iconst 1, 1) := by decide +kernel
theorem dL_law_718 : decode cL_law 718 = .ok (.iadd, 1) := by decide +kernel
theorem dL_law_719 : decode cL_law 719 = .ok (.iaload, 1) := by decide +kernel
theorem dL_law_720 : decode cL_law 720 = .ok (.invokevirtual 96, 3) := by decide +kernel
theorem dL_law_723 : decode cL_law 723 = .ok (.if_icmp .eq 90, 3) := by decide +kernel
theorem dL_law_726 : decode cL_law 726 = .ok (.iconst 0, 1) := by decide +kernel
theorem dL_law_727 : decode cL_law 727 = .ok (.ireturn, 1) := by decide +kernel
theorem dL_law_728 : decode cL_law 728 = .ok (.aload_n 1, 1) := by decide +kernel
theorem dL_law_729 : decode cL_law 729 = .ok (.invokevirtual 97, 3) := by decide +kernel
theorem dL_law_732 : decode cL_law 732 = .ok (.aload_n 2, 1) := by decide +kernel
theorem dL_law_733 : decode cL_law 733 = .ok (.invokevirtual 100, 3) := by decide +kernel
theorem dL_law_736 : decode cL_law 736 = .ok (.if_icmp .eq 77, 3) := by decide +kernel
theorem dL_law_739 : decode cL_law 739 = .ok (.iconst 0, 1) := by decide +kernel
theorem dL_law_740 : decode cL_law 740 = .ok (.ireturn, 1) := by decide +kernel
theorem dL_law_741 : decode cL_law 741 = .ok (.aload_n 1, 1) := by decide +kernel
theorem dL_law_742 : decode cL_law 742 = .ok (.aload_n 0, 1) := by decide +kernel
theorem dL_law_743 : decode cL_law 743 = .ok (.iload_n 3, 1) := by decide +kernel
theorem dL_law_744 : decode cL_law 744 = .ok (.iconst 1, 1) := by decide +kernel
theorem dL_law_745 : decode cL_law 745 = .ok (.iadd, 1) := by decide +kernel
theorem dL_law_746 : decode cL_law 746 = .ok (.iaload, 1) := by decide +kernel
theorem dL_law_747 : decode cL_law 747 = .ok (.invokevirtual 101, 3) := by decide +kernel
theorem dL_law_750 : decode cL_law 750 = .ok (.aload_n 2, 1) := by decide +kernel
theorem dL_law_751 : decode cL_law 751 = .ok (.aload_n 0, 1) := by decide +kernel
theorem dL_law_752 : decode cL_law 752 = .ok (.iload_n 3, 1) := by decide +kernel
theorem dL_law_753 : decode cL_law 753 = .ok (.iconst 1, 1) := by decide +kernel
theorem dL_law_754 : decode cL_law 754 = .ok (.iadd, 1) := by decide +kernel
theorem dL_law_755 : decode cL_law 755 = .ok (.iaload, 1) := by decide +kernel
theorem dL_law_756 : decode cL_law 756 = .ok (.invokevirtual 104, 3) := by decide +kernel
theorem dL_law_759 : decode cL_law 759 = .ok (.if_icmp .eq 54, 3) := by decide +kernel
theorem dL_law_762 : decode cL_law 762 = .ok (.iconst 0, 1) := by decide +kernel
theorem dL_law_763 : decode cL_law 763 = .ok (.ireturn, 1) := by decide +kernel
theorem dL_law_764 : decode cL_law 764 = .ok (.aload_n 1, 1) := by decide +kernel
theorem dL_law_765 : decode cL_law 765 = .ok (.invokevirtual 105, 3) := by decide +kernel
theorem dL_law_768 : decode cL_law 768 = .ok (.aload_n 2, 1) := by decide +kernel
theorem dL_law_769 : decode cL_law 769 = .ok (.invokevirtual 108, 3) := by decide +kernel
theorem dL_law_772 : decode cL_law 772 = .ok (.if_icmp .eq 41, 3) := by decide +kernel
theorem dL_law_775 : decode cL_law 775 = .ok (.iconst 0, 1) := by decide +kernel
theorem dL_law_776 : decode cL_law 776 = .ok (.ireturn, 1) := by decide +kernel
theorem dL_law_777 : decode cL_law 777 = .ok (.aload_n 1, 1) := by decide +kernel
theorem dL_law_778 : decode cL_law 778 = .ok (.aload_n 0, 1) := by decide +kernel
theorem dL_law_779 : decode cL_law 779 = .ok (.iload_n 3, 1) := by decide +kernel
theorem dL_law_780 : decode cL_law 780 = .ok (.iconst 1, 1) := by decide +kernel
theorem dL_law_781 : decode cL_law 781 = .ok (.iadd, 1) := by decide +kernel
theorem dL_law_782 : decode cL_law 782 = .ok (.iaload, 1) := by decide +kernel
theorem dL_law_783 : decode cL_law 783 = .ok (.invokevirtual 109, 3) := by decide +kernel
theorem dL_law_786 : decode cL_law 786 = .ok (.aload_n 2, 1) := by decide +kernel
theorem dL_law_787 : decode cL_law 787 = .ok (.aload_n 0, 1) := by decide +kernel
theorem dL_law_788 : decode cL_law 788 = .ok (.iload_n 3, 1) := by decide +kernel
theorem dL_law_789 : decode cL_law 789 = .ok (.iconst 1, 1) := by decide +kernel
theorem dL_law_790 : decode cL_law 790 = .ok (.iadd, 1) := by decide +kernel
theorem dL_law_791 : decode cL_law 791 = .ok (.iaload, 1) := by decide +kernel
theorem dL_law_792 : decode cL_law 792 = .ok (.invokevirtual 112, 3) := by decide +kernel
theorem dL_law_795 : decode cL_law 795 = .ok (.if_icmp .eq 18, 3) := by decide +kernel
theorem dL_law_798 : decode cL_law 798 = .ok (.iconst 0, 1) := by decide +kernel
theorem dL_law_799 : decode cL_law 799 = .ok (.ireturn, 1) := by decide +kernel
theorem dL_law_800 : decode cL_law 800 = .ok (.aload_n 1, 1) := by decide +kernel
theorem dL_law_801 : decode cL_law 801 = .ok (.invokevirtual 113, 3) := by decide +kernel
theorem dL_law_804 : decode cL_law 804 = .ok (.aload_n 2, 1) := by decide +kernel
theorem dL_law_805 : decode cL_law 805 = .ok (.invokevirtual 116, 3) := by decide +kernel
theorem dL_law_808 : decode cL_law 808 = .ok (.if_icmp .eq 5, 3) := by decide +kernel
theorem dL_law_811 : decode cL_law 811 = .ok (.iconst 0, 1) := by decide +kernel
theorem dL_law_812 : decode cL_law 812 = .ok (.ireturn, 1) := by decide +kernel
theorem dL_law_813 : decode cL_law 813 = .ok (.iinc 3 4, 3) := by decide +kernel
theorem dL_law_816 : decode cL_law 816 = .ok (.goto (-798), 3) := by decide +kernel
theorem dL_law_819 : decode cL_law 819 = .ok (.iconst 1, 1) := by decide +kernel
theorem dL_law_820 : decode cL_law 820 = .ok (.ireturn, 1) := by decide +kernel
end
section
/-! all the words that any method needs, in one list: every contract stands over its own code and these -/
def K0 : List Cond := [Cond.code yX0_aim cX0_aim 1 (some .int), Cond.fieldLink RX0 18 "DriftingLevels$Grid" "timesWritten" "[I", Cond.fieldLink RX0 9 "DriftingLevels$Grid" "level" "[I", Cond.fieldLink RX0 15 "DriftingLevels$Grid" "value" "[I", Cond.fieldLink RX0 21 "DriftingLevels$Grid" "dayWritten" "[I", Cond.fieldLink RX0 62 "DriftingLevels$Grid" "today" "I", Cond.methodLink RX0 154 yX0_aim, Cond.static yX0_aim, Cond.initialized RX0, Cond.code yX0_put cX0_put 4 none, Cond.fieldLink RX0 27 "DriftingLevels$Grid" "guardFailed" "[I", Cond.fieldLink RX0 24 "DriftingLevels$Grid" "guardValue" "[I", Cond.fieldLink RX0 33 "DriftingLevels$Grid" "dayOfGuards" "[I", Cond.code yX0_writeGuards cX0_writeGuards 4 none, Cond.methodLink RX0 3 objectInit, Cond.instanceMethod objectInit, Cond.code objectInit ⟨#[0xb1]⟩ 1 none, Cond.arrayClass .int, Cond.fieldLink RX0 30 "DriftingLevels$Grid" "rateOfRow" "[I", Cond.fieldLink RX0 36 "DriftingLevels$Grid" "levelsLost" "[I", Cond.fieldLink RX0 39 "DriftingLevels$Grid" "timesAnew" "[I", Cond.fieldLink RX0 42 "DriftingLevels$Grid" "toldAs" "[I", Cond.fieldLink RX0 45 "DriftingLevels$Grid" "setting" "[I", Cond.methodLink RX0 48 yX0_put, Cond.instanceMethod yX0_put, Cond.selects RX0 yX0_put yX0_put, Cond.methodLink RX0 52 yX0_writeGuards, Cond.instanceMethod yX0_writeGuards, Cond.selects RX0 yX0_writeGuards yX0_writeGuards, Cond.code yX0_init cX0_init 2 none, Cond.methodLink RX0 56 arraycopyName, Cond.native arraycopyName]
def K1 : List Cond := [Cond.static arraycopyName, Cond.initialized "java/lang/System", Cond.code yX0_copyFrom cX0_copyFrom 2 none, Cond.code yX2_isOutside cX2_isOutside 3 (some .boolean), Cond.static yX2_isOutside, Cond.initialized RX2, Cond.code yX0_isOutsideCell cX0_isOutsideCell 2 (some .boolean), Cond.constant RX0 74 (-1000001), Cond.methodLink RX0 66 yX0_isOutsideCell, Cond.static yX0_isOutsideCell, Cond.code yX0_writeLevel cX0_writeLevel 5 (some .int), Cond.code yX0_hasRightThresholds cX0_hasRightThresholds 3 (some .boolean), Cond.code yX0_ownThreshold cX0_ownThreshold 4 (some .int), Cond.methodLink RX0 115 yX0_hasRightThresholds, Cond.instanceMethod yX0_hasRightThresholds, Cond.selects RX0 yX0_hasRightThresholds yX0_hasRightThresholds, Cond.methodLink RX0 104 yX0_ownThreshold, Cond.instanceMethod yX0_ownThreshold, Cond.selects RX0 yX0_ownThreshold yX0_ownThreshold, Cond.code yX0_threshold cX0_threshold 5 (some .int), Cond.code yX0_tell cX0_tell 3 (some .int), Cond.methodLink RX0 79 yX0_threshold, Cond.instanceMethod yX0_threshold, Cond.selects RX0 yX0_threshold yX0_threshold, Cond.methodLink RX0 83 yX0_tell, Cond.static yX0_tell, Cond.code yX0_toldWord cX0_toldWord 6 (some .int), Cond.methodLink RX0 75 yX0_toldWord, Cond.instanceMethod yX0_toldWord, Cond.selects RX0 yX0_toldWord yX0_toldWord, Cond.code yX0_writeWord cX0_writeWord 6 (some .int), Cond.code yX0_writeAnew cX0_writeAnew 8 (some .int)]
def K2 : List Cond := [Cond.code yX0_askCell cX0_askCell 5 (some .int), Cond.code yX0_isOutsideGuard cX0_isOutsideGuard 2 (some .boolean), Cond.constant RX0 90 (-1000002), Cond.methodLink RX0 87 yX0_isOutsideGuard, Cond.static yX0_isOutsideGuard, Cond.code yX0_failGuard cX0_failGuard 6 (some .int), Cond.code yX0_mendGuard cX0_mendGuard 4 (some .int), Cond.code yX0_changeRate cX0_changeRate 4 (some .int), Cond.methodLink RX0 160 Lib.Math.max.name, Cond.static Lib.Math.max.name, Cond.initialized "java/lang/Math", Cond.code Lib.Math.max.name Lib.Math.max.code 2 (some .int), Cond.code yX0_nearer cX0_nearer 4 (some .int), Cond.methodLink RX0 157 yX0_nearer, Cond.instanceMethod yX0_nearer, Cond.selects RX0 yX0_nearer yX0_nearer, Cond.code yX0_drift cX0_drift 2 none, Cond.code yX0_age cX0_age 2 (some .int), Cond.constant RX0 91 (-1000003), Cond.methodLink RX0 92 yX0_drift, Cond.instanceMethod yX0_drift, Cond.selects RX0 yX0_drift yX0_drift, Cond.methodLink RX0 95 yX0_age, Cond.instanceMethod yX0_age, Cond.selects RX0 yX0_age yX0_age, Cond.methodLink RX0 98 yX0_writeAnew, Cond.instanceMethod yX0_writeAnew, Cond.selects RX0 yX0_writeAnew yX0_writeAnew, Cond.code yX0_passDays cX0_passDays 6 (some .int), Cond.code yX0_isOutsideSetting cX0_isOutsideSetting 2 (some .boolean), Cond.methodLink RX0 101 yX0_isOutsideSetting, Cond.static yX0_isOutsideSetting]
def K3 : List Cond := [Cond.code yX0_changeSetting cX0_changeSetting 4 (some .int), Cond.methodLink RX0 107 Lib.Math.abs.name, Cond.static Lib.Math.abs.name, Cond.code Lib.Math.abs.name Lib.Math.abs.code 1 (some .int), Cond.methodLink RX0 112 Lib.Math.min.name, Cond.static Lib.Math.min.name, Cond.code Lib.Math.min.name Lib.Math.min.code 2 (some .int), Cond.code yX0_numberOfCell cX0_numberOfCell 7 (some .int), Cond.code yX0_numberOfGuard cX0_numberOfGuard 5 (some .int), Cond.code yX0_source cX0_source 2 (some .int), Cond.code yX0_wrongBy cX0_wrongBy 7 (some .int), Cond.methodLink RX0 125 yX0_wrongBy, Cond.instanceMethod yX0_wrongBy, Cond.selects RX0 yX0_wrongBy yX0_wrongBy, Cond.code yX0_wrongCells cX0_wrongCells 2 (some .int), Cond.code yX0_levelWord cX0_levelWord 4 (some .int), Cond.methodLink RX0 119 yX0_source, Cond.instanceMethod yX0_source, Cond.selects RX0 yX0_source yX0_source, Cond.methodLink RX0 122 yX0_wrongCells, Cond.instanceMethod yX0_wrongCells, Cond.selects RX0 yX0_wrongCells yX0_wrongCells, Cond.methodLink RX0 128 yX0_levelWord, Cond.instanceMethod yX0_levelWord, Cond.selects RX0 yX0_levelWord yX0_levelWord, Cond.code yX0_numberOfRow cX0_numberOfRow 3 (some .int), Cond.code yX0_timesTold cX0_timesTold 3 (some .int), Cond.code yX0_allWrongCells cX0_allWrongCells 3 (some .int), Cond.code yX0_rowsWithWrongCells cX0_rowsWithWrongCells 3 (some .int), Cond.code yX0_rowsToldBy cX0_rowsToldBy 4 (some .int), Cond.code yX0_sum cX0_sum 3 (some .int), Cond.methodLink RX0 141 yX0_sum]
def K4 : List Cond := [Cond.static yX0_sum, Cond.code yX0_timesAsked cX0_timesAsked 1 (some .int), Cond.code yX0_pairsTold cX0_pairsTold 3 (some .int), Cond.code yX0_cellsOfLevel cX0_cellsOfLevel 4 (some .int), Cond.methodLink RX0 131 yX0_allWrongCells, Cond.instanceMethod yX0_allWrongCells, Cond.selects RX0 yX0_allWrongCells yX0_allWrongCells, Cond.methodLink RX0 135 yX0_rowsWithWrongCells, Cond.instanceMethod yX0_rowsWithWrongCells, Cond.selects RX0 yX0_rowsWithWrongCells yX0_rowsWithWrongCells, Cond.methodLink RX0 138 yX0_rowsToldBy, Cond.instanceMethod yX0_rowsToldBy, Cond.selects RX0 yX0_rowsToldBy yX0_rowsToldBy, Cond.methodLink RX0 145 yX0_timesAsked, Cond.instanceMethod yX0_timesAsked, Cond.selects RX0 yX0_timesAsked yX0_timesAsked, Cond.methodLink RX0 148 yX0_pairsTold, Cond.instanceMethod yX0_pairsTold, Cond.selects RX0 yX0_pairsTold yX0_pairsTold, Cond.methodLink RX0 151 yX0_cellsOfLevel, Cond.instanceMethod yX0_cellsOfLevel, Cond.selects RX0 yX0_cellsOfLevel yX0_cellsOfLevel, Cond.code yX0_tally cX0_tally 2 (some .int), Cond.code yX0_timesToldRight cX0_timesToldRight 3 (some .int), Cond.code yX0_distanceFromAims cX0_distanceFromAims 3 (some .int), Cond.code yX0_worstBut cX0_worstBut 6 (some .int), Cond.methodLink RX1 3 objectInit, Cond.arrayClass .char, Cond.fieldLink RX1 9 "DriftingLevels$OrderText" "signs" "[C", Cond.fieldLink RX1 15 "DriftingLevels$OrderText" "numbers" "[I", Cond.code yX1_init cX1_init 1 none, Cond.fieldLink RX1 19 "DriftingLevels$OrderText" "length" "I"]
def K5 : List Cond := [Cond.code yX1_size cX1_size 1 (some .int), Cond.constant RX1 27 (-1000001), Cond.constant RX1 28 (-1000003), Cond.code yX1_append cX1_append 2 (some .int), Cond.code yX1_empty cX1_empty 2 (some .int), Cond.fieldLink RX1 29 "DriftingLevels$OrderText" "reached" "I", Cond.code yX1_placeReached cX1_placeReached 1 (some .int), Cond.code yX1_signAt cX1_signAt 2 (some .char), Cond.code yX1_numbersOf cX1_numbersOf 1 (some .int), Cond.code yX1_isDigit cX1_isDigit 1 (some .boolean), Cond.methodLink RX1 32 yX1_signAt, Cond.instanceMethod yX1_signAt, Cond.selects RX1 yX1_signAt yX1_signAt, Cond.initialized RX1, Cond.methodLink RX1 71 yX1_isDigit, Cond.static yX1_isDigit, Cond.code yX1_readNumber cX1_readNumber 4 (some .boolean), Cond.fieldLink RX1 36 "DriftingLevels$OrderText" "kind" "C", Cond.methodLink RX1 40 yX1_numbersOf, Cond.static yX1_numbersOf, Cond.methodLink RX1 44 yX1_readNumber, Cond.instanceMethod yX1_readNumber, Cond.selects RX1 yX1_readNumber yX1_readNumber, Cond.code yX1_readOrder cX1_readOrder 5 (some .boolean), Cond.methodLink RX1 48 yX0_writeLevel, Cond.instanceMethod yX0_writeLevel, Cond.selects RX0 yX0_writeLevel yX0_writeLevel, Cond.methodLink RX1 54 yX0_writeAnew, Cond.methodLink RX1 58 yX0_failGuard, Cond.instanceMethod yX0_failGuard, Cond.selects RX0 yX0_failGuard yX0_failGuard, Cond.methodLink RX1 61 yX0_mendGuard]
def K6 : List Cond := [Cond.instanceMethod yX0_mendGuard, Cond.selects RX0 yX0_mendGuard yX0_mendGuard, Cond.methodLink RX1 65 yX0_changeRate, Cond.instanceMethod yX0_changeRate, Cond.selects RX0 yX0_changeRate yX0_changeRate, Cond.methodLink RX1 68 yX0_passDays, Cond.instanceMethod yX0_passDays, Cond.selects RX0 yX0_passDays yX0_passDays, Cond.code yX1_doOrder cX1_doOrder 2 (some .int), Cond.methodLink RX2 3 objectInit, Cond.classLink RX2 9 RX0, Cond.instantiable RX0 13, Cond.fieldLink RX2 12 "DriftingLevels" "grid" "LDriftingLevels$Grid;", Cond.fieldLink RX2 16 "DriftingLevels" "spare" "LDriftingLevels$Grid;", Cond.fieldLink RX2 19 "DriftingLevels" "trial" "LDriftingLevels$Grid;", Cond.fieldLink RX2 22 "DriftingLevels" "history" "[LDriftingLevels$Grid;", Cond.classLink RX2 26 RX1, Cond.instantiable RX1 5, Cond.fieldLink RX2 29 "DriftingLevels" "text" "LDriftingLevels$OrderText;", Cond.methodLink RX2 11 yX0_init, Cond.instanceMethod yX0_init, Cond.instanceMethod yX1_init, Cond.code yX2_init cX2_init 2 none, Cond.fieldLink RX2 117 "DriftingLevels" "states" "I", Cond.code yX2_dropOldest cX2_dropOldest 3 none, Cond.methodLink RX2 150 yX2_dropOldest, Cond.instanceMethod yX2_dropOldest, Cond.selects RX2 yX2_dropOldest yX2_dropOldest, Cond.code yX2_recorded cX2_recorded 3 (some .int), Cond.methodLink RX2 33 yX0_copyFrom, Cond.instanceMethod yX0_copyFrom, Cond.selects RX0 yX0_copyFrom yX0_copyFrom]
def K7 : List Cond := [Cond.methodLink RX2 37 yX0_writeLevel, Cond.methodLink RX2 41 yX2_recorded, Cond.instanceMethod yX2_recorded, Cond.selects RX2 yX2_recorded yX2_recorded, Cond.code yX2_write cX2_write 4 (some .int), Cond.methodLink RX2 45 yX0_writeWord, Cond.instanceMethod yX0_writeWord, Cond.selects RX0 yX0_writeWord yX0_writeWord, Cond.code yX2_fill cX2_fill 3 (some .int), Cond.methodLink RX2 49 yX0_writeAnew, Cond.code yX2_anew cX2_anew 2 (some .int), Cond.methodLink RX2 52 yX0_askCell, Cond.instanceMethod yX0_askCell, Cond.selects RX0 yX0_askCell yX0_askCell, Cond.code yX2_ask cX2_ask 3 (some .int), Cond.methodLink RX2 55 yX0_failGuard, Cond.code yX2_fail cX2_fail 4 (some .int), Cond.methodLink RX2 58 yX0_mendGuard, Cond.code yX2_mend cX2_mend 3 (some .int), Cond.methodLink RX2 61 yX0_changeRate, Cond.code yX2_rate cX2_rate 3 (some .int), Cond.methodLink RX2 64 yX0_passDays, Cond.code yX2_days cX2_days 2 (some .int), Cond.methodLink RX2 67 yX0_changeSetting, Cond.instanceMethod yX0_changeSetting, Cond.selects RX0 yX0_changeSetting yX0_changeSetting, Cond.code yX2_set cX2_set 3 (some .int), Cond.methodLink RX2 70 yX0_numberOfCell, Cond.instanceMethod yX0_numberOfCell, Cond.selects RX0 yX0_numberOfCell yX0_numberOfCell, Cond.code yX2_cell cX2_cell 4 (some .int), Cond.methodLink RX2 73 yX0_numberOfGuard]
def K8 : List Cond := [Cond.instanceMethod yX0_numberOfGuard, Cond.selects RX0 yX0_numberOfGuard yX0_numberOfGuard, Cond.code yX2_guard cX2_guard 4 (some .int), Cond.methodLink RX2 76 yX0_numberOfRow, Cond.instanceMethod yX0_numberOfRow, Cond.selects RX0 yX0_numberOfRow yX0_numberOfRow, Cond.code yX2_row cX2_row 3 (some .int), Cond.methodLink RX2 79 yX0_timesTold, Cond.instanceMethod yX0_timesTold, Cond.selects RX0 yX0_timesTold yX0_timesTold, Cond.code yX2_table cX2_table 3 (some .int), Cond.constant RX2 86 (-1000001), Cond.constant RX2 90 (1000000), Cond.constant RX2 91 (-1000004), Cond.methodLink RX2 82 yX2_isOutside, Cond.methodLink RX2 87 yX0_wrongCells, Cond.code yX2_wrongIn cX2_wrongIn 3 (some .int), Cond.methodLink RX2 92 yX0_hasRightThresholds, Cond.code yX2_rightFor cX2_rightFor 3 (some .int), Cond.code yX2_isSafe cX2_isSafe 3 (some .boolean), Cond.methodLink RX2 96 yX2_isSafe, Cond.instanceMethod yX2_isSafe, Cond.selects RX2 yX2_isSafe yX2_isSafe, Cond.code yX2_safeAge cX2_safeAge 2 (some .int), Cond.methodLink RX2 99 yX0_worstBut, Cond.instanceMethod yX0_worstBut, Cond.selects RX0 yX0_worstBut yX0_worstBut, Cond.code yX2_worst cX2_worst 5 (some .int), Cond.constantFloat RX2 166 (1258291200), Cond.code yX2_bitsOf cX2_bitsOf 4 (some .int), Cond.constantFloat RX2 106 (1111490560), Cond.methodLink RX2 102 yX0_distanceFromAims]
def K9 : List Cond := [Cond.instanceMethod yX0_distanceFromAims, Cond.selects RX0 yX0_distanceFromAims yX0_distanceFromAims, Cond.methodLink RX2 107 yX2_bitsOf, Cond.static yX2_bitsOf, Cond.code yX2_mean cX2_mean 1 (some .int), Cond.methodLink RX2 111 yX0_timesAsked, Cond.methodLink RX2 114 yX0_timesToldRight, Cond.instanceMethod yX0_timesToldRight, Cond.selects RX0 yX0_timesToldRight yX0_timesToldRight, Cond.code yX2_share cX2_share 2 (some .int), Cond.methodLink RX2 121 yX1_size, Cond.instanceMethod yX1_size, Cond.selects RX1 yX1_size yX1_size, Cond.methodLink RX2 124 yX0_tally, Cond.instanceMethod yX0_tally, Cond.selects RX0 yX0_tally yX0_tally, Cond.code yX2_count cX2_count 2 (some .int), Cond.constant RX2 127 (-1000002), Cond.code yX2_undo cX2_undo 2 (some .int), Cond.methodLink RX2 128 yX1_append, Cond.instanceMethod yX1_append, Cond.selects RX1 yX1_append yX1_append, Cond.code yX2_type cX2_type 2 (some .int), Cond.methodLink RX2 131 yX1_empty, Cond.instanceMethod yX1_empty, Cond.selects RX1 yX1_empty yX1_empty, Cond.code yX2_clearText cX2_clearText 1 (some .int), Cond.fieldLink RX2 138 "DriftingLevels" "faultPosition" "I", Cond.fieldLink RX2 141 "DriftingLevels" "faultReason" "I", Cond.fieldLink RX2 144 "DriftingLevels" "faultCause" "I", Cond.code yX2_noteFault cX2_noteFault 4 (some .boolean), Cond.fieldLink RX2 147 "DriftingLevels" "orders" "I"]
def K10 : List Cond := [Cond.methodLink RX2 153 yX1_readOrder, Cond.instanceMethod yX1_readOrder, Cond.selects RX1 yX1_readOrder yX1_readOrder, Cond.methodLink RX2 156 yX1_placeReached, Cond.instanceMethod yX1_placeReached, Cond.selects RX1 yX1_placeReached yX1_placeReached, Cond.methodLink RX2 159 yX2_noteFault, Cond.instanceMethod yX2_noteFault, Cond.selects RX2 yX2_noteFault yX2_noteFault, Cond.methodLink RX2 162 yX1_doOrder, Cond.instanceMethod yX1_doOrder, Cond.selects RX1 yX1_doOrder yX1_doOrder, Cond.code yX2_findFault cX2_findFault 3 (some .boolean), Cond.methodLink RX2 134 yX2_findFault, Cond.instanceMethod yX2_findFault, Cond.selects RX2 yX2_findFault yX2_findFault, Cond.code yX2_fault cX2_fault 2 (some .int), Cond.code yX2_play cX2_play 1 (some .int), Cond.fieldLink RX3 7 "DriftingLevelsModel" "s" "[I", Cond.code yX3_lays cX3_lays 4 none, Cond.code yX3_of cX3_of 3 (some .int), Cond.code yX3_aim cX3_aim 1 (some .int), Cond.methodLink RX3 52 yX3_of, Cond.instanceMethod yX3_of, Cond.selects RX3 yX3_of yX3_of, Cond.initialized RX3, Cond.methodLink RX3 63 yX3_aim, Cond.static yX3_aim, Cond.methodLink RX3 28 yX3_lays, Cond.instanceMethod yX3_lays, Cond.selects RX3 yX3_lays yX3_lays, Cond.code yX3_writesGuards cX3_writesGuards 3 none]
def K11 : List Cond := [Cond.code yX3_ofCell cX3_ofCell 4 (some .int), Cond.code yX3_laysCell cX3_laysCell 5 none, Cond.methodLink RX3 56 yX3_ofCell, Cond.instanceMethod yX3_ofCell, Cond.selects RX3 yX3_ofCell yX3_ofCell, Cond.methodLink RX3 59 yX3_laysCell, Cond.instanceMethod yX3_laysCell, Cond.selects RX3 yX3_laysCell yX3_laysCell, Cond.code yX3_writes cX3_writes 6 (some .int), Cond.methodLink RX3 1 objectInit, Cond.fieldLink RX3 13 "DriftingLevelsModel" "aside" "[I", Cond.fieldLink RX3 16 "DriftingLevelsModel" "before" "[I", Cond.fieldLink RX3 19 "DriftingLevelsModel" "past" "[I", Cond.fieldLink RX3 22 "DriftingLevelsModel" "text" "[I", Cond.fieldLink RX3 25 "DriftingLevelsModel" "tells" "[I", Cond.methodLink RX3 32 yX3_writesGuards, Cond.instanceMethod yX3_writesGuards, Cond.selects RX3 yX3_writesGuards yX3_writesGuards, Cond.methodLink RX3 36 yX3_writes, Cond.instanceMethod yX3_writes, Cond.selects RX3 yX3_writes yX3_writes, Cond.code yX3_init cX3_init 3 none, Cond.code yX3_in cX3_in 3 (some .boolean), Cond.code yX3_copies cX3_copies 5 none, Cond.fieldLink RX3 40 "DriftingLevelsModel" "known" "I", Cond.methodLink RX3 44 yX3_copies, Cond.static yX3_copies, Cond.code yX3_records cX3_records 2 none, Cond.methodLink RX3 48 yX3_in, Cond.static yX3_in, Cond.code yX3_isRow cX3_isRow 1 (some .boolean), Cond.code yX3_isCell cX3_isCell 1 (some .boolean)]
def K12 : List Cond := [Cond.code yX3_isThree cX3_isThree 1 (some .boolean), Cond.code yX3_size cX3_size 1 (some .int), Cond.code yX3_own cX3_own 3 (some .int), Cond.code yX3_isRight cX3_isRight 2 (some .boolean), Cond.methodLink RX3 67 yX3_isRow, Cond.static yX3_isRow, Cond.methodLink RX3 71 yX3_isRight, Cond.instanceMethod yX3_isRight, Cond.selects RX3 yX3_isRight yX3_isRight, Cond.code yX3_helps cX3_helps 2 (some .boolean), Cond.methodLink RX3 74 yX3_helps, Cond.instanceMethod yX3_helps, Cond.selects RX3 yX3_helps yX3_helps, Cond.code yX3_source cX3_source 2 (some .int), Cond.methodLink RX3 77 yX3_own, Cond.instanceMethod yX3_own, Cond.selects RX3 yX3_own yX3_own, Cond.code yX3_threshold cX3_threshold 5 (some .int), Cond.code yX3_by cX3_by 3 (some .int), Cond.methodLink RX3 80 yX3_threshold, Cond.instanceMethod yX3_threshold, Cond.selects RX3 yX3_threshold yX3_threshold, Cond.methodLink RX3 83 yX3_by, Cond.static yX3_by, Cond.code yX3_told cX3_told 3 (some .int), Cond.methodLink RX3 86 yX3_told, Cond.instanceMethod yX3_told, Cond.selects RX3 yX3_told yX3_told, Cond.code yX3_wrong cX3_wrong 4 (some .int), Cond.code yX3_wordTold cX3_wordTold 4 (some .int), Cond.code yX3_wordOf cX3_wordOf 4 (some .int), Cond.code yX3_writesWord cX3_writesWord 6 none]
def K13 : List Cond := [Cond.methodLink RX3 89 yX3_wrong, Cond.instanceMethod yX3_wrong, Cond.selects RX3 yX3_wrong yX3_wrong, Cond.methodLink RX3 92 yX3_wordTold, Cond.instanceMethod yX3_wordTold, Cond.selects RX3 yX3_wordTold yX3_wordTold, Cond.methodLink RX3 95 yX3_writesWord, Cond.instanceMethod yX3_writesWord, Cond.selects RX3 yX3_writesWord yX3_writesWord, Cond.code yX3_writesAnew cX3_writesAnew 3 (some .int), Cond.methodLink RX3 99 yX3_size, Cond.static yX3_size, Cond.code yX3_drifted cX3_drifted 5 (some .int), Cond.methodLink RX3 102 yX3_drifted, Cond.instanceMethod yX3_drifted, Cond.selects RX3 yX3_drifted yX3_drifted, Cond.code yX3_drifts cX3_drifts 3 none, Cond.code yX3_ageOf cX3_ageOf 2 (some .int), Cond.methodLink RX3 105 yX3_drifts, Cond.instanceMethod yX3_drifts, Cond.selects RX3 yX3_drifts yX3_drifts, Cond.methodLink RX3 108 yX3_ageOf, Cond.instanceMethod yX3_ageOf, Cond.selects RX3 yX3_ageOf yX3_ageOf, Cond.methodLink RX3 111 yX3_writesAnew, Cond.instanceMethod yX3_writesAnew, Cond.selects RX3 yX3_writesAnew yX3_writesAnew, Cond.code yX3_endsDay cX3_endsDay 3 (some .int), Cond.methodLink RX3 114 yX3_endsDay, Cond.instanceMethod yX3_endsDay, Cond.selects RX3 yX3_endsDay yX3_endsDay, Cond.code yX3_endsDays cX3_endsDays 4 (some .int)]
def K14 : List Cond := [Cond.constant RX3 124 (-1000001), Cond.methodLink RX3 118 yX3_isCell, Cond.static yX3_isCell, Cond.methodLink RX3 121 yX3_isThree, Cond.static yX3_isThree, Cond.code yX3_errorWrite cX3_errorWrite 3 (some .int), Cond.constant RX3 125 (-1000002), Cond.code yX3_errorFail cX3_errorFail 4 (some .int), Cond.code yX3_errorMend cX3_errorMend 3 (some .int), Cond.code yX3_errorRate cX3_errorRate 2 (some .int), Cond.constant RX3 126 (-1000003), Cond.code yX3_errorDays cX3_errorDays 2 (some .int), Cond.code yX3_goFail cX3_goFail 4 none, Cond.methodLink RX3 127 yX3_errorWrite, Cond.static yX3_errorWrite, Cond.methodLink RX3 130 yX3_records, Cond.instanceMethod yX3_records, Cond.selects RX3 yX3_records yX3_records, Cond.code yX3_write cX3_write 5 (some .int), Cond.code yX3_fill cX3_fill 4 (some .int), Cond.code yX3_anew cX3_anew 2 (some .int), Cond.code yX3_ask cX3_ask 4 (some .int), Cond.methodLink RX3 133 yX3_errorFail, Cond.instanceMethod yX3_errorFail, Cond.selects RX3 yX3_errorFail yX3_errorFail, Cond.methodLink RX3 136 yX3_goFail, Cond.instanceMethod yX3_goFail, Cond.selects RX3 yX3_goFail yX3_goFail, Cond.code yX3_fail cX3_fail 6 (some .int), Cond.methodLink RX3 139 yX3_errorMend, Cond.instanceMethod yX3_errorMend, Cond.selects RX3 yX3_errorMend yX3_errorMend]
def K15 : List Cond := [Cond.code yX3_mend cX3_mend 4 (some .int), Cond.methodLink RX3 142 yX3_errorRate, Cond.static yX3_errorRate, Cond.code yX3_rate cX3_rate 5 (some .int), Cond.methodLink RX3 145 yX3_errorDays, Cond.instanceMethod yX3_errorDays, Cond.selects RX3 yX3_errorDays yX3_errorDays, Cond.methodLink RX3 148 yX3_endsDays, Cond.instanceMethod yX3_endsDays, Cond.selects RX3 yX3_endsDays yX3_endsDays, Cond.code yX3_days cX3_days 3 (some .int), Cond.code yX3_set cX3_set 4 (some .int), Cond.code yX3_undo cX3_undo 1 (some .int), Cond.code yX3_nearer cX3_nearer 5 (some .int), Cond.methodLink RX3 151 yX3_nearer, Cond.instanceMethod yX3_nearer, Cond.selects RX3 yX3_nearer yX3_nearer, Cond.code yX3_cell cX3_cell 5 (some .int), Cond.code yX3_guard cX3_guard 4 (some .int), Cond.code yX3_wrongFixed cX3_wrongFixed 4 (some .int), Cond.methodLink RX3 154 yX3_source, Cond.instanceMethod yX3_source, Cond.selects RX3 yX3_source yX3_source, Cond.methodLink RX3 157 yX3_wrongFixed, Cond.instanceMethod yX3_wrongFixed, Cond.selects RX3 yX3_wrongFixed yX3_wrongFixed, Cond.methodLink RX3 160 yX3_wordOf, Cond.instanceMethod yX3_wordOf, Cond.selects RX3 yX3_wordOf yX3_wordOf, Cond.code yX3_row cX3_row 3 (some .int), Cond.code yX3_table cX3_table 3 (some .int), Cond.constant RX3 163 (-1000004)]
def K16 : List Cond := [Cond.code yX3_wrongIn cX3_wrongIn 4 (some .int), Cond.code yX3_rightFor cX3_rightFor 3 (some .int), Cond.code yX3_lostBy cX3_lostBy 4 (some .int), Cond.methodLink RX3 164 yX3_lostBy, Cond.instanceMethod yX3_lostBy, Cond.selects RX3 yX3_lostBy yX3_lostBy, Cond.code yX3_safeAge cX3_safeAge 2 (some .int), Cond.code yX3_worst cX3_worst 6 (some .int), Cond.constantFloat RX3 167 (1111490560), Cond.methodLink RX3 168 yJxf58ca_floatToIntBits_5c35a, Cond.static yJxf58ca_floatToIntBits_5c35a, Cond.initialized RJxf58ca, Cond.code yJxf58ca_floatToIntBits_5c35a cJxf58ca_floatToIntBits_5c35a 1 (some .int), Cond.methodLink RJxf58ca 74 ⟨"java/lang/Float", "floatToRawIntBits", "(F)I"⟩, Cond.native ⟨"java/lang/Float", "floatToRawIntBits", "(F)I"⟩, Cond.static ⟨"java/lang/Float", "floatToRawIntBits", "(F)I"⟩, Cond.initialized "java/lang/Float", Cond.constant RJxf58ca 77 (2143289344), Cond.methodLink RJxf58ca 59 yJxf58ca_isNaN_12338, Cond.static yJxf58ca_isNaN_12338, Cond.code yJxf58ca_isNaN_12338 cJxf58ca_isNaN_12338 1 (some .boolean), Cond.code yX3_mean cX3_mean 3 (some .int), Cond.code yX3_share cX3_share 2 (some .int), Cond.code yX3_wrongAll cX3_wrongAll 3 (some .int), Cond.code yX3_isOf cX3_isOf 3 (some .boolean), Cond.methodLink RX3 174 yX3_isOf, Cond.instanceMethod yX3_isOf, Cond.selects RX3 yX3_isOf yX3_isOf, Cond.code yX3_setOf cX3_setOf 4 (some .int), Cond.code yX3_failed cX3_failed 3 (some .int), Cond.code yX3_pairs cX3_pairs 3 (some .int), Cond.code yX3_ofLevel cX3_ofLevel 4 (some .int)]
def K17 : List Cond := [Cond.fieldLink RX3 193 "DriftingLevelsModel" "length" "I", Cond.methodLink RX3 178 yX3_wrongAll, Cond.instanceMethod yX3_wrongAll, Cond.selects RX3 yX3_wrongAll yX3_wrongAll, Cond.methodLink RX3 181 yX3_setOf, Cond.instanceMethod yX3_setOf, Cond.selects RX3 yX3_setOf yX3_setOf, Cond.methodLink RX3 184 yX3_failed, Cond.instanceMethod yX3_failed, Cond.selects RX3 yX3_failed yX3_failed, Cond.methodLink RX3 187 yX3_pairs, Cond.instanceMethod yX3_pairs, Cond.selects RX3 yX3_pairs yX3_pairs, Cond.methodLink RX3 190 yX3_ofLevel, Cond.instanceMethod yX3_ofLevel, Cond.selects RX3 yX3_ofLevel yX3_ofLevel, Cond.code yX3_count cX3_count 2 (some .int), Cond.code yX3_type cX3_type 2 (some .int), Cond.code yX3_clearText cX3_clearText 2 (some .int), Cond.fieldLink RX3 196 "DriftingLevelsModel" "spot" "I", Cond.code yX3_here cX3_here 1 (some .int), Cond.fieldLink RX3 199 "DriftingLevelsModel" "isForm" "Z", Cond.code yX3_takes cX3_takes 2 none, Cond.methodLink RX3 203 yX3_here, Cond.instanceMethod yX3_here, Cond.selects RX3 yX3_here yX3_here, Cond.code yX3_takesNumber cX3_takesNumber 4 none, Cond.fieldLink RX3 206 "DriftingLevelsModel" "begin" "I", Cond.fieldLink RX3 209 "DriftingLevelsModel" "letter" "I", Cond.methodLink RX3 212 yX3_takes, Cond.instanceMethod yX3_takes, Cond.selects RX3 yX3_takes yX3_takes]
def K18 : List Cond := [Cond.methodLink RX3 216 yX3_takesNumber, Cond.instanceMethod yX3_takesNumber, Cond.selects RX3 yX3_takesNumber yX3_takesNumber, Cond.code yX3_takesOrder cX3_takesOrder 3 none, Cond.code yX3_errorOfOrder cX3_errorOfOrder 1 (some .int), Cond.code yX3_doesOrder cX3_doesOrder 2 none, Cond.fieldLink RX3 219 "DriftingLevelsModel" "faultReason" "I", Cond.fieldLink RX3 228 "DriftingLevelsModel" "faultCause" "I", Cond.methodLink RX3 222 yX3_takesOrder, Cond.instanceMethod yX3_takesOrder, Cond.selects RX3 yX3_takesOrder yX3_takesOrder, Cond.methodLink RX3 225 yX3_errorOfOrder, Cond.instanceMethod yX3_errorOfOrder, Cond.selects RX3 yX3_errorOfOrder yX3_errorOfOrder, Cond.methodLink RX3 231 yX3_doesOrder, Cond.instanceMethod yX3_doesOrder, Cond.selects RX3 yX3_doesOrder yX3_doesOrder, Cond.code yX3_doesAll cX3_doesAll 3 (some .int), Cond.methodLink RX3 234 yX3_doesAll, Cond.instanceMethod yX3_doesAll, Cond.selects RX3 yX3_doesAll yX3_doesAll, Cond.code yX3_fault cX3_fault 3 (some .int), Cond.code yX3_play cX3_play 2 (some .int), Cond.classLink RL 7 RX2, Cond.instantiable RX2 10, Cond.classLink RL 10 RX3, Cond.instantiable RX3 14, Cond.methodLink RL 9 yX2_init, Cond.instanceMethod yX2_init, Cond.methodLink RL 12 yX3_init, Cond.instanceMethod yX3_init, Cond.methodLink RL 13 yX2_write]
def K19 : List Cond := [Cond.instanceMethod yX2_write, Cond.selects RX2 yX2_write yX2_write, Cond.methodLink RL 17 yX3_write, Cond.instanceMethod yX3_write, Cond.selects RX3 yX3_write yX3_write, Cond.methodLink RL 18 yX2_fill, Cond.instanceMethod yX2_fill, Cond.selects RX2 yX2_fill yX2_fill, Cond.methodLink RL 22 yX3_fill, Cond.instanceMethod yX3_fill, Cond.selects RX3 yX3_fill yX3_fill, Cond.methodLink RL 23 yX2_anew, Cond.instanceMethod yX2_anew, Cond.selects RX2 yX2_anew yX2_anew, Cond.methodLink RL 27 yX3_anew, Cond.instanceMethod yX3_anew, Cond.selects RX3 yX3_anew yX3_anew, Cond.methodLink RL 28 yX2_ask, Cond.instanceMethod yX2_ask, Cond.selects RX2 yX2_ask yX2_ask, Cond.methodLink RL 31 yX3_ask, Cond.instanceMethod yX3_ask, Cond.selects RX3 yX3_ask yX3_ask, Cond.methodLink RL 32 yX2_fail, Cond.instanceMethod yX2_fail, Cond.selects RX2 yX2_fail yX2_fail, Cond.methodLink RL 35 yX3_fail, Cond.instanceMethod yX3_fail, Cond.selects RX3 yX3_fail yX3_fail, Cond.methodLink RL 36 yX2_mend, Cond.instanceMethod yX2_mend, Cond.selects RX2 yX2_mend yX2_mend]
def K20 : List Cond := [Cond.methodLink RL 39 yX3_mend, Cond.instanceMethod yX3_mend, Cond.selects RX3 yX3_mend yX3_mend, Cond.methodLink RL 40 yX2_rate, Cond.instanceMethod yX2_rate, Cond.selects RX2 yX2_rate yX2_rate, Cond.methodLink RL 43 yX3_rate, Cond.instanceMethod yX3_rate, Cond.selects RX3 yX3_rate yX3_rate, Cond.methodLink RL 44 yX2_days, Cond.instanceMethod yX2_days, Cond.selects RX2 yX2_days yX2_days, Cond.methodLink RL 47 yX3_days, Cond.instanceMethod yX3_days, Cond.selects RX3 yX3_days yX3_days, Cond.methodLink RL 48 yX2_set, Cond.instanceMethod yX2_set, Cond.selects RX2 yX2_set yX2_set, Cond.methodLink RL 51 yX3_set, Cond.instanceMethod yX3_set, Cond.selects RX3 yX3_set yX3_set, Cond.methodLink RL 52 yX2_cell, Cond.instanceMethod yX2_cell, Cond.selects RX2 yX2_cell yX2_cell, Cond.methodLink RL 55 yX3_cell, Cond.instanceMethod yX3_cell, Cond.selects RX3 yX3_cell yX3_cell, Cond.methodLink RL 56 yX2_guard, Cond.instanceMethod yX2_guard, Cond.selects RX2 yX2_guard yX2_guard, Cond.methodLink RL 59 yX3_guard, Cond.instanceMethod yX3_guard]
def K21 : List Cond := [Cond.selects RX3 yX3_guard yX3_guard, Cond.methodLink RL 60 yX2_row, Cond.instanceMethod yX2_row, Cond.selects RX2 yX2_row yX2_row, Cond.methodLink RL 63 yX3_row, Cond.instanceMethod yX3_row, Cond.selects RX3 yX3_row yX3_row, Cond.methodLink RL 64 yX2_table, Cond.instanceMethod yX2_table, Cond.selects RX2 yX2_table yX2_table, Cond.methodLink RL 67 yX3_table, Cond.instanceMethod yX3_table, Cond.selects RX3 yX3_table yX3_table, Cond.methodLink RL 68 yX2_wrongIn, Cond.instanceMethod yX2_wrongIn, Cond.selects RX2 yX2_wrongIn yX2_wrongIn, Cond.methodLink RL 71 yX3_wrongIn, Cond.instanceMethod yX3_wrongIn, Cond.selects RX3 yX3_wrongIn yX3_wrongIn, Cond.methodLink RL 72 yX2_rightFor, Cond.instanceMethod yX2_rightFor, Cond.selects RX2 yX2_rightFor yX2_rightFor, Cond.methodLink RL 75 yX3_rightFor, Cond.instanceMethod yX3_rightFor, Cond.selects RX3 yX3_rightFor yX3_rightFor, Cond.methodLink RL 76 yX2_safeAge, Cond.instanceMethod yX2_safeAge, Cond.selects RX2 yX2_safeAge yX2_safeAge, Cond.methodLink RL 80 yX3_safeAge, Cond.instanceMethod yX3_safeAge, Cond.selects RX3 yX3_safeAge yX3_safeAge, Cond.methodLink RL 81 yX2_worst]
def K22 : List Cond := [Cond.instanceMethod yX2_worst, Cond.selects RX2 yX2_worst yX2_worst, Cond.methodLink RL 84 yX3_worst, Cond.instanceMethod yX3_worst, Cond.selects RX3 yX3_worst yX3_worst, Cond.methodLink RL 85 yX2_mean, Cond.instanceMethod yX2_mean, Cond.selects RX2 yX2_mean yX2_mean, Cond.methodLink RL 88 yX3_mean, Cond.instanceMethod yX3_mean, Cond.selects RX3 yX3_mean yX3_mean, Cond.methodLink RL 89 yX2_share, Cond.instanceMethod yX2_share, Cond.selects RX2 yX2_share yX2_share, Cond.methodLink RL 92 yX3_share, Cond.instanceMethod yX3_share, Cond.selects RX3 yX3_share yX3_share, Cond.methodLink RL 93 yX2_count, Cond.instanceMethod yX2_count, Cond.selects RX2 yX2_count yX2_count, Cond.methodLink RL 96 yX3_count, Cond.instanceMethod yX3_count, Cond.selects RX3 yX3_count yX3_count, Cond.methodLink RL 97 yX2_undo, Cond.instanceMethod yX2_undo, Cond.selects RX2 yX2_undo yX2_undo, Cond.methodLink RL 100 yX3_undo, Cond.instanceMethod yX3_undo, Cond.selects RX3 yX3_undo yX3_undo, Cond.methodLink RL 101 yX2_type, Cond.instanceMethod yX2_type, Cond.selects RX2 yX2_type yX2_type]
def K23 : List Cond := [Cond.methodLink RL 104 yX3_type, Cond.instanceMethod yX3_type, Cond.selects RX3 yX3_type yX3_type, Cond.methodLink RL 105 yX2_clearText, Cond.instanceMethod yX2_clearText, Cond.selects RX2 yX2_clearText yX2_clearText, Cond.methodLink RL 108 yX3_clearText, Cond.instanceMethod yX3_clearText, Cond.selects RX3 yX3_clearText yX3_clearText, Cond.methodLink RL 109 yX2_fault, Cond.instanceMethod yX2_fault, Cond.selects RX2 yX2_fault yX2_fault, Cond.methodLink RL 112 yX3_fault, Cond.instanceMethod yX3_fault, Cond.selects RX3 yX3_fault yX3_fault, Cond.methodLink RL 113 yX2_play, Cond.instanceMethod yX2_play, Cond.selects RX2 yX2_play yX2_play, Cond.methodLink RL 116 yX3_play, Cond.instanceMethod yX3_play, Cond.selects RX3 yX3_play yX3_play]
def ALL : List Cond := K0 ++ (K1 ++ (K2 ++ (K3 ++ (K4 ++ (K5 ++ (K6 ++ (K7 ++ (K8 ++ (K9 ++ (K10 ++ (K11 ++ (K12 ++ (K13 ++ (K14 ++ (K15 ++ (K16 ++ (K17 ++ (K18 ++ (K19 ++ (K20 ++ (K21 ++ (K22 ++ (K23 ++ (wsX00 ++ (wsX10 ++ (wsX20 ++ wsX30))))))))))))))))))))))))))
def AT0 : List Cond := wsX00 ++ (wsX10 ++ (wsX20 ++ wsX30))
theorem kT0 : ∀ w ∈ (K0 ++ (K1 ++ (K2 ++ (K3 ++ (K4 ++ (K5 ++ (K6 ++ (K7 ++ (K8 ++ (K9 ++ (K10 ++ (K11 ++ (K12 ++ (K13 ++ (K14 ++ (K15 ++ (K16 ++ (K17 ++ (K18 ++ (K19 ++ (K20 ++ (K21 ++ (K22 ++ (K23 ++ (wsX00 ++ (wsX10 ++ (wsX20 ++ wsX30))))))))))))))))))))))))))), w ∈ ALL := fun _ h => h
theorem kC0 : ∀ w ∈ K0, w ∈ ALL := fun w h => kT0 w (List.mem_append_left _ h)
theorem kT1 : ∀ w ∈ (K1 ++ (K2 ++ (K3 ++ (K4 ++ (K5 ++ (K6 ++ (K7 ++ (K8 ++ (K9 ++ (K10 ++ (K11 ++ (K12 ++ (K13 ++ (K14 ++ (K15 ++ (K16 ++ (K17 ++ (K18 ++ (K19 ++ (K20 ++ (K21 ++ (K22 ++ (K23 ++ (wsX00 ++ (wsX10 ++ (wsX20 ++ wsX30)))))))))))))))))))))))))), w ∈ ALL := fun w h => kT0 w (List.mem_append_right _ h)
theorem kC1 : ∀ w ∈ K1, w ∈ ALL := fun w h => kT1 w (List.mem_append_left _ h)
theorem kT2 : ∀ w ∈ (K2 ++ (K3 ++ (K4 ++ (K5 ++ (K6 ++ (K7 ++ (K8 ++ (K9 ++ (K10 ++ (K11 ++ (K12 ++ (K13 ++ (K14 ++ (K15 ++ (K16 ++ (K17 ++ (K18 ++ (K19 ++ (K20 ++ (K21 ++ (K22 ++ (K23 ++ (wsX00 ++ (wsX10 ++ (wsX20 ++ wsX30))))))))))))))))))))))))), w ∈ ALL := fun w h => kT1 w (List.mem_append_right _ h)
theorem kC2 : ∀ w ∈ K2, w ∈ ALL := fun w h => kT2 w (List.mem_append_left _ h)
theorem kT3 : ∀ w ∈ (K3 ++ (K4 ++ (K5 ++ (K6 ++ (K7 ++ (K8 ++ (K9 ++ (K10 ++ (K11 ++ (K12 ++ (K13 ++ (K14 ++ (K15 ++ (K16 ++ (K17 ++ (K18 ++ (K19 ++ (K20 ++ (K21 ++ (K22 ++ (K23 ++ (wsX00 ++ (wsX10 ++ (wsX20 ++ wsX30)))))))))))))))))))))))), w ∈ ALL := fun w h => kT2 w (List.mem_append_right _ h)
theorem kC3 : ∀ w ∈ K3, w ∈ ALL := fun w h => kT3 w (List.mem_append_left _ h)
theorem kT4 : ∀ w ∈ (K4 ++ (K5 ++ (K6 ++ (K7 ++ (K8 ++ (K9 ++ (K10 ++ (K11 ++ (K12 ++ (K13 ++ (K14 ++ (K15 ++ (K16 ++ (K17 ++ (K18 ++ (K19 ++ (K20 ++ (K21 ++ (K22 ++ (K23 ++ (wsX00 ++ (wsX10 ++ (wsX20 ++ wsX30))))))))))))))))))))))), w ∈ ALL := fun w h => kT3 w (List.mem_append_right _ h)
theorem kC4 : ∀ w ∈ K4, w ∈ ALL := fun w h => kT4 w (List.mem_append_left _ h)
theorem kT5 : ∀ w ∈ (K5 ++ (K6 ++ (K7 ++ (K8 ++ (K9 ++ (K10 ++ (K11 ++ (K12 ++ (K13 ++ (K14 ++ (K15 ++ (K16 ++ (K17 ++ (K18 ++ (K19 ++ (K20 ++ (K21 ++ (K22 ++ (K23 ++ (wsX00 ++ (wsX10 ++ (wsX20 ++ wsX30)))))))))))))))))))))), w ∈ ALL := fun w h => kT4 w (List.mem_append_right _ h)
theorem kC5 : ∀ w ∈ K5, w ∈ ALL := fun w h => kT5 w (List.mem_append_left _ h)
theorem kT6 : ∀ w ∈ (K6 ++ (K7 ++ (K8 ++ (K9 ++ (K10 ++ (K11 ++ (K12 ++ (K13 ++ (K14 ++ (K15 ++ (K16 ++ (K17 ++ (K18 ++ (K19 ++ (K20 ++ (K21 ++ (K22 ++ (K23 ++ (wsX00 ++ (wsX10 ++ (wsX20 ++ wsX30))))))))))))))))))))), w ∈ ALL := fun w h => kT5 w (List.mem_append_right _ h)
theorem kC6 : ∀ w ∈ K6, w ∈ ALL := fun w h => kT6 w (List.mem_append_left _ h)
theorem kT7 : ∀ w ∈ (K7 ++ (K8 ++ (K9 ++ (K10 ++ (K11 ++ (K12 ++ (K13 ++ (K14 ++ (K15 ++ (K16 ++ (K17 ++ (K18 ++ (K19 ++ (K20 ++ (K21 ++ (K22 ++ (K23 ++ (wsX00 ++ (wsX10 ++ (wsX20 ++ wsX30)))))))))))))))))))), w ∈ ALL := fun w h => kT6 w (List.mem_append_right _ h)
theorem kC7 : ∀ w ∈ K7, w ∈ ALL := fun w h => kT7 w (List.mem_append_left _ h)
theorem kT8 : ∀ w ∈ (K8 ++ (K9 ++ (K10 ++ (K11 ++ (K12 ++ (K13 ++ (K14 ++ (K15 ++ (K16 ++ (K17 ++ (K18 ++ (K19 ++ (K20 ++ (K21 ++ (K22 ++ (K23 ++ (wsX00 ++ (wsX10 ++ (wsX20 ++ wsX30))))))))))))))))))), w ∈ ALL := fun w h => kT7 w (List.mem_append_right _ h)
theorem kC8 : ∀ w ∈ K8, w ∈ ALL := fun w h => kT8 w (List.mem_append_left _ h)
theorem kT9 : ∀ w ∈ (K9 ++ (K10 ++ (K11 ++ (K12 ++ (K13 ++ (K14 ++ (K15 ++ (K16 ++ (K17 ++ (K18 ++ (K19 ++ (K20 ++ (K21 ++ (K22 ++ (K23 ++ (wsX00 ++ (wsX10 ++ (wsX20 ++ wsX30)))))))))))))))))), w ∈ ALL := fun w h => kT8 w (List.mem_append_right _ h)
theorem kC9 : ∀ w ∈ K9, w ∈ ALL := fun w h => kT9 w (List.mem_append_left _ h)
theorem kT10 : ∀ w ∈ (K10 ++ (K11 ++ (K12 ++ (K13 ++ (K14 ++ (K15 ++ (K16 ++ (K17 ++ (K18 ++ (K19 ++ (K20 ++ (K21 ++ (K22 ++ (K23 ++ (wsX00 ++ (wsX10 ++ (wsX20 ++ wsX30))))))))))))))))), w ∈ ALL := fun w h => kT9 w (List.mem_append_right _ h)
theorem kC10 : ∀ w ∈ K10, w ∈ ALL := fun w h => kT10 w (List.mem_append_left _ h)
theorem kT11 : ∀ w ∈ (K11 ++ (K12 ++ (K13 ++ (K14 ++ (K15 ++ (K16 ++ (K17 ++ (K18 ++ (K19 ++ (K20 ++ (K21 ++ (K22 ++ (K23 ++ (wsX00 ++ (wsX10 ++ (wsX20 ++ wsX30)))))))))))))))), w ∈ ALL := fun w h => kT10 w (List.mem_append_right _ h)
theorem kC11 : ∀ w ∈ K11, w ∈ ALL := fun w h => kT11 w (List.mem_append_left _ h)
theorem kT12 : ∀ w ∈ (K12 ++ (K13 ++ (K14 ++ (K15 ++ (K16 ++ (K17 ++ (K18 ++ (K19 ++ (K20 ++ (K21 ++ (K22 ++ (K23 ++ (wsX00 ++ (wsX10 ++ (wsX20 ++ wsX30))))))))))))))), w ∈ ALL := fun w h => kT11 w (List.mem_append_right _ h)
theorem kC12 : ∀ w ∈ K12, w ∈ ALL := fun w h => kT12 w (List.mem_append_left _ h)
theorem kT13 : ∀ w ∈ (K13 ++ (K14 ++ (K15 ++ (K16 ++ (K17 ++ (K18 ++ (K19 ++ (K20 ++ (K21 ++ (K22 ++ (K23 ++ (wsX00 ++ (wsX10 ++ (wsX20 ++ wsX30)))))))))))))), w ∈ ALL := fun w h => kT12 w (List.mem_append_right _ h)
theorem kC13 : ∀ w ∈ K13, w ∈ ALL := fun w h => kT13 w (List.mem_append_left _ h)
theorem kT14 : ∀ w ∈ (K14 ++ (K15 ++ (K16 ++ (K17 ++ (K18 ++ (K19 ++ (K20 ++ (K21 ++ (K22 ++ (K23 ++ (wsX00 ++ (wsX10 ++ (wsX20 ++ wsX30))))))))))))), w ∈ ALL := fun w h => kT13 w (List.mem_append_right _ h)
theorem kC14 : ∀ w ∈ K14, w ∈ ALL := fun w h => kT14 w (List.mem_append_left _ h)
theorem kT15 : ∀ w ∈ (K15 ++ (K16 ++ (K17 ++ (K18 ++ (K19 ++ (K20 ++ (K21 ++ (K22 ++ (K23 ++ (wsX00 ++ (wsX10 ++ (wsX20 ++ wsX30)))))))))))), w ∈ ALL := fun w h => kT14 w (List.mem_append_right _ h)
theorem kC15 : ∀ w ∈ K15, w ∈ ALL := fun w h => kT15 w (List.mem_append_left _ h)
theorem kT16 : ∀ w ∈ (K16 ++ (K17 ++ (K18 ++ (K19 ++ (K20 ++ (K21 ++ (K22 ++ (K23 ++ (wsX00 ++ (wsX10 ++ (wsX20 ++ wsX30))))))))))), w ∈ ALL := fun w h => kT15 w (List.mem_append_right _ h)
theorem kC16 : ∀ w ∈ K16, w ∈ ALL := fun w h => kT16 w (List.mem_append_left _ h)
theorem kT17 : ∀ w ∈ (K17 ++ (K18 ++ (K19 ++ (K20 ++ (K21 ++ (K22 ++ (K23 ++ (wsX00 ++ (wsX10 ++ (wsX20 ++ wsX30)))))))))), w ∈ ALL := fun w h => kT16 w (List.mem_append_right _ h)
theorem kC17 : ∀ w ∈ K17, w ∈ ALL := fun w h => kT17 w (List.mem_append_left _ h)
theorem kT18 : ∀ w ∈ (K18 ++ (K19 ++ (K20 ++ (K21 ++ (K22 ++ (K23 ++ (wsX00 ++ (wsX10 ++ (wsX20 ++ wsX30))))))))), w ∈ ALL := fun w h => kT17 w (List.mem_append_right _ h)
theorem kC18 : ∀ w ∈ K18, w ∈ ALL := fun w h => kT18 w (List.mem_append_left _ h)
theorem kT19 : ∀ w ∈ (K19 ++ (K20 ++ (K21 ++ (K22 ++ (K23 ++ (wsX00 ++ (wsX10 ++ (wsX20 ++ wsX30)))))))), w ∈ ALL := fun w h => kT18 w (List.mem_append_right _ h)
theorem kC19 : ∀ w ∈ K19, w ∈ ALL := fun w h => kT19 w (List.mem_append_left _ h)
theorem kT20 : ∀ w ∈ (K20 ++ (K21 ++ (K22 ++ (K23 ++ (wsX00 ++ (wsX10 ++ (wsX20 ++ wsX30))))))), w ∈ ALL := fun w h => kT19 w (List.mem_append_right _ h)
theorem kC20 : ∀ w ∈ K20, w ∈ ALL := fun w h => kT20 w (List.mem_append_left _ h)
theorem kT21 : ∀ w ∈ (K21 ++ (K22 ++ (K23 ++ (wsX00 ++ (wsX10 ++ (wsX20 ++ wsX30)))))), w ∈ ALL := fun w h => kT20 w (List.mem_append_right _ h)
theorem kC21 : ∀ w ∈ K21, w ∈ ALL := fun w h => kT21 w (List.mem_append_left _ h)
theorem kT22 : ∀ w ∈ (K22 ++ (K23 ++ (wsX00 ++ (wsX10 ++ (wsX20 ++ wsX30))))), w ∈ ALL := fun w h => kT21 w (List.mem_append_right _ h)
theorem kC22 : ∀ w ∈ K22, w ∈ ALL := fun w h => kT22 w (List.mem_append_left _ h)
theorem kT23 : ∀ w ∈ (K23 ++ (wsX00 ++ (wsX10 ++ (wsX20 ++ wsX30)))), w ∈ ALL := fun w h => kT22 w (List.mem_append_right _ h)
theorem kC23 : ∀ w ∈ K23, w ∈ ALL := fun w h => kT23 w (List.mem_append_left _ h)
theorem kTX : ∀ w ∈ (wsX00 ++ (wsX10 ++ (wsX20 ++ wsX30))), w ∈ ALL := fun w h => kT23 w (List.mem_append_right _ h)
theorem inA0 : ∀ w ∈ wsX00, w ∈ ALL := fun w h => kTX w (List.mem_append_left _ h)
theorem inA1 : ∀ w ∈ wsX10, w ∈ ALL := fun w h => kTX w (List.mem_append_right _ (List.mem_append_left _ h))
theorem inA2 : ∀ w ∈ wsX20, w ∈ ALL := fun w h => kTX w (List.mem_append_right _ (List.mem_append_right _ (List.mem_append_left _ h)))
theorem inA3 : ∀ w ∈ wsX30, w ∈ ALL := fun w h => kTX w (List.mem_append_right _ (List.mem_append_right _ (List.mem_append_right _ h)))
theorem gK0 : K0.all goodWord = true := by decide +kernel
theorem gK1 : K1.all goodWord = true := by decide +kernel
theorem gK2 : K2.all goodWord = true := by decide +kernel
theorem gK3 : K3.all goodWord = true := by decide +kernel
theorem gK4 : K4.all goodWord = true := by decide +kernel
theorem gK5 : K5.all goodWord = true := by decide +kernel
theorem gK6 : K6.all goodWord = true := by decide +kernel
theorem gK7 : K7.all goodWord = true := by decide +kernel
theorem gK8 : K8.all goodWord = true := by decide +kernel
theorem gK9 : K9.all goodWord = true := by decide +kernel
theorem gK10 : K10.all goodWord = true := by decide +kernel
theorem gK11 : K11.all goodWord = true := by decide +kernel
theorem gK12 : K12.all goodWord = true := by decide +kernel
theorem gK13 : K13.all goodWord = true := by decide +kernel
theorem gK14 : K14.all goodWord = true := by decide +kernel
theorem gK15 : K15.all goodWord = true := by decide +kernel
theorem gK16 : K16.all goodWord = true := by decide +kernel
theorem gK17 : K17.all goodWord = true := by decide +kernel
theorem gK18 : K18.all goodWord = true := by decide +kernel
theorem gK19 : K19.all goodWord = true := by decide +kernel
theorem gK20 : K20.all goodWord = true := by decide +kernel
theorem gK21 : K21.all goodWord = true := by decide +kernel
theorem gK22 : K22.all goodWord = true := by decide +kernel
theorem gK23 : K23.all goodWord = true := by decide +kernel
theorem gX0 : wsX00.all goodWord = true := by decide +kernel
theorem gX1 : wsX10.all goodWord = true := by decide +kernel
theorem gX2 : wsX20.all goodWord = true := by decide +kernel
theorem gX3 : wsX30.all goodWord = true := by decide +kernel
theorem gd_app {a b : List Cond} (h1 : a.all goodWord = true) (h2 : b.all goodWord = true) : (a ++ b).all goodWord = true := by rw [List.all_append, h1, h2]; rfl
theorem gALL : ALL.all goodWord = true := gd_app gK0 (gd_app gK1 (gd_app gK2 (gd_app gK3 (gd_app gK4 (gd_app gK5 (gd_app gK6 (gd_app gK7 (gd_app gK8 (gd_app gK9 (gd_app gK10 (gd_app gK11 (gd_app gK12 (gd_app gK13 (gd_app gK14 (gd_app gK15 (gd_app gK16 (gd_app gK17 (gd_app gK18 (gd_app gK19 (gd_app gK20 (gd_app gK21 (gd_app gK22 (gd_app gK23 (gd_app gX0 (gd_app gX1 (gd_app gX2 gX3))))))))))))))))))))))))))
theorem q_0 : Cond.code yX0_aim cX0_aim 1 (some .int) ∈ ALL := kC0 _ (List.mem_of_getElem? (i := 0) rfl)
theorem q_1 : Cond.fieldLink RX0 18 "DriftingLevels$Grid" "timesWritten" "[I" ∈ ALL := kC0 _ (List.mem_of_getElem? (i := 1) rfl)
theorem q_2 : Cond.fieldLink RX0 9 "DriftingLevels$Grid" "level" "[I" ∈ ALL := kC0 _ (List.mem_of_getElem? (i := 2) rfl)
theorem q_3 : Cond.fieldLink RX0 15 "DriftingLevels$Grid" "value" "[I" ∈ ALL := kC0 _ (List.mem_of_getElem? (i := 3) rfl)
theorem q_4 : Cond.fieldLink RX0 21 "DriftingLevels$Grid" "dayWritten" "[I" ∈ ALL := kC0 _ (List.mem_of_getElem? (i := 4) rfl)
theorem q_5 : Cond.fieldLink RX0 62 "DriftingLevels$Grid" "today" "I" ∈ ALL := kC0 _ (List.mem_of_getElem? (i := 5) rfl)
theorem q_6 : Cond.methodLink RX0 154 yX0_aim ∈ ALL := kC0 _ (List.mem_of_getElem? (i := 6) rfl)
theorem q_7 : Cond.static yX0_aim ∈ ALL := kC0 _ (List.mem_of_getElem? (i := 7) rfl)
theorem q_8 : Cond.initialized RX0 ∈ ALL := kC0 _ (List.mem_of_getElem? (i := 8) rfl)
theorem q_9 : Cond.code yX0_put cX0_put 4 none ∈ ALL := kC0 _ (List.mem_of_getElem? (i := 9) rfl)
theorem q_10 : Cond.fieldLink RX0 27 "DriftingLevels$Grid" "guardFailed" "[I" ∈ ALL := kC0 _ (List.mem_of_getElem? (i := 10) rfl)
theorem q_11 : Cond.fieldLink RX0 24 "DriftingLevels$Grid" "guardValue" "[I" ∈ ALL := kC0 _ (List.mem_of_getElem? (i := 11) rfl)
theorem q_12 : Cond.fieldLink RX0 33 "DriftingLevels$Grid" "dayOfGuards" "[I" ∈ ALL := kC0 _ (List.mem_of_getElem? (i := 12) rfl)
theorem q_13 : Cond.code yX0_writeGuards cX0_writeGuards 4 none ∈ ALL := kC0 _ (List.mem_of_getElem? (i := 13) rfl)
theorem q_14 : Cond.methodLink RX0 3 objectInit ∈ ALL := kC0 _ (List.mem_of_getElem? (i := 14) rfl)
theorem q_15 : Cond.instanceMethod objectInit ∈ ALL := kC0 _ (List.mem_of_getElem? (i := 15) rfl)
theorem q_16 : Cond.code objectInit ⟨#[0xb1]⟩ 1 none ∈ ALL := kC0 _ (List.mem_of_getElem? (i := 16) rfl)
theorem q_17 : Cond.arrayClass .int ∈ ALL := kC0 _ (List.mem_of_getElem? (i := 17) rfl)
theorem q_18 : Cond.fieldLink RX0 30 "DriftingLevels$Grid" "rateOfRow" "[I" ∈ ALL := kC0 _ (List.mem_of_getElem? (i := 18) rfl)
theorem q_19 : Cond.fieldLink RX0 36 "DriftingLevels$Grid" "levelsLost" "[I" ∈ ALL := kC0 _ (List.mem_of_getElem? (i := 19) rfl)
theorem q_20 : Cond.fieldLink RX0 39 "DriftingLevels$Grid" "timesAnew" "[I" ∈ ALL := kC0 _ (List.mem_of_getElem? (i := 20) rfl)
theorem q_21 : Cond.fieldLink RX0 42 "DriftingLevels$Grid" "toldAs" "[I" ∈ ALL := kC0 _ (List.mem_of_getElem? (i := 21) rfl)
theorem q_22 : Cond.fieldLink RX0 45 "DriftingLevels$Grid" "setting" "[I" ∈ ALL := kC0 _ (List.mem_of_getElem? (i := 22) rfl)
theorem q_23 : Cond.methodLink RX0 48 yX0_put ∈ ALL := kC0 _ (List.mem_of_getElem? (i := 23) rfl)
theorem q_24 : Cond.instanceMethod yX0_put ∈ ALL := kC0 _ (List.mem_of_getElem? (i := 24) rfl)
theorem q_25 : Cond.selects RX0 yX0_put yX0_put ∈ ALL := kC0 _ (List.mem_of_getElem? (i := 25) rfl)
theorem q_26 : Cond.methodLink RX0 52 yX0_writeGuards ∈ ALL := kC0 _ (List.mem_of_getElem? (i := 26) rfl)
theorem q_27 : Cond.instanceMethod yX0_writeGuards ∈ ALL := kC0 _ (List.mem_of_getElem? (i := 27) rfl)
theorem q_28 : Cond.selects RX0 yX0_writeGuards yX0_writeGuards ∈ ALL := kC0 _ (List.mem_of_getElem? (i := 28) rfl)
theorem q_29 : Cond.code yX0_init cX0_init 2 none ∈ ALL := kC0 _ (List.mem_of_getElem? (i := 29) rfl)
theorem q_30 : Cond.methodLink RX0 56 arraycopyName ∈ ALL := kC0 _ (List.mem_of_getElem? (i := 30) rfl)
theorem q_31 : Cond.native arraycopyName ∈ ALL := kC0 _ (List.mem_of_getElem? (i := 31) rfl)
theorem q_32 : Cond.static arraycopyName ∈ ALL := kC1 _ (List.mem_of_getElem? (i := 0) rfl)
theorem q_33 : Cond.initialized "java/lang/System" ∈ ALL := kC1 _ (List.mem_of_getElem? (i := 1) rfl)
theorem q_34 : Cond.code yX0_copyFrom cX0_copyFrom 2 none ∈ ALL := kC1 _ (List.mem_of_getElem? (i := 2) rfl)
theorem q_35 : Cond.code yX2_isOutside cX2_isOutside 3 (some .boolean) ∈ ALL := kC1 _ (List.mem_of_getElem? (i := 3) rfl)
theorem q_36 : Cond.static yX2_isOutside ∈ ALL := kC1 _ (List.mem_of_getElem? (i := 4) rfl)
theorem q_37 : Cond.initialized RX2 ∈ ALL := kC1 _ (List.mem_of_getElem? (i := 5) rfl)
theorem q_38 : Cond.code yX0_isOutsideCell cX0_isOutsideCell 2 (some .boolean) ∈ ALL := kC1 _ (List.mem_of_getElem? (i := 6) rfl)
theorem q_39 : Cond.constant RX0 74 (-1000001) ∈ ALL := kC1 _ (List.mem_of_getElem? (i := 7) rfl)
theorem q_40 : Cond.methodLink RX0 66 yX0_isOutsideCell ∈ ALL := kC1 _ (List.mem_of_getElem? (i := 8) rfl)
theorem q_41 : Cond.static yX0_isOutsideCell ∈ ALL := kC1 _ (List.mem_of_getElem? (i := 9) rfl)
theorem q_42 : Cond.code yX0_writeLevel cX0_writeLevel 5 (some .int) ∈ ALL := kC1 _ (List.mem_of_getElem? (i := 10) rfl)
theorem q_43 : Cond.code yX0_hasRightThresholds cX0_hasRightThresholds 3 (some .boolean) ∈ ALL := kC1 _ (List.mem_of_getElem? (i := 11) rfl)
theorem q_44 : Cond.code yX0_ownThreshold cX0_ownThreshold 4 (some .int) ∈ ALL := kC1 _ (List.mem_of_getElem? (i := 12) rfl)
theorem q_45 : Cond.methodLink RX0 115 yX0_hasRightThresholds ∈ ALL := kC1 _ (List.mem_of_getElem? (i := 13) rfl)
theorem q_46 : Cond.instanceMethod yX0_hasRightThresholds ∈ ALL := kC1 _ (List.mem_of_getElem? (i := 14) rfl)
theorem q_47 : Cond.selects RX0 yX0_hasRightThresholds yX0_hasRightThresholds ∈ ALL := kC1 _ (List.mem_of_getElem? (i := 15) rfl)
theorem q_48 : Cond.methodLink RX0 104 yX0_ownThreshold ∈ ALL := kC1 _ (List.mem_of_getElem? (i := 16) rfl)
theorem q_49 : Cond.instanceMethod yX0_ownThreshold ∈ ALL := kC1 _ (List.mem_of_getElem? (i := 17) rfl)
theorem q_50 : Cond.selects RX0 yX0_ownThreshold yX0_ownThreshold ∈ ALL := kC1 _ (List.mem_of_getElem? (i := 18) rfl)
theorem q_51 : Cond.code yX0_threshold cX0_threshold 5 (some .int) ∈ ALL := kC1 _ (List.mem_of_getElem? (i := 19) rfl)
theorem q_52 : Cond.code yX0_tell cX0_tell 3 (some .int) ∈ ALL := kC1 _ (List.mem_of_getElem? (i := 20) rfl)
theorem q_53 : Cond.methodLink RX0 79 yX0_threshold ∈ ALL := kC1 _ (List.mem_of_getElem? (i := 21) rfl)
theorem q_54 : Cond.instanceMethod yX0_threshold ∈ ALL := kC1 _ (List.mem_of_getElem? (i := 22) rfl)
theorem q_55 : Cond.selects RX0 yX0_threshold yX0_threshold ∈ ALL := kC1 _ (List.mem_of_getElem? (i := 23) rfl)
theorem q_56 : Cond.methodLink RX0 83 yX0_tell ∈ ALL := kC1 _ (List.mem_of_getElem? (i := 24) rfl)
theorem q_57 : Cond.static yX0_tell ∈ ALL := kC1 _ (List.mem_of_getElem? (i := 25) rfl)
theorem q_58 : Cond.code yX0_toldWord cX0_toldWord 6 (some .int) ∈ ALL := kC1 _ (List.mem_of_getElem? (i := 26) rfl)
theorem q_59 : Cond.methodLink RX0 75 yX0_toldWord ∈ ALL := kC1 _ (List.mem_of_getElem? (i := 27) rfl)
theorem q_60 : Cond.instanceMethod yX0_toldWord ∈ ALL := kC1 _ (List.mem_of_getElem? (i := 28) rfl)
theorem q_61 : Cond.selects RX0 yX0_toldWord yX0_toldWord ∈ ALL := kC1 _ (List.mem_of_getElem? (i := 29) rfl)
theorem q_62 : Cond.code yX0_writeWord cX0_writeWord 6 (some .int) ∈ ALL := kC1 _ (List.mem_of_getElem? (i := 30) rfl)
theorem q_63 : Cond.code yX0_writeAnew cX0_writeAnew 8 (some .int) ∈ ALL := kC1 _ (List.mem_of_getElem? (i := 31) rfl)
theorem q_64 : Cond.code yX0_askCell cX0_askCell 5 (some .int) ∈ ALL := kC2 _ (List.mem_of_getElem? (i := 0) rfl)
theorem q_65 : Cond.code yX0_isOutsideGuard cX0_isOutsideGuard 2 (some .boolean) ∈ ALL := kC2 _ (List.mem_of_getElem? (i := 1) rfl)
theorem q_66 : Cond.constant RX0 90 (-1000002) ∈ ALL := kC2 _ (List.mem_of_getElem? (i := 2) rfl)
theorem q_67 : Cond.methodLink RX0 87 yX0_isOutsideGuard ∈ ALL := kC2 _ (List.mem_of_getElem? (i := 3) rfl)
theorem q_68 : Cond.static yX0_isOutsideGuard ∈ ALL := kC2 _ (List.mem_of_getElem? (i := 4) rfl)
theorem q_69 : Cond.code yX0_failGuard cX0_failGuard 6 (some .int) ∈ ALL := kC2 _ (List.mem_of_getElem? (i := 5) rfl)
theorem q_70 : Cond.code yX0_mendGuard cX0_mendGuard 4 (some .int) ∈ ALL := kC2 _ (List.mem_of_getElem? (i := 6) rfl)
theorem q_71 : Cond.code yX0_changeRate cX0_changeRate 4 (some .int) ∈ ALL := kC2 _ (List.mem_of_getElem? (i := 7) rfl)
theorem q_72 : Cond.methodLink RX0 160 Lib.Math.max.name ∈ ALL := kC2 _ (List.mem_of_getElem? (i := 8) rfl)
theorem q_73 : Cond.static Lib.Math.max.name ∈ ALL := kC2 _ (List.mem_of_getElem? (i := 9) rfl)
theorem q_74 : Cond.initialized "java/lang/Math" ∈ ALL := kC2 _ (List.mem_of_getElem? (i := 10) rfl)
theorem q_75 : Cond.code Lib.Math.max.name Lib.Math.max.code 2 (some .int) ∈ ALL := kC2 _ (List.mem_of_getElem? (i := 11) rfl)
theorem q_76 : Cond.code yX0_nearer cX0_nearer 4 (some .int) ∈ ALL := kC2 _ (List.mem_of_getElem? (i := 12) rfl)
theorem q_77 : Cond.methodLink RX0 157 yX0_nearer ∈ ALL := kC2 _ (List.mem_of_getElem? (i := 13) rfl)
theorem q_78 : Cond.instanceMethod yX0_nearer ∈ ALL := kC2 _ (List.mem_of_getElem? (i := 14) rfl)
theorem q_79 : Cond.selects RX0 yX0_nearer yX0_nearer ∈ ALL := kC2 _ (List.mem_of_getElem? (i := 15) rfl)
theorem q_80 : Cond.code yX0_drift cX0_drift 2 none ∈ ALL := kC2 _ (List.mem_of_getElem? (i := 16) rfl)
theorem q_81 : Cond.code yX0_age cX0_age 2 (some .int) ∈ ALL := kC2 _ (List.mem_of_getElem? (i := 17) rfl)
theorem q_82 : Cond.constant RX0 91 (-1000003) ∈ ALL := kC2 _ (List.mem_of_getElem? (i := 18) rfl)
theorem q_83 : Cond.methodLink RX0 92 yX0_drift ∈ ALL := kC2 _ (List.mem_of_getElem? (i := 19) rfl)
theorem q_84 : Cond.instanceMethod yX0_drift ∈ ALL := kC2 _ (List.mem_of_getElem? (i := 20) rfl)
theorem q_85 : Cond.selects RX0 yX0_drift yX0_drift ∈ ALL := kC2 _ (List.mem_of_getElem? (i := 21) rfl)
theorem q_86 : Cond.methodLink RX0 95 yX0_age ∈ ALL := kC2 _ (List.mem_of_getElem? (i := 22) rfl)
theorem q_87 : Cond.instanceMethod yX0_age ∈ ALL := kC2 _ (List.mem_of_getElem? (i := 23) rfl)
theorem q_88 : Cond.selects RX0 yX0_age yX0_age ∈ ALL := kC2 _ (List.mem_of_getElem? (i := 24) rfl)
theorem q_89 : Cond.methodLink RX0 98 yX0_writeAnew ∈ ALL := kC2 _ (List.mem_of_getElem? (i := 25) rfl)
theorem q_90 : Cond.instanceMethod yX0_writeAnew ∈ ALL := kC2 _ (List.mem_of_getElem? (i := 26) rfl)
theorem q_91 : Cond.selects RX0 yX0_writeAnew yX0_writeAnew ∈ ALL := kC2 _ (List.mem_of_getElem? (i := 27) rfl)
theorem q_92 : Cond.code yX0_passDays cX0_passDays 6 (some .int) ∈ ALL := kC2 _ (List.mem_of_getElem? (i := 28) rfl)
theorem q_93 : Cond.code yX0_isOutsideSetting cX0_isOutsideSetting 2 (some .boolean) ∈ ALL := kC2 _ (List.mem_of_getElem? (i := 29) rfl)
theorem q_94 : Cond.methodLink RX0 101 yX0_isOutsideSetting ∈ ALL := kC2 _ (List.mem_of_getElem? (i := 30) rfl)
theorem q_95 : Cond.static yX0_isOutsideSetting ∈ ALL := kC2 _ (List.mem_of_getElem? (i := 31) rfl)
theorem q_96 : Cond.code yX0_changeSetting cX0_changeSetting 4 (some .int) ∈ ALL := kC3 _ (List.mem_of_getElem? (i := 0) rfl)
theorem q_97 : Cond.methodLink RX0 107 Lib.Math.abs.name ∈ ALL := kC3 _ (List.mem_of_getElem? (i := 1) rfl)
theorem q_98 : Cond.static Lib.Math.abs.name ∈ ALL := kC3 _ (List.mem_of_getElem? (i := 2) rfl)
theorem q_99 : Cond.code Lib.Math.abs.name Lib.Math.abs.code 1 (some .int) ∈ ALL := kC3 _ (List.mem_of_getElem? (i := 3) rfl)
theorem q_100 : Cond.methodLink RX0 112 Lib.Math.min.name ∈ ALL := kC3 _ (List.mem_of_getElem? (i := 4) rfl)
theorem q_101 : Cond.static Lib.Math.min.name ∈ ALL := kC3 _ (List.mem_of_getElem? (i := 5) rfl)
theorem q_102 : Cond.code Lib.Math.min.name Lib.Math.min.code 2 (some .int) ∈ ALL := kC3 _ (List.mem_of_getElem? (i := 6) rfl)
theorem q_103 : Cond.code yX0_numberOfCell cX0_numberOfCell 7 (some .int) ∈ ALL := kC3 _ (List.mem_of_getElem? (i := 7) rfl)
theorem q_104 : Cond.code yX0_numberOfGuard cX0_numberOfGuard 5 (some .int) ∈ ALL := kC3 _ (List.mem_of_getElem? (i := 8) rfl)
theorem q_105 : Cond.code yX0_source cX0_source 2 (some .int) ∈ ALL := kC3 _ (List.mem_of_getElem? (i := 9) rfl)
theorem q_106 : Cond.code yX0_wrongBy cX0_wrongBy 7 (some .int) ∈ ALL := kC3 _ (List.mem_of_getElem? (i := 10) rfl)
theorem q_107 : Cond.methodLink RX0 125 yX0_wrongBy ∈ ALL := kC3 _ (List.mem_of_getElem? (i := 11) rfl)
theorem q_108 : Cond.instanceMethod yX0_wrongBy ∈ ALL := kC3 _ (List.mem_of_getElem? (i := 12) rfl)
theorem q_109 : Cond.selects RX0 yX0_wrongBy yX0_wrongBy ∈ ALL := kC3 _ (List.mem_of_getElem? (i := 13) rfl)
theorem q_110 : Cond.code yX0_wrongCells cX0_wrongCells 2 (some .int) ∈ ALL := kC3 _ (List.mem_of_getElem? (i := 14) rfl)
theorem q_111 : Cond.code yX0_levelWord cX0_levelWord 4 (some .int) ∈ ALL := kC3 _ (List.mem_of_getElem? (i := 15) rfl)
theorem q_112 : Cond.methodLink RX0 119 yX0_source ∈ ALL := kC3 _ (List.mem_of_getElem? (i := 16) rfl)
theorem q_113 : Cond.instanceMethod yX0_source ∈ ALL := kC3 _ (List.mem_of_getElem? (i := 17) rfl)
theorem q_114 : Cond.selects RX0 yX0_source yX0_source ∈ ALL := kC3 _ (List.mem_of_getElem? (i := 18) rfl)
theorem q_115 : Cond.methodLink RX0 122 yX0_wrongCells ∈ ALL := kC3 _ (List.mem_of_getElem? (i := 19) rfl)
theorem q_116 : Cond.instanceMethod yX0_wrongCells ∈ ALL := kC3 _ (List.mem_of_getElem? (i := 20) rfl)
theorem q_117 : Cond.selects RX0 yX0_wrongCells yX0_wrongCells ∈ ALL := kC3 _ (List.mem_of_getElem? (i := 21) rfl)
theorem q_118 : Cond.methodLink RX0 128 yX0_levelWord ∈ ALL := kC3 _ (List.mem_of_getElem? (i := 22) rfl)
theorem q_119 : Cond.instanceMethod yX0_levelWord ∈ ALL := kC3 _ (List.mem_of_getElem? (i := 23) rfl)
theorem q_120 : Cond.selects RX0 yX0_levelWord yX0_levelWord ∈ ALL := kC3 _ (List.mem_of_getElem? (i := 24) rfl)
theorem q_121 : Cond.code yX0_numberOfRow cX0_numberOfRow 3 (some .int) ∈ ALL := kC3 _ (List.mem_of_getElem? (i := 25) rfl)
theorem q_122 : Cond.code yX0_timesTold cX0_timesTold 3 (some .int) ∈ ALL := kC3 _ (List.mem_of_getElem? (i := 26) rfl)
theorem q_123 : Cond.code yX0_allWrongCells cX0_allWrongCells 3 (some .int) ∈ ALL := kC3 _ (List.mem_of_getElem? (i := 27) rfl)
theorem q_124 : Cond.code yX0_rowsWithWrongCells cX0_rowsWithWrongCells 3 (some .int) ∈ ALL := kC3 _ (List.mem_of_getElem? (i := 28) rfl)
theorem q_125 : Cond.code yX0_rowsToldBy cX0_rowsToldBy 4 (some .int) ∈ ALL := kC3 _ (List.mem_of_getElem? (i := 29) rfl)
theorem q_126 : Cond.code yX0_sum cX0_sum 3 (some .int) ∈ ALL := kC3 _ (List.mem_of_getElem? (i := 30) rfl)
theorem q_127 : Cond.methodLink RX0 141 yX0_sum ∈ ALL := kC3 _ (List.mem_of_getElem? (i := 31) rfl)
theorem q_128 : Cond.static yX0_sum ∈ ALL := kC4 _ (List.mem_of_getElem? (i := 0) rfl)
theorem q_129 : Cond.code yX0_timesAsked cX0_timesAsked 1 (some .int) ∈ ALL := kC4 _ (List.mem_of_getElem? (i := 1) rfl)
theorem q_130 : Cond.code yX0_pairsTold cX0_pairsTold 3 (some .int) ∈ ALL := kC4 _ (List.mem_of_getElem? (i := 2) rfl)
theorem q_131 : Cond.code yX0_cellsOfLevel cX0_cellsOfLevel 4 (some .int) ∈ ALL := kC4 _ (List.mem_of_getElem? (i := 3) rfl)
theorem q_132 : Cond.methodLink RX0 131 yX0_allWrongCells ∈ ALL := kC4 _ (List.mem_of_getElem? (i := 4) rfl)
theorem q_133 : Cond.instanceMethod yX0_allWrongCells ∈ ALL := kC4 _ (List.mem_of_getElem? (i := 5) rfl)
theorem q_134 : Cond.selects RX0 yX0_allWrongCells yX0_allWrongCells ∈ ALL := kC4 _ (List.mem_of_getElem? (i := 6) rfl)
theorem q_135 : Cond.methodLink RX0 135 yX0_rowsWithWrongCells ∈ ALL := kC4 _ (List.mem_of_getElem? (i := 7) rfl)
theorem q_136 : Cond.instanceMethod yX0_rowsWithWrongCells ∈ ALL := kC4 _ (List.mem_of_getElem? (i := 8) rfl)
theorem q_137 : Cond.selects RX0 yX0_rowsWithWrongCells yX0_rowsWithWrongCells ∈ ALL := kC4 _ (List.mem_of_getElem? (i := 9) rfl)
theorem q_138 : Cond.methodLink RX0 138 yX0_rowsToldBy ∈ ALL := kC4 _ (List.mem_of_getElem? (i := 10) rfl)
theorem q_139 : Cond.instanceMethod yX0_rowsToldBy ∈ ALL := kC4 _ (List.mem_of_getElem? (i := 11) rfl)
theorem q_140 : Cond.selects RX0 yX0_rowsToldBy yX0_rowsToldBy ∈ ALL := kC4 _ (List.mem_of_getElem? (i := 12) rfl)
theorem q_141 : Cond.methodLink RX0 145 yX0_timesAsked ∈ ALL := kC4 _ (List.mem_of_getElem? (i := 13) rfl)
theorem q_142 : Cond.instanceMethod yX0_timesAsked ∈ ALL := kC4 _ (List.mem_of_getElem? (i := 14) rfl)
theorem q_143 : Cond.selects RX0 yX0_timesAsked yX0_timesAsked ∈ ALL := kC4 _ (List.mem_of_getElem? (i := 15) rfl)
theorem q_144 : Cond.methodLink RX0 148 yX0_pairsTold ∈ ALL := kC4 _ (List.mem_of_getElem? (i := 16) rfl)
theorem q_145 : Cond.instanceMethod yX0_pairsTold ∈ ALL := kC4 _ (List.mem_of_getElem? (i := 17) rfl)
theorem q_146 : Cond.selects RX0 yX0_pairsTold yX0_pairsTold ∈ ALL := kC4 _ (List.mem_of_getElem? (i := 18) rfl)
theorem q_147 : Cond.methodLink RX0 151 yX0_cellsOfLevel ∈ ALL := kC4 _ (List.mem_of_getElem? (i := 19) rfl)
theorem q_148 : Cond.instanceMethod yX0_cellsOfLevel ∈ ALL := kC4 _ (List.mem_of_getElem? (i := 20) rfl)
theorem q_149 : Cond.selects RX0 yX0_cellsOfLevel yX0_cellsOfLevel ∈ ALL := kC4 _ (List.mem_of_getElem? (i := 21) rfl)
theorem q_150 : Cond.code yX0_tally cX0_tally 2 (some .int) ∈ ALL := kC4 _ (List.mem_of_getElem? (i := 22) rfl)
theorem q_151 : Cond.code yX0_timesToldRight cX0_timesToldRight 3 (some .int) ∈ ALL := kC4 _ (List.mem_of_getElem? (i := 23) rfl)
theorem q_152 : Cond.code yX0_distanceFromAims cX0_distanceFromAims 3 (some .int) ∈ ALL := kC4 _ (List.mem_of_getElem? (i := 24) rfl)
theorem q_153 : Cond.code yX0_worstBut cX0_worstBut 6 (some .int) ∈ ALL := kC4 _ (List.mem_of_getElem? (i := 25) rfl)
theorem q_154 : Cond.methodLink RX1 3 objectInit ∈ ALL := kC4 _ (List.mem_of_getElem? (i := 26) rfl)
theorem q_155 : Cond.arrayClass .char ∈ ALL := kC4 _ (List.mem_of_getElem? (i := 27) rfl)
theorem q_156 : Cond.fieldLink RX1 9 "DriftingLevels$OrderText" "signs" "[C" ∈ ALL := kC4 _ (List.mem_of_getElem? (i := 28) rfl)
theorem q_157 : Cond.fieldLink RX1 15 "DriftingLevels$OrderText" "numbers" "[I" ∈ ALL := kC4 _ (List.mem_of_getElem? (i := 29) rfl)
theorem q_158 : Cond.code yX1_init cX1_init 1 none ∈ ALL := kC4 _ (List.mem_of_getElem? (i := 30) rfl)
theorem q_159 : Cond.fieldLink RX1 19 "DriftingLevels$OrderText" "length" "I" ∈ ALL := kC4 _ (List.mem_of_getElem? (i := 31) rfl)
theorem q_160 : Cond.code yX1_size cX1_size 1 (some .int) ∈ ALL := kC5 _ (List.mem_of_getElem? (i := 0) rfl)
theorem q_161 : Cond.constant RX1 27 (-1000001) ∈ ALL := kC5 _ (List.mem_of_getElem? (i := 1) rfl)
theorem q_162 : Cond.constant RX1 28 (-1000003) ∈ ALL := kC5 _ (List.mem_of_getElem? (i := 2) rfl)
theorem q_163 : Cond.code yX1_append cX1_append 2 (some .int) ∈ ALL := kC5 _ (List.mem_of_getElem? (i := 3) rfl)
theorem q_164 : Cond.code yX1_empty cX1_empty 2 (some .int) ∈ ALL := kC5 _ (List.mem_of_getElem? (i := 4) rfl)
theorem q_165 : Cond.fieldLink RX1 29 "DriftingLevels$OrderText" "reached" "I" ∈ ALL := kC5 _ (List.mem_of_getElem? (i := 5) rfl)
theorem q_166 : Cond.code yX1_placeReached cX1_placeReached 1 (some .int) ∈ ALL := kC5 _ (List.mem_of_getElem? (i := 6) rfl)
theorem q_167 : Cond.code yX1_signAt cX1_signAt 2 (some .char) ∈ ALL := kC5 _ (List.mem_of_getElem? (i := 7) rfl)
theorem q_168 : Cond.code yX1_numbersOf cX1_numbersOf 1 (some .int) ∈ ALL := kC5 _ (List.mem_of_getElem? (i := 8) rfl)
theorem q_169 : Cond.code yX1_isDigit cX1_isDigit 1 (some .boolean) ∈ ALL := kC5 _ (List.mem_of_getElem? (i := 9) rfl)
theorem q_170 : Cond.methodLink RX1 32 yX1_signAt ∈ ALL := kC5 _ (List.mem_of_getElem? (i := 10) rfl)
theorem q_171 : Cond.instanceMethod yX1_signAt ∈ ALL := kC5 _ (List.mem_of_getElem? (i := 11) rfl)
theorem q_172 : Cond.selects RX1 yX1_signAt yX1_signAt ∈ ALL := kC5 _ (List.mem_of_getElem? (i := 12) rfl)
theorem q_173 : Cond.initialized RX1 ∈ ALL := kC5 _ (List.mem_of_getElem? (i := 13) rfl)
theorem q_174 : Cond.methodLink RX1 71 yX1_isDigit ∈ ALL := kC5 _ (List.mem_of_getElem? (i := 14) rfl)
theorem q_175 : Cond.static yX1_isDigit ∈ ALL := kC5 _ (List.mem_of_getElem? (i := 15) rfl)
theorem q_176 : Cond.code yX1_readNumber cX1_readNumber 4 (some .boolean) ∈ ALL := kC5 _ (List.mem_of_getElem? (i := 16) rfl)
theorem q_177 : Cond.fieldLink RX1 36 "DriftingLevels$OrderText" "kind" "C" ∈ ALL := kC5 _ (List.mem_of_getElem? (i := 17) rfl)
theorem q_178 : Cond.methodLink RX1 40 yX1_numbersOf ∈ ALL := kC5 _ (List.mem_of_getElem? (i := 18) rfl)
theorem q_179 : Cond.static yX1_numbersOf ∈ ALL := kC5 _ (List.mem_of_getElem? (i := 19) rfl)
theorem q_180 : Cond.methodLink RX1 44 yX1_readNumber ∈ ALL := kC5 _ (List.mem_of_getElem? (i := 20) rfl)
theorem q_181 : Cond.instanceMethod yX1_readNumber ∈ ALL := kC5 _ (List.mem_of_getElem? (i := 21) rfl)
theorem q_182 : Cond.selects RX1 yX1_readNumber yX1_readNumber ∈ ALL := kC5 _ (List.mem_of_getElem? (i := 22) rfl)
theorem q_183 : Cond.code yX1_readOrder cX1_readOrder 5 (some .boolean) ∈ ALL := kC5 _ (List.mem_of_getElem? (i := 23) rfl)
theorem q_184 : Cond.methodLink RX1 48 yX0_writeLevel ∈ ALL := kC5 _ (List.mem_of_getElem? (i := 24) rfl)
theorem q_185 : Cond.instanceMethod yX0_writeLevel ∈ ALL := kC5 _ (List.mem_of_getElem? (i := 25) rfl)
theorem q_186 : Cond.selects RX0 yX0_writeLevel yX0_writeLevel ∈ ALL := kC5 _ (List.mem_of_getElem? (i := 26) rfl)
theorem q_187 : Cond.methodLink RX1 54 yX0_writeAnew ∈ ALL := kC5 _ (List.mem_of_getElem? (i := 27) rfl)
theorem q_188 : Cond.methodLink RX1 58 yX0_failGuard ∈ ALL := kC5 _ (List.mem_of_getElem? (i := 28) rfl)
theorem q_189 : Cond.instanceMethod yX0_failGuard ∈ ALL := kC5 _ (List.mem_of_getElem? (i := 29) rfl)
theorem q_190 : Cond.selects RX0 yX0_failGuard yX0_failGuard ∈ ALL := kC5 _ (List.mem_of_getElem? (i := 30) rfl)
theorem q_191 : Cond.methodLink RX1 61 yX0_mendGuard ∈ ALL := kC5 _ (List.mem_of_getElem? (i := 31) rfl)
theorem q_192 : Cond.instanceMethod yX0_mendGuard ∈ ALL := kC6 _ (List.mem_of_getElem? (i := 0) rfl)
theorem q_193 : Cond.selects RX0 yX0_mendGuard yX0_mendGuard ∈ ALL := kC6 _ (List.mem_of_getElem? (i := 1) rfl)
theorem q_194 : Cond.methodLink RX1 65 yX0_changeRate ∈ ALL := kC6 _ (List.mem_of_getElem? (i := 2) rfl)
theorem q_195 : Cond.instanceMethod yX0_changeRate ∈ ALL := kC6 _ (List.mem_of_getElem? (i := 3) rfl)
theorem q_196 : Cond.selects RX0 yX0_changeRate yX0_changeRate ∈ ALL := kC6 _ (List.mem_of_getElem? (i := 4) rfl)
theorem q_197 : Cond.methodLink RX1 68 yX0_passDays ∈ ALL := kC6 _ (List.mem_of_getElem? (i := 5) rfl)
theorem q_198 : Cond.instanceMethod yX0_passDays ∈ ALL := kC6 _ (List.mem_of_getElem? (i := 6) rfl)
theorem q_199 : Cond.selects RX0 yX0_passDays yX0_passDays ∈ ALL := kC6 _ (List.mem_of_getElem? (i := 7) rfl)
theorem q_200 : Cond.code yX1_doOrder cX1_doOrder 2 (some .int) ∈ ALL := kC6 _ (List.mem_of_getElem? (i := 8) rfl)
theorem q_201 : Cond.methodLink RX2 3 objectInit ∈ ALL := kC6 _ (List.mem_of_getElem? (i := 9) rfl)
theorem q_202 : Cond.classLink RX2 9 RX0 ∈ ALL := kC6 _ (List.mem_of_getElem? (i := 10) rfl)
theorem q_203 : Cond.instantiable RX0 13 ∈ ALL := kC6 _ (List.mem_of_getElem? (i := 11) rfl)
theorem q_204 : Cond.fieldLink RX2 12 "DriftingLevels" "grid" "LDriftingLevels$Grid;" ∈ ALL := kC6 _ (List.mem_of_getElem? (i := 12) rfl)
theorem q_205 : Cond.fieldLink RX2 16 "DriftingLevels" "spare" "LDriftingLevels$Grid;" ∈ ALL := kC6 _ (List.mem_of_getElem? (i := 13) rfl)
theorem q_206 : Cond.fieldLink RX2 19 "DriftingLevels" "trial" "LDriftingLevels$Grid;" ∈ ALL := kC6 _ (List.mem_of_getElem? (i := 14) rfl)
theorem q_207 : Cond.fieldLink RX2 22 "DriftingLevels" "history" "[LDriftingLevels$Grid;" ∈ ALL := kC6 _ (List.mem_of_getElem? (i := 15) rfl)
theorem q_208 : Cond.classLink RX2 26 RX1 ∈ ALL := kC6 _ (List.mem_of_getElem? (i := 16) rfl)
theorem q_209 : Cond.instantiable RX1 5 ∈ ALL := kC6 _ (List.mem_of_getElem? (i := 17) rfl)
theorem q_210 : Cond.fieldLink RX2 29 "DriftingLevels" "text" "LDriftingLevels$OrderText;" ∈ ALL := kC6 _ (List.mem_of_getElem? (i := 18) rfl)
theorem q_211 : Cond.methodLink RX2 11 yX0_init ∈ ALL := kC6 _ (List.mem_of_getElem? (i := 19) rfl)
theorem q_212 : Cond.instanceMethod yX0_init ∈ ALL := kC6 _ (List.mem_of_getElem? (i := 20) rfl)
theorem q_213 : Cond.instanceMethod yX1_init ∈ ALL := kC6 _ (List.mem_of_getElem? (i := 21) rfl)
theorem q_214 : Cond.code yX2_init cX2_init 2 none ∈ ALL := kC6 _ (List.mem_of_getElem? (i := 22) rfl)
theorem q_215 : Cond.fieldLink RX2 117 "DriftingLevels" "states" "I" ∈ ALL := kC6 _ (List.mem_of_getElem? (i := 23) rfl)
theorem q_216 : Cond.code yX2_dropOldest cX2_dropOldest 3 none ∈ ALL := kC6 _ (List.mem_of_getElem? (i := 24) rfl)
theorem q_217 : Cond.methodLink RX2 150 yX2_dropOldest ∈ ALL := kC6 _ (List.mem_of_getElem? (i := 25) rfl)
theorem q_218 : Cond.instanceMethod yX2_dropOldest ∈ ALL := kC6 _ (List.mem_of_getElem? (i := 26) rfl)
theorem q_219 : Cond.selects RX2 yX2_dropOldest yX2_dropOldest ∈ ALL := kC6 _ (List.mem_of_getElem? (i := 27) rfl)
theorem q_220 : Cond.code yX2_recorded cX2_recorded 3 (some .int) ∈ ALL := kC6 _ (List.mem_of_getElem? (i := 28) rfl)
theorem q_221 : Cond.methodLink RX2 33 yX0_copyFrom ∈ ALL := kC6 _ (List.mem_of_getElem? (i := 29) rfl)
theorem q_222 : Cond.instanceMethod yX0_copyFrom ∈ ALL := kC6 _ (List.mem_of_getElem? (i := 30) rfl)
theorem q_223 : Cond.selects RX0 yX0_copyFrom yX0_copyFrom ∈ ALL := kC6 _ (List.mem_of_getElem? (i := 31) rfl)
theorem q_224 : Cond.methodLink RX2 37 yX0_writeLevel ∈ ALL := kC7 _ (List.mem_of_getElem? (i := 0) rfl)
theorem q_225 : Cond.methodLink RX2 41 yX2_recorded ∈ ALL := kC7 _ (List.mem_of_getElem? (i := 1) rfl)
theorem q_226 : Cond.instanceMethod yX2_recorded ∈ ALL := kC7 _ (List.mem_of_getElem? (i := 2) rfl)
theorem q_227 : Cond.selects RX2 yX2_recorded yX2_recorded ∈ ALL := kC7 _ (List.mem_of_getElem? (i := 3) rfl)
theorem q_228 : Cond.code yX2_write cX2_write 4 (some .int) ∈ ALL := kC7 _ (List.mem_of_getElem? (i := 4) rfl)
theorem q_229 : Cond.methodLink RX2 45 yX0_writeWord ∈ ALL := kC7 _ (List.mem_of_getElem? (i := 5) rfl)
theorem q_230 : Cond.instanceMethod yX0_writeWord ∈ ALL := kC7 _ (List.mem_of_getElem? (i := 6) rfl)
theorem q_231 : Cond.selects RX0 yX0_writeWord yX0_writeWord ∈ ALL := kC7 _ (List.mem_of_getElem? (i := 7) rfl)
theorem q_232 : Cond.code yX2_fill cX2_fill 3 (some .int) ∈ ALL := kC7 _ (List.mem_of_getElem? (i := 8) rfl)
theorem q_233 : Cond.methodLink RX2 49 yX0_writeAnew ∈ ALL := kC7 _ (List.mem_of_getElem? (i := 9) rfl)
theorem q_234 : Cond.code yX2_anew cX2_anew 2 (some .int) ∈ ALL := kC7 _ (List.mem_of_getElem? (i := 10) rfl)
theorem q_235 : Cond.methodLink RX2 52 yX0_askCell ∈ ALL := kC7 _ (List.mem_of_getElem? (i := 11) rfl)
theorem q_236 : Cond.instanceMethod yX0_askCell ∈ ALL := kC7 _ (List.mem_of_getElem? (i := 12) rfl)
theorem q_237 : Cond.selects RX0 yX0_askCell yX0_askCell ∈ ALL := kC7 _ (List.mem_of_getElem? (i := 13) rfl)
theorem q_238 : Cond.code yX2_ask cX2_ask 3 (some .int) ∈ ALL := kC7 _ (List.mem_of_getElem? (i := 14) rfl)
theorem q_239 : Cond.methodLink RX2 55 yX0_failGuard ∈ ALL := kC7 _ (List.mem_of_getElem? (i := 15) rfl)
theorem q_240 : Cond.code yX2_fail cX2_fail 4 (some .int) ∈ ALL := kC7 _ (List.mem_of_getElem? (i := 16) rfl)
theorem q_241 : Cond.methodLink RX2 58 yX0_mendGuard ∈ ALL := kC7 _ (List.mem_of_getElem? (i := 17) rfl)
theorem q_242 : Cond.code yX2_mend cX2_mend 3 (some .int) ∈ ALL := kC7 _ (List.mem_of_getElem? (i := 18) rfl)
theorem q_243 : Cond.methodLink RX2 61 yX0_changeRate ∈ ALL := kC7 _ (List.mem_of_getElem? (i := 19) rfl)
theorem q_244 : Cond.code yX2_rate cX2_rate 3 (some .int) ∈ ALL := kC7 _ (List.mem_of_getElem? (i := 20) rfl)
theorem q_245 : Cond.methodLink RX2 64 yX0_passDays ∈ ALL := kC7 _ (List.mem_of_getElem? (i := 21) rfl)
theorem q_246 : Cond.code yX2_days cX2_days 2 (some .int) ∈ ALL := kC7 _ (List.mem_of_getElem? (i := 22) rfl)
theorem q_247 : Cond.methodLink RX2 67 yX0_changeSetting ∈ ALL := kC7 _ (List.mem_of_getElem? (i := 23) rfl)
theorem q_248 : Cond.instanceMethod yX0_changeSetting ∈ ALL := kC7 _ (List.mem_of_getElem? (i := 24) rfl)
theorem q_249 : Cond.selects RX0 yX0_changeSetting yX0_changeSetting ∈ ALL := kC7 _ (List.mem_of_getElem? (i := 25) rfl)
theorem q_250 : Cond.code yX2_set cX2_set 3 (some .int) ∈ ALL := kC7 _ (List.mem_of_getElem? (i := 26) rfl)
theorem q_251 : Cond.methodLink RX2 70 yX0_numberOfCell ∈ ALL := kC7 _ (List.mem_of_getElem? (i := 27) rfl)
theorem q_252 : Cond.instanceMethod yX0_numberOfCell ∈ ALL := kC7 _ (List.mem_of_getElem? (i := 28) rfl)
theorem q_253 : Cond.selects RX0 yX0_numberOfCell yX0_numberOfCell ∈ ALL := kC7 _ (List.mem_of_getElem? (i := 29) rfl)
theorem q_254 : Cond.code yX2_cell cX2_cell 4 (some .int) ∈ ALL := kC7 _ (List.mem_of_getElem? (i := 30) rfl)
theorem q_255 : Cond.methodLink RX2 73 yX0_numberOfGuard ∈ ALL := kC7 _ (List.mem_of_getElem? (i := 31) rfl)
theorem q_256 : Cond.instanceMethod yX0_numberOfGuard ∈ ALL := kC8 _ (List.mem_of_getElem? (i := 0) rfl)
theorem q_257 : Cond.selects RX0 yX0_numberOfGuard yX0_numberOfGuard ∈ ALL := kC8 _ (List.mem_of_getElem? (i := 1) rfl)
theorem q_258 : Cond.code yX2_guard cX2_guard 4 (some .int) ∈ ALL := kC8 _ (List.mem_of_getElem? (i := 2) rfl)
theorem q_259 : Cond.methodLink RX2 76 yX0_numberOfRow ∈ ALL := kC8 _ (List.mem_of_getElem? (i := 3) rfl)
theorem q_260 : Cond.instanceMethod yX0_numberOfRow ∈ ALL := kC8 _ (List.mem_of_getElem? (i := 4) rfl)
theorem q_261 : Cond.selects RX0 yX0_numberOfRow yX0_numberOfRow ∈ ALL := kC8 _ (List.mem_of_getElem? (i := 5) rfl)
theorem q_262 : Cond.code yX2_row cX2_row 3 (some .int) ∈ ALL := kC8 _ (List.mem_of_getElem? (i := 6) rfl)
theorem q_263 : Cond.methodLink RX2 79 yX0_timesTold ∈ ALL := kC8 _ (List.mem_of_getElem? (i := 7) rfl)
theorem q_264 : Cond.instanceMethod yX0_timesTold ∈ ALL := kC8 _ (List.mem_of_getElem? (i := 8) rfl)
theorem q_265 : Cond.selects RX0 yX0_timesTold yX0_timesTold ∈ ALL := kC8 _ (List.mem_of_getElem? (i := 9) rfl)
theorem q_266 : Cond.code yX2_table cX2_table 3 (some .int) ∈ ALL := kC8 _ (List.mem_of_getElem? (i := 10) rfl)
theorem q_267 : Cond.constant RX2 86 (-1000001) ∈ ALL := kC8 _ (List.mem_of_getElem? (i := 11) rfl)
theorem q_268 : Cond.constant RX2 90 (1000000) ∈ ALL := kC8 _ (List.mem_of_getElem? (i := 12) rfl)
theorem q_269 : Cond.constant RX2 91 (-1000004) ∈ ALL := kC8 _ (List.mem_of_getElem? (i := 13) rfl)
theorem q_270 : Cond.methodLink RX2 82 yX2_isOutside ∈ ALL := kC8 _ (List.mem_of_getElem? (i := 14) rfl)
theorem q_271 : Cond.methodLink RX2 87 yX0_wrongCells ∈ ALL := kC8 _ (List.mem_of_getElem? (i := 15) rfl)
theorem q_272 : Cond.code yX2_wrongIn cX2_wrongIn 3 (some .int) ∈ ALL := kC8 _ (List.mem_of_getElem? (i := 16) rfl)
theorem q_273 : Cond.methodLink RX2 92 yX0_hasRightThresholds ∈ ALL := kC8 _ (List.mem_of_getElem? (i := 17) rfl)
theorem q_274 : Cond.code yX2_rightFor cX2_rightFor 3 (some .int) ∈ ALL := kC8 _ (List.mem_of_getElem? (i := 18) rfl)
theorem q_275 : Cond.code yX2_isSafe cX2_isSafe 3 (some .boolean) ∈ ALL := kC8 _ (List.mem_of_getElem? (i := 19) rfl)
theorem q_276 : Cond.methodLink RX2 96 yX2_isSafe ∈ ALL := kC8 _ (List.mem_of_getElem? (i := 20) rfl)
theorem q_277 : Cond.instanceMethod yX2_isSafe ∈ ALL := kC8 _ (List.mem_of_getElem? (i := 21) rfl)
theorem q_278 : Cond.selects RX2 yX2_isSafe yX2_isSafe ∈ ALL := kC8 _ (List.mem_of_getElem? (i := 22) rfl)
theorem q_279 : Cond.code yX2_safeAge cX2_safeAge 2 (some .int) ∈ ALL := kC8 _ (List.mem_of_getElem? (i := 23) rfl)
theorem q_280 : Cond.methodLink RX2 99 yX0_worstBut ∈ ALL := kC8 _ (List.mem_of_getElem? (i := 24) rfl)
theorem q_281 : Cond.instanceMethod yX0_worstBut ∈ ALL := kC8 _ (List.mem_of_getElem? (i := 25) rfl)
theorem q_282 : Cond.selects RX0 yX0_worstBut yX0_worstBut ∈ ALL := kC8 _ (List.mem_of_getElem? (i := 26) rfl)
theorem q_283 : Cond.code yX2_worst cX2_worst 5 (some .int) ∈ ALL := kC8 _ (List.mem_of_getElem? (i := 27) rfl)
theorem q_284 : Cond.constantFloat RX2 166 (1258291200) ∈ ALL := kC8 _ (List.mem_of_getElem? (i := 28) rfl)
theorem q_285 : Cond.code yX2_bitsOf cX2_bitsOf 4 (some .int) ∈ ALL := kC8 _ (List.mem_of_getElem? (i := 29) rfl)
theorem q_286 : Cond.constantFloat RX2 106 (1111490560) ∈ ALL := kC8 _ (List.mem_of_getElem? (i := 30) rfl)
theorem q_287 : Cond.methodLink RX2 102 yX0_distanceFromAims ∈ ALL := kC8 _ (List.mem_of_getElem? (i := 31) rfl)
theorem q_288 : Cond.instanceMethod yX0_distanceFromAims ∈ ALL := kC9 _ (List.mem_of_getElem? (i := 0) rfl)
theorem q_289 : Cond.selects RX0 yX0_distanceFromAims yX0_distanceFromAims ∈ ALL := kC9 _ (List.mem_of_getElem? (i := 1) rfl)
theorem q_290 : Cond.methodLink RX2 107 yX2_bitsOf ∈ ALL := kC9 _ (List.mem_of_getElem? (i := 2) rfl)
theorem q_291 : Cond.static yX2_bitsOf ∈ ALL := kC9 _ (List.mem_of_getElem? (i := 3) rfl)
theorem q_292 : Cond.code yX2_mean cX2_mean 1 (some .int) ∈ ALL := kC9 _ (List.mem_of_getElem? (i := 4) rfl)
theorem q_293 : Cond.methodLink RX2 111 yX0_timesAsked ∈ ALL := kC9 _ (List.mem_of_getElem? (i := 5) rfl)
theorem q_294 : Cond.methodLink RX2 114 yX0_timesToldRight ∈ ALL := kC9 _ (List.mem_of_getElem? (i := 6) rfl)
theorem q_295 : Cond.instanceMethod yX0_timesToldRight ∈ ALL := kC9 _ (List.mem_of_getElem? (i := 7) rfl)
theorem q_296 : Cond.selects RX0 yX0_timesToldRight yX0_timesToldRight ∈ ALL := kC9 _ (List.mem_of_getElem? (i := 8) rfl)
theorem q_297 : Cond.code yX2_share cX2_share 2 (some .int) ∈ ALL := kC9 _ (List.mem_of_getElem? (i := 9) rfl)
theorem q_298 : Cond.methodLink RX2 121 yX1_size ∈ ALL := kC9 _ (List.mem_of_getElem? (i := 10) rfl)
theorem q_299 : Cond.instanceMethod yX1_size ∈ ALL := kC9 _ (List.mem_of_getElem? (i := 11) rfl)
theorem q_300 : Cond.selects RX1 yX1_size yX1_size ∈ ALL := kC9 _ (List.mem_of_getElem? (i := 12) rfl)
theorem q_301 : Cond.methodLink RX2 124 yX0_tally ∈ ALL := kC9 _ (List.mem_of_getElem? (i := 13) rfl)
theorem q_302 : Cond.instanceMethod yX0_tally ∈ ALL := kC9 _ (List.mem_of_getElem? (i := 14) rfl)
theorem q_303 : Cond.selects RX0 yX0_tally yX0_tally ∈ ALL := kC9 _ (List.mem_of_getElem? (i := 15) rfl)
theorem q_304 : Cond.code yX2_count cX2_count 2 (some .int) ∈ ALL := kC9 _ (List.mem_of_getElem? (i := 16) rfl)
theorem q_305 : Cond.constant RX2 127 (-1000002) ∈ ALL := kC9 _ (List.mem_of_getElem? (i := 17) rfl)
theorem q_306 : Cond.code yX2_undo cX2_undo 2 (some .int) ∈ ALL := kC9 _ (List.mem_of_getElem? (i := 18) rfl)
theorem q_307 : Cond.methodLink RX2 128 yX1_append ∈ ALL := kC9 _ (List.mem_of_getElem? (i := 19) rfl)
theorem q_308 : Cond.instanceMethod yX1_append ∈ ALL := kC9 _ (List.mem_of_getElem? (i := 20) rfl)
theorem q_309 : Cond.selects RX1 yX1_append yX1_append ∈ ALL := kC9 _ (List.mem_of_getElem? (i := 21) rfl)
theorem q_310 : Cond.code yX2_type cX2_type 2 (some .int) ∈ ALL := kC9 _ (List.mem_of_getElem? (i := 22) rfl)
theorem q_311 : Cond.methodLink RX2 131 yX1_empty ∈ ALL := kC9 _ (List.mem_of_getElem? (i := 23) rfl)
theorem q_312 : Cond.instanceMethod yX1_empty ∈ ALL := kC9 _ (List.mem_of_getElem? (i := 24) rfl)
theorem q_313 : Cond.selects RX1 yX1_empty yX1_empty ∈ ALL := kC9 _ (List.mem_of_getElem? (i := 25) rfl)
theorem q_314 : Cond.code yX2_clearText cX2_clearText 1 (some .int) ∈ ALL := kC9 _ (List.mem_of_getElem? (i := 26) rfl)
theorem q_315 : Cond.fieldLink RX2 138 "DriftingLevels" "faultPosition" "I" ∈ ALL := kC9 _ (List.mem_of_getElem? (i := 27) rfl)
theorem q_316 : Cond.fieldLink RX2 141 "DriftingLevels" "faultReason" "I" ∈ ALL := kC9 _ (List.mem_of_getElem? (i := 28) rfl)
theorem q_317 : Cond.fieldLink RX2 144 "DriftingLevels" "faultCause" "I" ∈ ALL := kC9 _ (List.mem_of_getElem? (i := 29) rfl)
theorem q_318 : Cond.code yX2_noteFault cX2_noteFault 4 (some .boolean) ∈ ALL := kC9 _ (List.mem_of_getElem? (i := 30) rfl)
theorem q_319 : Cond.fieldLink RX2 147 "DriftingLevels" "orders" "I" ∈ ALL := kC9 _ (List.mem_of_getElem? (i := 31) rfl)
theorem q_320 : Cond.methodLink RX2 153 yX1_readOrder ∈ ALL := kC10 _ (List.mem_of_getElem? (i := 0) rfl)
theorem q_321 : Cond.instanceMethod yX1_readOrder ∈ ALL := kC10 _ (List.mem_of_getElem? (i := 1) rfl)
theorem q_322 : Cond.selects RX1 yX1_readOrder yX1_readOrder ∈ ALL := kC10 _ (List.mem_of_getElem? (i := 2) rfl)
theorem q_323 : Cond.methodLink RX2 156 yX1_placeReached ∈ ALL := kC10 _ (List.mem_of_getElem? (i := 3) rfl)
theorem q_324 : Cond.instanceMethod yX1_placeReached ∈ ALL := kC10 _ (List.mem_of_getElem? (i := 4) rfl)
theorem q_325 : Cond.selects RX1 yX1_placeReached yX1_placeReached ∈ ALL := kC10 _ (List.mem_of_getElem? (i := 5) rfl)
theorem q_326 : Cond.methodLink RX2 159 yX2_noteFault ∈ ALL := kC10 _ (List.mem_of_getElem? (i := 6) rfl)
theorem q_327 : Cond.instanceMethod yX2_noteFault ∈ ALL := kC10 _ (List.mem_of_getElem? (i := 7) rfl)
theorem q_328 : Cond.selects RX2 yX2_noteFault yX2_noteFault ∈ ALL := kC10 _ (List.mem_of_getElem? (i := 8) rfl)
theorem q_329 : Cond.methodLink RX2 162 yX1_doOrder ∈ ALL := kC10 _ (List.mem_of_getElem? (i := 9) rfl)
theorem q_330 : Cond.instanceMethod yX1_doOrder ∈ ALL := kC10 _ (List.mem_of_getElem? (i := 10) rfl)
theorem q_331 : Cond.selects RX1 yX1_doOrder yX1_doOrder ∈ ALL := kC10 _ (List.mem_of_getElem? (i := 11) rfl)
theorem q_332 : Cond.code yX2_findFault cX2_findFault 3 (some .boolean) ∈ ALL := kC10 _ (List.mem_of_getElem? (i := 12) rfl)
theorem q_333 : Cond.methodLink RX2 134 yX2_findFault ∈ ALL := kC10 _ (List.mem_of_getElem? (i := 13) rfl)
theorem q_334 : Cond.instanceMethod yX2_findFault ∈ ALL := kC10 _ (List.mem_of_getElem? (i := 14) rfl)
theorem q_335 : Cond.selects RX2 yX2_findFault yX2_findFault ∈ ALL := kC10 _ (List.mem_of_getElem? (i := 15) rfl)
theorem q_336 : Cond.code yX2_fault cX2_fault 2 (some .int) ∈ ALL := kC10 _ (List.mem_of_getElem? (i := 16) rfl)
theorem q_337 : Cond.code yX2_play cX2_play 1 (some .int) ∈ ALL := kC10 _ (List.mem_of_getElem? (i := 17) rfl)
theorem q_338 : Cond.fieldLink RX3 7 "DriftingLevelsModel" "s" "[I" ∈ ALL := kC10 _ (List.mem_of_getElem? (i := 18) rfl)
theorem q_339 : Cond.code yX3_lays cX3_lays 4 none ∈ ALL := kC10 _ (List.mem_of_getElem? (i := 19) rfl)
theorem q_340 : Cond.code yX3_of cX3_of 3 (some .int) ∈ ALL := kC10 _ (List.mem_of_getElem? (i := 20) rfl)
theorem q_341 : Cond.code yX3_aim cX3_aim 1 (some .int) ∈ ALL := kC10 _ (List.mem_of_getElem? (i := 21) rfl)
theorem q_342 : Cond.methodLink RX3 52 yX3_of ∈ ALL := kC10 _ (List.mem_of_getElem? (i := 22) rfl)
theorem q_343 : Cond.instanceMethod yX3_of ∈ ALL := kC10 _ (List.mem_of_getElem? (i := 23) rfl)
theorem q_344 : Cond.selects RX3 yX3_of yX3_of ∈ ALL := kC10 _ (List.mem_of_getElem? (i := 24) rfl)
theorem q_345 : Cond.initialized RX3 ∈ ALL := kC10 _ (List.mem_of_getElem? (i := 25) rfl)
theorem q_346 : Cond.methodLink RX3 63 yX3_aim ∈ ALL := kC10 _ (List.mem_of_getElem? (i := 26) rfl)
theorem q_347 : Cond.static yX3_aim ∈ ALL := kC10 _ (List.mem_of_getElem? (i := 27) rfl)
theorem q_348 : Cond.methodLink RX3 28 yX3_lays ∈ ALL := kC10 _ (List.mem_of_getElem? (i := 28) rfl)
theorem q_349 : Cond.instanceMethod yX3_lays ∈ ALL := kC10 _ (List.mem_of_getElem? (i := 29) rfl)
theorem q_350 : Cond.selects RX3 yX3_lays yX3_lays ∈ ALL := kC10 _ (List.mem_of_getElem? (i := 30) rfl)
theorem q_351 : Cond.code yX3_writesGuards cX3_writesGuards 3 none ∈ ALL := kC10 _ (List.mem_of_getElem? (i := 31) rfl)
theorem q_352 : Cond.code yX3_ofCell cX3_ofCell 4 (some .int) ∈ ALL := kC11 _ (List.mem_of_getElem? (i := 0) rfl)
theorem q_353 : Cond.code yX3_laysCell cX3_laysCell 5 none ∈ ALL := kC11 _ (List.mem_of_getElem? (i := 1) rfl)
theorem q_354 : Cond.methodLink RX3 56 yX3_ofCell ∈ ALL := kC11 _ (List.mem_of_getElem? (i := 2) rfl)
theorem q_355 : Cond.instanceMethod yX3_ofCell ∈ ALL := kC11 _ (List.mem_of_getElem? (i := 3) rfl)
theorem q_356 : Cond.selects RX3 yX3_ofCell yX3_ofCell ∈ ALL := kC11 _ (List.mem_of_getElem? (i := 4) rfl)
theorem q_357 : Cond.methodLink RX3 59 yX3_laysCell ∈ ALL := kC11 _ (List.mem_of_getElem? (i := 5) rfl)
theorem q_358 : Cond.instanceMethod yX3_laysCell ∈ ALL := kC11 _ (List.mem_of_getElem? (i := 6) rfl)
theorem q_359 : Cond.selects RX3 yX3_laysCell yX3_laysCell ∈ ALL := kC11 _ (List.mem_of_getElem? (i := 7) rfl)
theorem q_360 : Cond.code yX3_writes cX3_writes 6 (some .int) ∈ ALL := kC11 _ (List.mem_of_getElem? (i := 8) rfl)
theorem q_361 : Cond.methodLink RX3 1 objectInit ∈ ALL := kC11 _ (List.mem_of_getElem? (i := 9) rfl)
theorem q_362 : Cond.fieldLink RX3 13 "DriftingLevelsModel" "aside" "[I" ∈ ALL := kC11 _ (List.mem_of_getElem? (i := 10) rfl)
theorem q_363 : Cond.fieldLink RX3 16 "DriftingLevelsModel" "before" "[I" ∈ ALL := kC11 _ (List.mem_of_getElem? (i := 11) rfl)
theorem q_364 : Cond.fieldLink RX3 19 "DriftingLevelsModel" "past" "[I" ∈ ALL := kC11 _ (List.mem_of_getElem? (i := 12) rfl)
theorem q_365 : Cond.fieldLink RX3 22 "DriftingLevelsModel" "text" "[I" ∈ ALL := kC11 _ (List.mem_of_getElem? (i := 13) rfl)
theorem q_366 : Cond.fieldLink RX3 25 "DriftingLevelsModel" "tells" "[I" ∈ ALL := kC11 _ (List.mem_of_getElem? (i := 14) rfl)
theorem q_367 : Cond.methodLink RX3 32 yX3_writesGuards ∈ ALL := kC11 _ (List.mem_of_getElem? (i := 15) rfl)
theorem q_368 : Cond.instanceMethod yX3_writesGuards ∈ ALL := kC11 _ (List.mem_of_getElem? (i := 16) rfl)
theorem q_369 : Cond.selects RX3 yX3_writesGuards yX3_writesGuards ∈ ALL := kC11 _ (List.mem_of_getElem? (i := 17) rfl)
theorem q_370 : Cond.methodLink RX3 36 yX3_writes ∈ ALL := kC11 _ (List.mem_of_getElem? (i := 18) rfl)
theorem q_371 : Cond.instanceMethod yX3_writes ∈ ALL := kC11 _ (List.mem_of_getElem? (i := 19) rfl)
theorem q_372 : Cond.selects RX3 yX3_writes yX3_writes ∈ ALL := kC11 _ (List.mem_of_getElem? (i := 20) rfl)
theorem q_373 : Cond.code yX3_init cX3_init 3 none ∈ ALL := kC11 _ (List.mem_of_getElem? (i := 21) rfl)
theorem q_374 : Cond.code yX3_in cX3_in 3 (some .boolean) ∈ ALL := kC11 _ (List.mem_of_getElem? (i := 22) rfl)
theorem q_375 : Cond.code yX3_copies cX3_copies 5 none ∈ ALL := kC11 _ (List.mem_of_getElem? (i := 23) rfl)
theorem q_376 : Cond.fieldLink RX3 40 "DriftingLevelsModel" "known" "I" ∈ ALL := kC11 _ (List.mem_of_getElem? (i := 24) rfl)
theorem q_377 : Cond.methodLink RX3 44 yX3_copies ∈ ALL := kC11 _ (List.mem_of_getElem? (i := 25) rfl)
theorem q_378 : Cond.static yX3_copies ∈ ALL := kC11 _ (List.mem_of_getElem? (i := 26) rfl)
theorem q_379 : Cond.code yX3_records cX3_records 2 none ∈ ALL := kC11 _ (List.mem_of_getElem? (i := 27) rfl)
theorem q_380 : Cond.methodLink RX3 48 yX3_in ∈ ALL := kC11 _ (List.mem_of_getElem? (i := 28) rfl)
theorem q_381 : Cond.static yX3_in ∈ ALL := kC11 _ (List.mem_of_getElem? (i := 29) rfl)
theorem q_382 : Cond.code yX3_isRow cX3_isRow 1 (some .boolean) ∈ ALL := kC11 _ (List.mem_of_getElem? (i := 30) rfl)
theorem q_383 : Cond.code yX3_isCell cX3_isCell 1 (some .boolean) ∈ ALL := kC11 _ (List.mem_of_getElem? (i := 31) rfl)
theorem q_384 : Cond.code yX3_isThree cX3_isThree 1 (some .boolean) ∈ ALL := kC12 _ (List.mem_of_getElem? (i := 0) rfl)
theorem q_385 : Cond.code yX3_size cX3_size 1 (some .int) ∈ ALL := kC12 _ (List.mem_of_getElem? (i := 1) rfl)
theorem q_386 : Cond.code yX3_own cX3_own 3 (some .int) ∈ ALL := kC12 _ (List.mem_of_getElem? (i := 2) rfl)
theorem q_387 : Cond.code yX3_isRight cX3_isRight 2 (some .boolean) ∈ ALL := kC12 _ (List.mem_of_getElem? (i := 3) rfl)
theorem q_388 : Cond.methodLink RX3 67 yX3_isRow ∈ ALL := kC12 _ (List.mem_of_getElem? (i := 4) rfl)
theorem q_389 : Cond.static yX3_isRow ∈ ALL := kC12 _ (List.mem_of_getElem? (i := 5) rfl)
theorem q_390 : Cond.methodLink RX3 71 yX3_isRight ∈ ALL := kC12 _ (List.mem_of_getElem? (i := 6) rfl)
theorem q_391 : Cond.instanceMethod yX3_isRight ∈ ALL := kC12 _ (List.mem_of_getElem? (i := 7) rfl)
theorem q_392 : Cond.selects RX3 yX3_isRight yX3_isRight ∈ ALL := kC12 _ (List.mem_of_getElem? (i := 8) rfl)
theorem q_393 : Cond.code yX3_helps cX3_helps 2 (some .boolean) ∈ ALL := kC12 _ (List.mem_of_getElem? (i := 9) rfl)
theorem q_394 : Cond.methodLink RX3 74 yX3_helps ∈ ALL := kC12 _ (List.mem_of_getElem? (i := 10) rfl)
theorem q_395 : Cond.instanceMethod yX3_helps ∈ ALL := kC12 _ (List.mem_of_getElem? (i := 11) rfl)
theorem q_396 : Cond.selects RX3 yX3_helps yX3_helps ∈ ALL := kC12 _ (List.mem_of_getElem? (i := 12) rfl)
theorem q_397 : Cond.code yX3_source cX3_source 2 (some .int) ∈ ALL := kC12 _ (List.mem_of_getElem? (i := 13) rfl)
theorem q_398 : Cond.methodLink RX3 77 yX3_own ∈ ALL := kC12 _ (List.mem_of_getElem? (i := 14) rfl)
theorem q_399 : Cond.instanceMethod yX3_own ∈ ALL := kC12 _ (List.mem_of_getElem? (i := 15) rfl)
theorem q_400 : Cond.selects RX3 yX3_own yX3_own ∈ ALL := kC12 _ (List.mem_of_getElem? (i := 16) rfl)
theorem q_401 : Cond.code yX3_threshold cX3_threshold 5 (some .int) ∈ ALL := kC12 _ (List.mem_of_getElem? (i := 17) rfl)
theorem q_402 : Cond.code yX3_by cX3_by 3 (some .int) ∈ ALL := kC12 _ (List.mem_of_getElem? (i := 18) rfl)
theorem q_403 : Cond.methodLink RX3 80 yX3_threshold ∈ ALL := kC12 _ (List.mem_of_getElem? (i := 19) rfl)
theorem q_404 : Cond.instanceMethod yX3_threshold ∈ ALL := kC12 _ (List.mem_of_getElem? (i := 20) rfl)
theorem q_405 : Cond.selects RX3 yX3_threshold yX3_threshold ∈ ALL := kC12 _ (List.mem_of_getElem? (i := 21) rfl)
theorem q_406 : Cond.methodLink RX3 83 yX3_by ∈ ALL := kC12 _ (List.mem_of_getElem? (i := 22) rfl)
theorem q_407 : Cond.static yX3_by ∈ ALL := kC12 _ (List.mem_of_getElem? (i := 23) rfl)
theorem q_408 : Cond.code yX3_told cX3_told 3 (some .int) ∈ ALL := kC12 _ (List.mem_of_getElem? (i := 24) rfl)
theorem q_409 : Cond.methodLink RX3 86 yX3_told ∈ ALL := kC12 _ (List.mem_of_getElem? (i := 25) rfl)
theorem q_410 : Cond.instanceMethod yX3_told ∈ ALL := kC12 _ (List.mem_of_getElem? (i := 26) rfl)
theorem q_411 : Cond.selects RX3 yX3_told yX3_told ∈ ALL := kC12 _ (List.mem_of_getElem? (i := 27) rfl)
theorem q_412 : Cond.code yX3_wrong cX3_wrong 4 (some .int) ∈ ALL := kC12 _ (List.mem_of_getElem? (i := 28) rfl)
theorem q_413 : Cond.code yX3_wordTold cX3_wordTold 4 (some .int) ∈ ALL := kC12 _ (List.mem_of_getElem? (i := 29) rfl)
theorem q_414 : Cond.code yX3_wordOf cX3_wordOf 4 (some .int) ∈ ALL := kC12 _ (List.mem_of_getElem? (i := 30) rfl)
theorem q_415 : Cond.code yX3_writesWord cX3_writesWord 6 none ∈ ALL := kC12 _ (List.mem_of_getElem? (i := 31) rfl)
theorem q_416 : Cond.methodLink RX3 89 yX3_wrong ∈ ALL := kC13 _ (List.mem_of_getElem? (i := 0) rfl)
theorem q_417 : Cond.instanceMethod yX3_wrong ∈ ALL := kC13 _ (List.mem_of_getElem? (i := 1) rfl)
theorem q_418 : Cond.selects RX3 yX3_wrong yX3_wrong ∈ ALL := kC13 _ (List.mem_of_getElem? (i := 2) rfl)
theorem q_419 : Cond.methodLink RX3 92 yX3_wordTold ∈ ALL := kC13 _ (List.mem_of_getElem? (i := 3) rfl)
theorem q_420 : Cond.instanceMethod yX3_wordTold ∈ ALL := kC13 _ (List.mem_of_getElem? (i := 4) rfl)
theorem q_421 : Cond.selects RX3 yX3_wordTold yX3_wordTold ∈ ALL := kC13 _ (List.mem_of_getElem? (i := 5) rfl)
theorem q_422 : Cond.methodLink RX3 95 yX3_writesWord ∈ ALL := kC13 _ (List.mem_of_getElem? (i := 6) rfl)
theorem q_423 : Cond.instanceMethod yX3_writesWord ∈ ALL := kC13 _ (List.mem_of_getElem? (i := 7) rfl)
theorem q_424 : Cond.selects RX3 yX3_writesWord yX3_writesWord ∈ ALL := kC13 _ (List.mem_of_getElem? (i := 8) rfl)
theorem q_425 : Cond.code yX3_writesAnew cX3_writesAnew 3 (some .int) ∈ ALL := kC13 _ (List.mem_of_getElem? (i := 9) rfl)
theorem q_426 : Cond.methodLink RX3 99 yX3_size ∈ ALL := kC13 _ (List.mem_of_getElem? (i := 10) rfl)
theorem q_427 : Cond.static yX3_size ∈ ALL := kC13 _ (List.mem_of_getElem? (i := 11) rfl)
theorem q_428 : Cond.code yX3_drifted cX3_drifted 5 (some .int) ∈ ALL := kC13 _ (List.mem_of_getElem? (i := 12) rfl)
theorem q_429 : Cond.methodLink RX3 102 yX3_drifted ∈ ALL := kC13 _ (List.mem_of_getElem? (i := 13) rfl)
theorem q_430 : Cond.instanceMethod yX3_drifted ∈ ALL := kC13 _ (List.mem_of_getElem? (i := 14) rfl)
theorem q_431 : Cond.selects RX3 yX3_drifted yX3_drifted ∈ ALL := kC13 _ (List.mem_of_getElem? (i := 15) rfl)
theorem q_432 : Cond.code yX3_drifts cX3_drifts 3 none ∈ ALL := kC13 _ (List.mem_of_getElem? (i := 16) rfl)
theorem q_433 : Cond.code yX3_ageOf cX3_ageOf 2 (some .int) ∈ ALL := kC13 _ (List.mem_of_getElem? (i := 17) rfl)
theorem q_434 : Cond.methodLink RX3 105 yX3_drifts ∈ ALL := kC13 _ (List.mem_of_getElem? (i := 18) rfl)
theorem q_435 : Cond.instanceMethod yX3_drifts ∈ ALL := kC13 _ (List.mem_of_getElem? (i := 19) rfl)
theorem q_436 : Cond.selects RX3 yX3_drifts yX3_drifts ∈ ALL := kC13 _ (List.mem_of_getElem? (i := 20) rfl)
theorem q_437 : Cond.methodLink RX3 108 yX3_ageOf ∈ ALL := kC13 _ (List.mem_of_getElem? (i := 21) rfl)
theorem q_438 : Cond.instanceMethod yX3_ageOf ∈ ALL := kC13 _ (List.mem_of_getElem? (i := 22) rfl)
theorem q_439 : Cond.selects RX3 yX3_ageOf yX3_ageOf ∈ ALL := kC13 _ (List.mem_of_getElem? (i := 23) rfl)
theorem q_440 : Cond.methodLink RX3 111 yX3_writesAnew ∈ ALL := kC13 _ (List.mem_of_getElem? (i := 24) rfl)
theorem q_441 : Cond.instanceMethod yX3_writesAnew ∈ ALL := kC13 _ (List.mem_of_getElem? (i := 25) rfl)
theorem q_442 : Cond.selects RX3 yX3_writesAnew yX3_writesAnew ∈ ALL := kC13 _ (List.mem_of_getElem? (i := 26) rfl)
theorem q_443 : Cond.code yX3_endsDay cX3_endsDay 3 (some .int) ∈ ALL := kC13 _ (List.mem_of_getElem? (i := 27) rfl)
theorem q_444 : Cond.methodLink RX3 114 yX3_endsDay ∈ ALL := kC13 _ (List.mem_of_getElem? (i := 28) rfl)
theorem q_445 : Cond.instanceMethod yX3_endsDay ∈ ALL := kC13 _ (List.mem_of_getElem? (i := 29) rfl)
theorem q_446 : Cond.selects RX3 yX3_endsDay yX3_endsDay ∈ ALL := kC13 _ (List.mem_of_getElem? (i := 30) rfl)
theorem q_447 : Cond.code yX3_endsDays cX3_endsDays 4 (some .int) ∈ ALL := kC13 _ (List.mem_of_getElem? (i := 31) rfl)
theorem q_448 : Cond.constant RX3 124 (-1000001) ∈ ALL := kC14 _ (List.mem_of_getElem? (i := 0) rfl)
theorem q_449 : Cond.methodLink RX3 118 yX3_isCell ∈ ALL := kC14 _ (List.mem_of_getElem? (i := 1) rfl)
theorem q_450 : Cond.static yX3_isCell ∈ ALL := kC14 _ (List.mem_of_getElem? (i := 2) rfl)
theorem q_451 : Cond.methodLink RX3 121 yX3_isThree ∈ ALL := kC14 _ (List.mem_of_getElem? (i := 3) rfl)
theorem q_452 : Cond.static yX3_isThree ∈ ALL := kC14 _ (List.mem_of_getElem? (i := 4) rfl)
theorem q_453 : Cond.code yX3_errorWrite cX3_errorWrite 3 (some .int) ∈ ALL := kC14 _ (List.mem_of_getElem? (i := 5) rfl)
theorem q_454 : Cond.constant RX3 125 (-1000002) ∈ ALL := kC14 _ (List.mem_of_getElem? (i := 6) rfl)
theorem q_455 : Cond.code yX3_errorFail cX3_errorFail 4 (some .int) ∈ ALL := kC14 _ (List.mem_of_getElem? (i := 7) rfl)
theorem q_456 : Cond.code yX3_errorMend cX3_errorMend 3 (some .int) ∈ ALL := kC14 _ (List.mem_of_getElem? (i := 8) rfl)
theorem q_457 : Cond.code yX3_errorRate cX3_errorRate 2 (some .int) ∈ ALL := kC14 _ (List.mem_of_getElem? (i := 9) rfl)
theorem q_458 : Cond.constant RX3 126 (-1000003) ∈ ALL := kC14 _ (List.mem_of_getElem? (i := 10) rfl)
theorem q_459 : Cond.code yX3_errorDays cX3_errorDays 2 (some .int) ∈ ALL := kC14 _ (List.mem_of_getElem? (i := 11) rfl)
theorem q_460 : Cond.code yX3_goFail cX3_goFail 4 none ∈ ALL := kC14 _ (List.mem_of_getElem? (i := 12) rfl)
theorem q_461 : Cond.methodLink RX3 127 yX3_errorWrite ∈ ALL := kC14 _ (List.mem_of_getElem? (i := 13) rfl)
theorem q_462 : Cond.static yX3_errorWrite ∈ ALL := kC14 _ (List.mem_of_getElem? (i := 14) rfl)
theorem q_463 : Cond.methodLink RX3 130 yX3_records ∈ ALL := kC14 _ (List.mem_of_getElem? (i := 15) rfl)
theorem q_464 : Cond.instanceMethod yX3_records ∈ ALL := kC14 _ (List.mem_of_getElem? (i := 16) rfl)
theorem q_465 : Cond.selects RX3 yX3_records yX3_records ∈ ALL := kC14 _ (List.mem_of_getElem? (i := 17) rfl)
theorem q_466 : Cond.code yX3_write cX3_write 5 (some .int) ∈ ALL := kC14 _ (List.mem_of_getElem? (i := 18) rfl)
theorem q_467 : Cond.code yX3_fill cX3_fill 4 (some .int) ∈ ALL := kC14 _ (List.mem_of_getElem? (i := 19) rfl)
theorem q_468 : Cond.code yX3_anew cX3_anew 2 (some .int) ∈ ALL := kC14 _ (List.mem_of_getElem? (i := 20) rfl)
theorem q_469 : Cond.code yX3_ask cX3_ask 4 (some .int) ∈ ALL := kC14 _ (List.mem_of_getElem? (i := 21) rfl)
theorem q_470 : Cond.methodLink RX3 133 yX3_errorFail ∈ ALL := kC14 _ (List.mem_of_getElem? (i := 22) rfl)
theorem q_471 : Cond.instanceMethod yX3_errorFail ∈ ALL := kC14 _ (List.mem_of_getElem? (i := 23) rfl)
theorem q_472 : Cond.selects RX3 yX3_errorFail yX3_errorFail ∈ ALL := kC14 _ (List.mem_of_getElem? (i := 24) rfl)
theorem q_473 : Cond.methodLink RX3 136 yX3_goFail ∈ ALL := kC14 _ (List.mem_of_getElem? (i := 25) rfl)
theorem q_474 : Cond.instanceMethod yX3_goFail ∈ ALL := kC14 _ (List.mem_of_getElem? (i := 26) rfl)
theorem q_475 : Cond.selects RX3 yX3_goFail yX3_goFail ∈ ALL := kC14 _ (List.mem_of_getElem? (i := 27) rfl)
theorem q_476 : Cond.code yX3_fail cX3_fail 6 (some .int) ∈ ALL := kC14 _ (List.mem_of_getElem? (i := 28) rfl)
theorem q_477 : Cond.methodLink RX3 139 yX3_errorMend ∈ ALL := kC14 _ (List.mem_of_getElem? (i := 29) rfl)
theorem q_478 : Cond.instanceMethod yX3_errorMend ∈ ALL := kC14 _ (List.mem_of_getElem? (i := 30) rfl)
theorem q_479 : Cond.selects RX3 yX3_errorMend yX3_errorMend ∈ ALL := kC14 _ (List.mem_of_getElem? (i := 31) rfl)
theorem q_480 : Cond.code yX3_mend cX3_mend 4 (some .int) ∈ ALL := kC15 _ (List.mem_of_getElem? (i := 0) rfl)
theorem q_481 : Cond.methodLink RX3 142 yX3_errorRate ∈ ALL := kC15 _ (List.mem_of_getElem? (i := 1) rfl)
theorem q_482 : Cond.static yX3_errorRate ∈ ALL := kC15 _ (List.mem_of_getElem? (i := 2) rfl)
theorem q_483 : Cond.code yX3_rate cX3_rate 5 (some .int) ∈ ALL := kC15 _ (List.mem_of_getElem? (i := 3) rfl)
theorem q_484 : Cond.methodLink RX3 145 yX3_errorDays ∈ ALL := kC15 _ (List.mem_of_getElem? (i := 4) rfl)
theorem q_485 : Cond.instanceMethod yX3_errorDays ∈ ALL := kC15 _ (List.mem_of_getElem? (i := 5) rfl)
theorem q_486 : Cond.selects RX3 yX3_errorDays yX3_errorDays ∈ ALL := kC15 _ (List.mem_of_getElem? (i := 6) rfl)
theorem q_487 : Cond.methodLink RX3 148 yX3_endsDays ∈ ALL := kC15 _ (List.mem_of_getElem? (i := 7) rfl)
theorem q_488 : Cond.instanceMethod yX3_endsDays ∈ ALL := kC15 _ (List.mem_of_getElem? (i := 8) rfl)
theorem q_489 : Cond.selects RX3 yX3_endsDays yX3_endsDays ∈ ALL := kC15 _ (List.mem_of_getElem? (i := 9) rfl)
theorem q_490 : Cond.code yX3_days cX3_days 3 (some .int) ∈ ALL := kC15 _ (List.mem_of_getElem? (i := 10) rfl)
theorem q_491 : Cond.code yX3_set cX3_set 4 (some .int) ∈ ALL := kC15 _ (List.mem_of_getElem? (i := 11) rfl)
theorem q_492 : Cond.code yX3_undo cX3_undo 1 (some .int) ∈ ALL := kC15 _ (List.mem_of_getElem? (i := 12) rfl)
theorem q_493 : Cond.code yX3_nearer cX3_nearer 5 (some .int) ∈ ALL := kC15 _ (List.mem_of_getElem? (i := 13) rfl)
theorem q_494 : Cond.methodLink RX3 151 yX3_nearer ∈ ALL := kC15 _ (List.mem_of_getElem? (i := 14) rfl)
theorem q_495 : Cond.instanceMethod yX3_nearer ∈ ALL := kC15 _ (List.mem_of_getElem? (i := 15) rfl)
theorem q_496 : Cond.selects RX3 yX3_nearer yX3_nearer ∈ ALL := kC15 _ (List.mem_of_getElem? (i := 16) rfl)
theorem q_497 : Cond.code yX3_cell cX3_cell 5 (some .int) ∈ ALL := kC15 _ (List.mem_of_getElem? (i := 17) rfl)
theorem q_498 : Cond.code yX3_guard cX3_guard 4 (some .int) ∈ ALL := kC15 _ (List.mem_of_getElem? (i := 18) rfl)
theorem q_499 : Cond.code yX3_wrongFixed cX3_wrongFixed 4 (some .int) ∈ ALL := kC15 _ (List.mem_of_getElem? (i := 19) rfl)
theorem q_500 : Cond.methodLink RX3 154 yX3_source ∈ ALL := kC15 _ (List.mem_of_getElem? (i := 20) rfl)
theorem q_501 : Cond.instanceMethod yX3_source ∈ ALL := kC15 _ (List.mem_of_getElem? (i := 21) rfl)
theorem q_502 : Cond.selects RX3 yX3_source yX3_source ∈ ALL := kC15 _ (List.mem_of_getElem? (i := 22) rfl)
theorem q_503 : Cond.methodLink RX3 157 yX3_wrongFixed ∈ ALL := kC15 _ (List.mem_of_getElem? (i := 23) rfl)
theorem q_504 : Cond.instanceMethod yX3_wrongFixed ∈ ALL := kC15 _ (List.mem_of_getElem? (i := 24) rfl)
theorem q_505 : Cond.selects RX3 yX3_wrongFixed yX3_wrongFixed ∈ ALL := kC15 _ (List.mem_of_getElem? (i := 25) rfl)
theorem q_506 : Cond.methodLink RX3 160 yX3_wordOf ∈ ALL := kC15 _ (List.mem_of_getElem? (i := 26) rfl)
theorem q_507 : Cond.instanceMethod yX3_wordOf ∈ ALL := kC15 _ (List.mem_of_getElem? (i := 27) rfl)
theorem q_508 : Cond.selects RX3 yX3_wordOf yX3_wordOf ∈ ALL := kC15 _ (List.mem_of_getElem? (i := 28) rfl)
theorem q_509 : Cond.code yX3_row cX3_row 3 (some .int) ∈ ALL := kC15 _ (List.mem_of_getElem? (i := 29) rfl)
theorem q_510 : Cond.code yX3_table cX3_table 3 (some .int) ∈ ALL := kC15 _ (List.mem_of_getElem? (i := 30) rfl)
theorem q_511 : Cond.constant RX3 163 (-1000004) ∈ ALL := kC15 _ (List.mem_of_getElem? (i := 31) rfl)
theorem q_512 : Cond.code yX3_wrongIn cX3_wrongIn 4 (some .int) ∈ ALL := kC16 _ (List.mem_of_getElem? (i := 0) rfl)
theorem q_513 : Cond.code yX3_rightFor cX3_rightFor 3 (some .int) ∈ ALL := kC16 _ (List.mem_of_getElem? (i := 1) rfl)
theorem q_514 : Cond.code yX3_lostBy cX3_lostBy 4 (some .int) ∈ ALL := kC16 _ (List.mem_of_getElem? (i := 2) rfl)
theorem q_515 : Cond.methodLink RX3 164 yX3_lostBy ∈ ALL := kC16 _ (List.mem_of_getElem? (i := 3) rfl)
theorem q_516 : Cond.instanceMethod yX3_lostBy ∈ ALL := kC16 _ (List.mem_of_getElem? (i := 4) rfl)
theorem q_517 : Cond.selects RX3 yX3_lostBy yX3_lostBy ∈ ALL := kC16 _ (List.mem_of_getElem? (i := 5) rfl)
theorem q_518 : Cond.code yX3_safeAge cX3_safeAge 2 (some .int) ∈ ALL := kC16 _ (List.mem_of_getElem? (i := 6) rfl)
theorem q_519 : Cond.code yX3_worst cX3_worst 6 (some .int) ∈ ALL := kC16 _ (List.mem_of_getElem? (i := 7) rfl)
theorem q_520 : Cond.constantFloat RX3 167 (1111490560) ∈ ALL := kC16 _ (List.mem_of_getElem? (i := 8) rfl)
theorem q_521 : Cond.methodLink RX3 168 yJxf58ca_floatToIntBits_5c35a ∈ ALL := kC16 _ (List.mem_of_getElem? (i := 9) rfl)
theorem q_522 : Cond.static yJxf58ca_floatToIntBits_5c35a ∈ ALL := kC16 _ (List.mem_of_getElem? (i := 10) rfl)
theorem q_523 : Cond.initialized RJxf58ca ∈ ALL := kC16 _ (List.mem_of_getElem? (i := 11) rfl)
theorem q_524 : Cond.code yJxf58ca_floatToIntBits_5c35a cJxf58ca_floatToIntBits_5c35a 1 (some .int) ∈ ALL := kC16 _ (List.mem_of_getElem? (i := 12) rfl)
theorem q_525 : Cond.methodLink RJxf58ca 74 ⟨"java/lang/Float", "floatToRawIntBits", "(F)I"⟩ ∈ ALL := kC16 _ (List.mem_of_getElem? (i := 13) rfl)
theorem q_526 : Cond.native ⟨"java/lang/Float", "floatToRawIntBits", "(F)I"⟩ ∈ ALL := kC16 _ (List.mem_of_getElem? (i := 14) rfl)
theorem q_527 : Cond.static ⟨"java/lang/Float", "floatToRawIntBits", "(F)I"⟩ ∈ ALL := kC16 _ (List.mem_of_getElem? (i := 15) rfl)
theorem q_528 : Cond.initialized "java/lang/Float" ∈ ALL := kC16 _ (List.mem_of_getElem? (i := 16) rfl)
theorem q_529 : Cond.constant RJxf58ca 77 (2143289344) ∈ ALL := kC16 _ (List.mem_of_getElem? (i := 17) rfl)
theorem q_530 : Cond.methodLink RJxf58ca 59 yJxf58ca_isNaN_12338 ∈ ALL := kC16 _ (List.mem_of_getElem? (i := 18) rfl)
theorem q_531 : Cond.static yJxf58ca_isNaN_12338 ∈ ALL := kC16 _ (List.mem_of_getElem? (i := 19) rfl)
theorem q_532 : Cond.code yJxf58ca_isNaN_12338 cJxf58ca_isNaN_12338 1 (some .boolean) ∈ ALL := kC16 _ (List.mem_of_getElem? (i := 20) rfl)
theorem q_533 : Cond.code yX3_mean cX3_mean 3 (some .int) ∈ ALL := kC16 _ (List.mem_of_getElem? (i := 21) rfl)
theorem q_534 : Cond.code yX3_share cX3_share 2 (some .int) ∈ ALL := kC16 _ (List.mem_of_getElem? (i := 22) rfl)
theorem q_535 : Cond.code yX3_wrongAll cX3_wrongAll 3 (some .int) ∈ ALL := kC16 _ (List.mem_of_getElem? (i := 23) rfl)
theorem q_536 : Cond.code yX3_isOf cX3_isOf 3 (some .boolean) ∈ ALL := kC16 _ (List.mem_of_getElem? (i := 24) rfl)
theorem q_537 : Cond.methodLink RX3 174 yX3_isOf ∈ ALL := kC16 _ (List.mem_of_getElem? (i := 25) rfl)
theorem q_538 : Cond.instanceMethod yX3_isOf ∈ ALL := kC16 _ (List.mem_of_getElem? (i := 26) rfl)
theorem q_539 : Cond.selects RX3 yX3_isOf yX3_isOf ∈ ALL := kC16 _ (List.mem_of_getElem? (i := 27) rfl)
theorem q_540 : Cond.code yX3_setOf cX3_setOf 4 (some .int) ∈ ALL := kC16 _ (List.mem_of_getElem? (i := 28) rfl)
theorem q_541 : Cond.code yX3_failed cX3_failed 3 (some .int) ∈ ALL := kC16 _ (List.mem_of_getElem? (i := 29) rfl)
theorem q_542 : Cond.code yX3_pairs cX3_pairs 3 (some .int) ∈ ALL := kC16 _ (List.mem_of_getElem? (i := 30) rfl)
theorem q_543 : Cond.code yX3_ofLevel cX3_ofLevel 4 (some .int) ∈ ALL := kC16 _ (List.mem_of_getElem? (i := 31) rfl)
theorem q_544 : Cond.fieldLink RX3 193 "DriftingLevelsModel" "length" "I" ∈ ALL := kC17 _ (List.mem_of_getElem? (i := 0) rfl)
theorem q_545 : Cond.methodLink RX3 178 yX3_wrongAll ∈ ALL := kC17 _ (List.mem_of_getElem? (i := 1) rfl)
theorem q_546 : Cond.instanceMethod yX3_wrongAll ∈ ALL := kC17 _ (List.mem_of_getElem? (i := 2) rfl)
theorem q_547 : Cond.selects RX3 yX3_wrongAll yX3_wrongAll ∈ ALL := kC17 _ (List.mem_of_getElem? (i := 3) rfl)
theorem q_548 : Cond.methodLink RX3 181 yX3_setOf ∈ ALL := kC17 _ (List.mem_of_getElem? (i := 4) rfl)
theorem q_549 : Cond.instanceMethod yX3_setOf ∈ ALL := kC17 _ (List.mem_of_getElem? (i := 5) rfl)
theorem q_550 : Cond.selects RX3 yX3_setOf yX3_setOf ∈ ALL := kC17 _ (List.mem_of_getElem? (i := 6) rfl)
theorem q_551 : Cond.methodLink RX3 184 yX3_failed ∈ ALL := kC17 _ (List.mem_of_getElem? (i := 7) rfl)
theorem q_552 : Cond.instanceMethod yX3_failed ∈ ALL := kC17 _ (List.mem_of_getElem? (i := 8) rfl)
theorem q_553 : Cond.selects RX3 yX3_failed yX3_failed ∈ ALL := kC17 _ (List.mem_of_getElem? (i := 9) rfl)
theorem q_554 : Cond.methodLink RX3 187 yX3_pairs ∈ ALL := kC17 _ (List.mem_of_getElem? (i := 10) rfl)
theorem q_555 : Cond.instanceMethod yX3_pairs ∈ ALL := kC17 _ (List.mem_of_getElem? (i := 11) rfl)
theorem q_556 : Cond.selects RX3 yX3_pairs yX3_pairs ∈ ALL := kC17 _ (List.mem_of_getElem? (i := 12) rfl)
theorem q_557 : Cond.methodLink RX3 190 yX3_ofLevel ∈ ALL := kC17 _ (List.mem_of_getElem? (i := 13) rfl)
theorem q_558 : Cond.instanceMethod yX3_ofLevel ∈ ALL := kC17 _ (List.mem_of_getElem? (i := 14) rfl)
theorem q_559 : Cond.selects RX3 yX3_ofLevel yX3_ofLevel ∈ ALL := kC17 _ (List.mem_of_getElem? (i := 15) rfl)
theorem q_560 : Cond.code yX3_count cX3_count 2 (some .int) ∈ ALL := kC17 _ (List.mem_of_getElem? (i := 16) rfl)
theorem q_561 : Cond.code yX3_type cX3_type 2 (some .int) ∈ ALL := kC17 _ (List.mem_of_getElem? (i := 17) rfl)
theorem q_562 : Cond.code yX3_clearText cX3_clearText 2 (some .int) ∈ ALL := kC17 _ (List.mem_of_getElem? (i := 18) rfl)
theorem q_563 : Cond.fieldLink RX3 196 "DriftingLevelsModel" "spot" "I" ∈ ALL := kC17 _ (List.mem_of_getElem? (i := 19) rfl)
theorem q_564 : Cond.code yX3_here cX3_here 1 (some .int) ∈ ALL := kC17 _ (List.mem_of_getElem? (i := 20) rfl)
theorem q_565 : Cond.fieldLink RX3 199 "DriftingLevelsModel" "isForm" "Z" ∈ ALL := kC17 _ (List.mem_of_getElem? (i := 21) rfl)
theorem q_566 : Cond.code yX3_takes cX3_takes 2 none ∈ ALL := kC17 _ (List.mem_of_getElem? (i := 22) rfl)
theorem q_567 : Cond.methodLink RX3 203 yX3_here ∈ ALL := kC17 _ (List.mem_of_getElem? (i := 23) rfl)
theorem q_568 : Cond.instanceMethod yX3_here ∈ ALL := kC17 _ (List.mem_of_getElem? (i := 24) rfl)
theorem q_569 : Cond.selects RX3 yX3_here yX3_here ∈ ALL := kC17 _ (List.mem_of_getElem? (i := 25) rfl)
theorem q_570 : Cond.code yX3_takesNumber cX3_takesNumber 4 none ∈ ALL := kC17 _ (List.mem_of_getElem? (i := 26) rfl)
theorem q_571 : Cond.fieldLink RX3 206 "DriftingLevelsModel" "begin" "I" ∈ ALL := kC17 _ (List.mem_of_getElem? (i := 27) rfl)
theorem q_572 : Cond.fieldLink RX3 209 "DriftingLevelsModel" "letter" "I" ∈ ALL := kC17 _ (List.mem_of_getElem? (i := 28) rfl)
theorem q_573 : Cond.methodLink RX3 212 yX3_takes ∈ ALL := kC17 _ (List.mem_of_getElem? (i := 29) rfl)
theorem q_574 : Cond.instanceMethod yX3_takes ∈ ALL := kC17 _ (List.mem_of_getElem? (i := 30) rfl)
theorem q_575 : Cond.selects RX3 yX3_takes yX3_takes ∈ ALL := kC17 _ (List.mem_of_getElem? (i := 31) rfl)
theorem q_576 : Cond.methodLink RX3 216 yX3_takesNumber ∈ ALL := kC18 _ (List.mem_of_getElem? (i := 0) rfl)
theorem q_577 : Cond.instanceMethod yX3_takesNumber ∈ ALL := kC18 _ (List.mem_of_getElem? (i := 1) rfl)
theorem q_578 : Cond.selects RX3 yX3_takesNumber yX3_takesNumber ∈ ALL := kC18 _ (List.mem_of_getElem? (i := 2) rfl)
theorem q_579 : Cond.code yX3_takesOrder cX3_takesOrder 3 none ∈ ALL := kC18 _ (List.mem_of_getElem? (i := 3) rfl)
theorem q_580 : Cond.code yX3_errorOfOrder cX3_errorOfOrder 1 (some .int) ∈ ALL := kC18 _ (List.mem_of_getElem? (i := 4) rfl)
theorem q_581 : Cond.code yX3_doesOrder cX3_doesOrder 2 none ∈ ALL := kC18 _ (List.mem_of_getElem? (i := 5) rfl)
theorem q_582 : Cond.fieldLink RX3 219 "DriftingLevelsModel" "faultReason" "I" ∈ ALL := kC18 _ (List.mem_of_getElem? (i := 6) rfl)
theorem q_583 : Cond.fieldLink RX3 228 "DriftingLevelsModel" "faultCause" "I" ∈ ALL := kC18 _ (List.mem_of_getElem? (i := 7) rfl)
theorem q_584 : Cond.methodLink RX3 222 yX3_takesOrder ∈ ALL := kC18 _ (List.mem_of_getElem? (i := 8) rfl)
theorem q_585 : Cond.instanceMethod yX3_takesOrder ∈ ALL := kC18 _ (List.mem_of_getElem? (i := 9) rfl)
theorem q_586 : Cond.selects RX3 yX3_takesOrder yX3_takesOrder ∈ ALL := kC18 _ (List.mem_of_getElem? (i := 10) rfl)
theorem q_587 : Cond.methodLink RX3 225 yX3_errorOfOrder ∈ ALL := kC18 _ (List.mem_of_getElem? (i := 11) rfl)
theorem q_588 : Cond.instanceMethod yX3_errorOfOrder ∈ ALL := kC18 _ (List.mem_of_getElem? (i := 12) rfl)
theorem q_589 : Cond.selects RX3 yX3_errorOfOrder yX3_errorOfOrder ∈ ALL := kC18 _ (List.mem_of_getElem? (i := 13) rfl)
theorem q_590 : Cond.methodLink RX3 231 yX3_doesOrder ∈ ALL := kC18 _ (List.mem_of_getElem? (i := 14) rfl)
theorem q_591 : Cond.instanceMethod yX3_doesOrder ∈ ALL := kC18 _ (List.mem_of_getElem? (i := 15) rfl)
theorem q_592 : Cond.selects RX3 yX3_doesOrder yX3_doesOrder ∈ ALL := kC18 _ (List.mem_of_getElem? (i := 16) rfl)
theorem q_593 : Cond.code yX3_doesAll cX3_doesAll 3 (some .int) ∈ ALL := kC18 _ (List.mem_of_getElem? (i := 17) rfl)
theorem q_594 : Cond.methodLink RX3 234 yX3_doesAll ∈ ALL := kC18 _ (List.mem_of_getElem? (i := 18) rfl)
theorem q_595 : Cond.instanceMethod yX3_doesAll ∈ ALL := kC18 _ (List.mem_of_getElem? (i := 19) rfl)
theorem q_596 : Cond.selects RX3 yX3_doesAll yX3_doesAll ∈ ALL := kC18 _ (List.mem_of_getElem? (i := 20) rfl)
theorem q_597 : Cond.code yX3_fault cX3_fault 3 (some .int) ∈ ALL := kC18 _ (List.mem_of_getElem? (i := 21) rfl)
theorem q_598 : Cond.code yX3_play cX3_play 2 (some .int) ∈ ALL := kC18 _ (List.mem_of_getElem? (i := 22) rfl)
theorem q_599 : Cond.classLink RL 7 RX2 ∈ ALL := kC18 _ (List.mem_of_getElem? (i := 23) rfl)
theorem q_600 : Cond.instantiable RX2 10 ∈ ALL := kC18 _ (List.mem_of_getElem? (i := 24) rfl)
theorem q_601 : Cond.classLink RL 10 RX3 ∈ ALL := kC18 _ (List.mem_of_getElem? (i := 25) rfl)
theorem q_602 : Cond.instantiable RX3 14 ∈ ALL := kC18 _ (List.mem_of_getElem? (i := 26) rfl)
theorem q_603 : Cond.methodLink RL 9 yX2_init ∈ ALL := kC18 _ (List.mem_of_getElem? (i := 27) rfl)
theorem q_604 : Cond.instanceMethod yX2_init ∈ ALL := kC18 _ (List.mem_of_getElem? (i := 28) rfl)
theorem q_605 : Cond.methodLink RL 12 yX3_init ∈ ALL := kC18 _ (List.mem_of_getElem? (i := 29) rfl)
theorem q_606 : Cond.instanceMethod yX3_init ∈ ALL := kC18 _ (List.mem_of_getElem? (i := 30) rfl)
theorem q_607 : Cond.methodLink RL 13 yX2_write ∈ ALL := kC18 _ (List.mem_of_getElem? (i := 31) rfl)
theorem q_608 : Cond.instanceMethod yX2_write ∈ ALL := kC19 _ (List.mem_of_getElem? (i := 0) rfl)
theorem q_609 : Cond.selects RX2 yX2_write yX2_write ∈ ALL := kC19 _ (List.mem_of_getElem? (i := 1) rfl)
theorem q_610 : Cond.methodLink RL 17 yX3_write ∈ ALL := kC19 _ (List.mem_of_getElem? (i := 2) rfl)
theorem q_611 : Cond.instanceMethod yX3_write ∈ ALL := kC19 _ (List.mem_of_getElem? (i := 3) rfl)
theorem q_612 : Cond.selects RX3 yX3_write yX3_write ∈ ALL := kC19 _ (List.mem_of_getElem? (i := 4) rfl)
theorem q_613 : Cond.methodLink RL 18 yX2_fill ∈ ALL := kC19 _ (List.mem_of_getElem? (i := 5) rfl)
theorem q_614 : Cond.instanceMethod yX2_fill ∈ ALL := kC19 _ (List.mem_of_getElem? (i := 6) rfl)
theorem q_615 : Cond.selects RX2 yX2_fill yX2_fill ∈ ALL := kC19 _ (List.mem_of_getElem? (i := 7) rfl)
theorem q_616 : Cond.methodLink RL 22 yX3_fill ∈ ALL := kC19 _ (List.mem_of_getElem? (i := 8) rfl)
theorem q_617 : Cond.instanceMethod yX3_fill ∈ ALL := kC19 _ (List.mem_of_getElem? (i := 9) rfl)
theorem q_618 : Cond.selects RX3 yX3_fill yX3_fill ∈ ALL := kC19 _ (List.mem_of_getElem? (i := 10) rfl)
theorem q_619 : Cond.methodLink RL 23 yX2_anew ∈ ALL := kC19 _ (List.mem_of_getElem? (i := 11) rfl)
theorem q_620 : Cond.instanceMethod yX2_anew ∈ ALL := kC19 _ (List.mem_of_getElem? (i := 12) rfl)
theorem q_621 : Cond.selects RX2 yX2_anew yX2_anew ∈ ALL := kC19 _ (List.mem_of_getElem? (i := 13) rfl)
theorem q_622 : Cond.methodLink RL 27 yX3_anew ∈ ALL := kC19 _ (List.mem_of_getElem? (i := 14) rfl)
theorem q_623 : Cond.instanceMethod yX3_anew ∈ ALL := kC19 _ (List.mem_of_getElem? (i := 15) rfl)
theorem q_624 : Cond.selects RX3 yX3_anew yX3_anew ∈ ALL := kC19 _ (List.mem_of_getElem? (i := 16) rfl)
theorem q_625 : Cond.methodLink RL 28 yX2_ask ∈ ALL := kC19 _ (List.mem_of_getElem? (i := 17) rfl)
theorem q_626 : Cond.instanceMethod yX2_ask ∈ ALL := kC19 _ (List.mem_of_getElem? (i := 18) rfl)
theorem q_627 : Cond.selects RX2 yX2_ask yX2_ask ∈ ALL := kC19 _ (List.mem_of_getElem? (i := 19) rfl)
theorem q_628 : Cond.methodLink RL 31 yX3_ask ∈ ALL := kC19 _ (List.mem_of_getElem? (i := 20) rfl)
theorem q_629 : Cond.instanceMethod yX3_ask ∈ ALL := kC19 _ (List.mem_of_getElem? (i := 21) rfl)
theorem q_630 : Cond.selects RX3 yX3_ask yX3_ask ∈ ALL := kC19 _ (List.mem_of_getElem? (i := 22) rfl)
theorem q_631 : Cond.methodLink RL 32 yX2_fail ∈ ALL := kC19 _ (List.mem_of_getElem? (i := 23) rfl)
theorem q_632 : Cond.instanceMethod yX2_fail ∈ ALL := kC19 _ (List.mem_of_getElem? (i := 24) rfl)
theorem q_633 : Cond.selects RX2 yX2_fail yX2_fail ∈ ALL := kC19 _ (List.mem_of_getElem? (i := 25) rfl)
theorem q_634 : Cond.methodLink RL 35 yX3_fail ∈ ALL := kC19 _ (List.mem_of_getElem? (i := 26) rfl)
theorem q_635 : Cond.instanceMethod yX3_fail ∈ ALL := kC19 _ (List.mem_of_getElem? (i := 27) rfl)
theorem q_636 : Cond.selects RX3 yX3_fail yX3_fail ∈ ALL := kC19 _ (List.mem_of_getElem? (i := 28) rfl)
theorem q_637 : Cond.methodLink RL 36 yX2_mend ∈ ALL := kC19 _ (List.mem_of_getElem? (i := 29) rfl)
theorem q_638 : Cond.instanceMethod yX2_mend ∈ ALL := kC19 _ (List.mem_of_getElem? (i := 30) rfl)
theorem q_639 : Cond.selects RX2 yX2_mend yX2_mend ∈ ALL := kC19 _ (List.mem_of_getElem? (i := 31) rfl)
theorem q_640 : Cond.methodLink RL 39 yX3_mend ∈ ALL := kC20 _ (List.mem_of_getElem? (i := 0) rfl)
theorem q_641 : Cond.instanceMethod yX3_mend ∈ ALL := kC20 _ (List.mem_of_getElem? (i := 1) rfl)
theorem q_642 : Cond.selects RX3 yX3_mend yX3_mend ∈ ALL := kC20 _ (List.mem_of_getElem? (i := 2) rfl)
theorem q_643 : Cond.methodLink RL 40 yX2_rate ∈ ALL := kC20 _ (List.mem_of_getElem? (i := 3) rfl)
theorem q_644 : Cond.instanceMethod yX2_rate ∈ ALL := kC20 _ (List.mem_of_getElem? (i := 4) rfl)
theorem q_645 : Cond.selects RX2 yX2_rate yX2_rate ∈ ALL := kC20 _ (List.mem_of_getElem? (i := 5) rfl)
theorem q_646 : Cond.methodLink RL 43 yX3_rate ∈ ALL := kC20 _ (List.mem_of_getElem? (i := 6) rfl)
theorem q_647 : Cond.instanceMethod yX3_rate ∈ ALL := kC20 _ (List.mem_of_getElem? (i := 7) rfl)
theorem q_648 : Cond.selects RX3 yX3_rate yX3_rate ∈ ALL := kC20 _ (List.mem_of_getElem? (i := 8) rfl)
theorem q_649 : Cond.methodLink RL 44 yX2_days ∈ ALL := kC20 _ (List.mem_of_getElem? (i := 9) rfl)
theorem q_650 : Cond.instanceMethod yX2_days ∈ ALL := kC20 _ (List.mem_of_getElem? (i := 10) rfl)
theorem q_651 : Cond.selects RX2 yX2_days yX2_days ∈ ALL := kC20 _ (List.mem_of_getElem? (i := 11) rfl)
theorem q_652 : Cond.methodLink RL 47 yX3_days ∈ ALL := kC20 _ (List.mem_of_getElem? (i := 12) rfl)
theorem q_653 : Cond.instanceMethod yX3_days ∈ ALL := kC20 _ (List.mem_of_getElem? (i := 13) rfl)
theorem q_654 : Cond.selects RX3 yX3_days yX3_days ∈ ALL := kC20 _ (List.mem_of_getElem? (i := 14) rfl)
theorem q_655 : Cond.methodLink RL 48 yX2_set ∈ ALL := kC20 _ (List.mem_of_getElem? (i := 15) rfl)
theorem q_656 : Cond.instanceMethod yX2_set ∈ ALL := kC20 _ (List.mem_of_getElem? (i := 16) rfl)
theorem q_657 : Cond.selects RX2 yX2_set yX2_set ∈ ALL := kC20 _ (List.mem_of_getElem? (i := 17) rfl)
theorem q_658 : Cond.methodLink RL 51 yX3_set ∈ ALL := kC20 _ (List.mem_of_getElem? (i := 18) rfl)
theorem q_659 : Cond.instanceMethod yX3_set ∈ ALL := kC20 _ (List.mem_of_getElem? (i := 19) rfl)
theorem q_660 : Cond.selects RX3 yX3_set yX3_set ∈ ALL := kC20 _ (List.mem_of_getElem? (i := 20) rfl)
theorem q_661 : Cond.methodLink RL 52 yX2_cell ∈ ALL := kC20 _ (List.mem_of_getElem? (i := 21) rfl)
theorem q_662 : Cond.instanceMethod yX2_cell ∈ ALL := kC20 _ (List.mem_of_getElem? (i := 22) rfl)
theorem q_663 : Cond.selects RX2 yX2_cell yX2_cell ∈ ALL := kC20 _ (List.mem_of_getElem? (i := 23) rfl)
theorem q_664 : Cond.methodLink RL 55 yX3_cell ∈ ALL := kC20 _ (List.mem_of_getElem? (i := 24) rfl)
theorem q_665 : Cond.instanceMethod yX3_cell ∈ ALL := kC20 _ (List.mem_of_getElem? (i := 25) rfl)
theorem q_666 : Cond.selects RX3 yX3_cell yX3_cell ∈ ALL := kC20 _ (List.mem_of_getElem? (i := 26) rfl)
theorem q_667 : Cond.methodLink RL 56 yX2_guard ∈ ALL := kC20 _ (List.mem_of_getElem? (i := 27) rfl)
theorem q_668 : Cond.instanceMethod yX2_guard ∈ ALL := kC20 _ (List.mem_of_getElem? (i := 28) rfl)
theorem q_669 : Cond.selects RX2 yX2_guard yX2_guard ∈ ALL := kC20 _ (List.mem_of_getElem? (i := 29) rfl)
theorem q_670 : Cond.methodLink RL 59 yX3_guard ∈ ALL := kC20 _ (List.mem_of_getElem? (i := 30) rfl)
theorem q_671 : Cond.instanceMethod yX3_guard ∈ ALL := kC20 _ (List.mem_of_getElem? (i := 31) rfl)
theorem q_672 : Cond.selects RX3 yX3_guard yX3_guard ∈ ALL := kC21 _ (List.mem_of_getElem? (i := 0) rfl)
theorem q_673 : Cond.methodLink RL 60 yX2_row ∈ ALL := kC21 _ (List.mem_of_getElem? (i := 1) rfl)
theorem q_674 : Cond.instanceMethod yX2_row ∈ ALL := kC21 _ (List.mem_of_getElem? (i := 2) rfl)
theorem q_675 : Cond.selects RX2 yX2_row yX2_row ∈ ALL := kC21 _ (List.mem_of_getElem? (i := 3) rfl)
theorem q_676 : Cond.methodLink RL 63 yX3_row ∈ ALL := kC21 _ (List.mem_of_getElem? (i := 4) rfl)
theorem q_677 : Cond.instanceMethod yX3_row ∈ ALL := kC21 _ (List.mem_of_getElem? (i := 5) rfl)
theorem q_678 : Cond.selects RX3 yX3_row yX3_row ∈ ALL := kC21 _ (List.mem_of_getElem? (i := 6) rfl)
theorem q_679 : Cond.methodLink RL 64 yX2_table ∈ ALL := kC21 _ (List.mem_of_getElem? (i := 7) rfl)
theorem q_680 : Cond.instanceMethod yX2_table ∈ ALL := kC21 _ (List.mem_of_getElem? (i := 8) rfl)
theorem q_681 : Cond.selects RX2 yX2_table yX2_table ∈ ALL := kC21 _ (List.mem_of_getElem? (i := 9) rfl)
theorem q_682 : Cond.methodLink RL 67 yX3_table ∈ ALL := kC21 _ (List.mem_of_getElem? (i := 10) rfl)
theorem q_683 : Cond.instanceMethod yX3_table ∈ ALL := kC21 _ (List.mem_of_getElem? (i := 11) rfl)
theorem q_684 : Cond.selects RX3 yX3_table yX3_table ∈ ALL := kC21 _ (List.mem_of_getElem? (i := 12) rfl)
theorem q_685 : Cond.methodLink RL 68 yX2_wrongIn ∈ ALL := kC21 _ (List.mem_of_getElem? (i := 13) rfl)
theorem q_686 : Cond.instanceMethod yX2_wrongIn ∈ ALL := kC21 _ (List.mem_of_getElem? (i := 14) rfl)
theorem q_687 : Cond.selects RX2 yX2_wrongIn yX2_wrongIn ∈ ALL := kC21 _ (List.mem_of_getElem? (i := 15) rfl)
theorem q_688 : Cond.methodLink RL 71 yX3_wrongIn ∈ ALL := kC21 _ (List.mem_of_getElem? (i := 16) rfl)
theorem q_689 : Cond.instanceMethod yX3_wrongIn ∈ ALL := kC21 _ (List.mem_of_getElem? (i := 17) rfl)
theorem q_690 : Cond.selects RX3 yX3_wrongIn yX3_wrongIn ∈ ALL := kC21 _ (List.mem_of_getElem? (i := 18) rfl)
theorem q_691 : Cond.methodLink RL 72 yX2_rightFor ∈ ALL := kC21 _ (List.mem_of_getElem? (i := 19) rfl)
theorem q_692 : Cond.instanceMethod yX2_rightFor ∈ ALL := kC21 _ (List.mem_of_getElem? (i := 20) rfl)
theorem q_693 : Cond.selects RX2 yX2_rightFor yX2_rightFor ∈ ALL := kC21 _ (List.mem_of_getElem? (i := 21) rfl)
theorem q_694 : Cond.methodLink RL 75 yX3_rightFor ∈ ALL := kC21 _ (List.mem_of_getElem? (i := 22) rfl)
theorem q_695 : Cond.instanceMethod yX3_rightFor ∈ ALL := kC21 _ (List.mem_of_getElem? (i := 23) rfl)
theorem q_696 : Cond.selects RX3 yX3_rightFor yX3_rightFor ∈ ALL := kC21 _ (List.mem_of_getElem? (i := 24) rfl)
theorem q_697 : Cond.methodLink RL 76 yX2_safeAge ∈ ALL := kC21 _ (List.mem_of_getElem? (i := 25) rfl)
theorem q_698 : Cond.instanceMethod yX2_safeAge ∈ ALL := kC21 _ (List.mem_of_getElem? (i := 26) rfl)
theorem q_699 : Cond.selects RX2 yX2_safeAge yX2_safeAge ∈ ALL := kC21 _ (List.mem_of_getElem? (i := 27) rfl)
theorem q_700 : Cond.methodLink RL 80 yX3_safeAge ∈ ALL := kC21 _ (List.mem_of_getElem? (i := 28) rfl)
theorem q_701 : Cond.instanceMethod yX3_safeAge ∈ ALL := kC21 _ (List.mem_of_getElem? (i := 29) rfl)
theorem q_702 : Cond.selects RX3 yX3_safeAge yX3_safeAge ∈ ALL := kC21 _ (List.mem_of_getElem? (i := 30) rfl)
theorem q_703 : Cond.methodLink RL 81 yX2_worst ∈ ALL := kC21 _ (List.mem_of_getElem? (i := 31) rfl)
theorem q_704 : Cond.instanceMethod yX2_worst ∈ ALL := kC22 _ (List.mem_of_getElem? (i := 0) rfl)
theorem q_705 : Cond.selects RX2 yX2_worst yX2_worst ∈ ALL := kC22 _ (List.mem_of_getElem? (i := 1) rfl)
theorem q_706 : Cond.methodLink RL 84 yX3_worst ∈ ALL := kC22 _ (List.mem_of_getElem? (i := 2) rfl)
theorem q_707 : Cond.instanceMethod yX3_worst ∈ ALL := kC22 _ (List.mem_of_getElem? (i := 3) rfl)
theorem q_708 : Cond.selects RX3 yX3_worst yX3_worst ∈ ALL := kC22 _ (List.mem_of_getElem? (i := 4) rfl)
theorem q_709 : Cond.methodLink RL 85 yX2_mean ∈ ALL := kC22 _ (List.mem_of_getElem? (i := 5) rfl)
theorem q_710 : Cond.instanceMethod yX2_mean ∈ ALL := kC22 _ (List.mem_of_getElem? (i := 6) rfl)
theorem q_711 : Cond.selects RX2 yX2_mean yX2_mean ∈ ALL := kC22 _ (List.mem_of_getElem? (i := 7) rfl)
theorem q_712 : Cond.methodLink RL 88 yX3_mean ∈ ALL := kC22 _ (List.mem_of_getElem? (i := 8) rfl)
theorem q_713 : Cond.instanceMethod yX3_mean ∈ ALL := kC22 _ (List.mem_of_getElem? (i := 9) rfl)
theorem q_714 : Cond.selects RX3 yX3_mean yX3_mean ∈ ALL := kC22 _ (List.mem_of_getElem? (i := 10) rfl)
theorem q_715 : Cond.methodLink RL 89 yX2_share ∈ ALL := kC22 _ (List.mem_of_getElem? (i := 11) rfl)
theorem q_716 : Cond.instanceMethod yX2_share ∈ ALL := kC22 _ (List.mem_of_getElem? (i := 12) rfl)
theorem q_717 : Cond.selects RX2 yX2_share yX2_share ∈ ALL := kC22 _ (List.mem_of_getElem? (i := 13) rfl)
theorem q_718 : Cond.methodLink RL 92 yX3_share ∈ ALL := kC22 _ (List.mem_of_getElem? (i := 14) rfl)
theorem q_719 : Cond.instanceMethod yX3_share ∈ ALL := kC22 _ (List.mem_of_getElem? (i := 15) rfl)
theorem q_720 : Cond.selects RX3 yX3_share yX3_share ∈ ALL := kC22 _ (List.mem_of_getElem? (i := 16) rfl)
theorem q_721 : Cond.methodLink RL 93 yX2_count ∈ ALL := kC22 _ (List.mem_of_getElem? (i := 17) rfl)
theorem q_722 : Cond.instanceMethod yX2_count ∈ ALL := kC22 _ (List.mem_of_getElem? (i := 18) rfl)
theorem q_723 : Cond.selects RX2 yX2_count yX2_count ∈ ALL := kC22 _ (List.mem_of_getElem? (i := 19) rfl)
theorem q_724 : Cond.methodLink RL 96 yX3_count ∈ ALL := kC22 _ (List.mem_of_getElem? (i := 20) rfl)
theorem q_725 : Cond.instanceMethod yX3_count ∈ ALL := kC22 _ (List.mem_of_getElem? (i := 21) rfl)
theorem q_726 : Cond.selects RX3 yX3_count yX3_count ∈ ALL := kC22 _ (List.mem_of_getElem? (i := 22) rfl)
theorem q_727 : Cond.methodLink RL 97 yX2_undo ∈ ALL := kC22 _ (List.mem_of_getElem? (i := 23) rfl)
theorem q_728 : Cond.instanceMethod yX2_undo ∈ ALL := kC22 _ (List.mem_of_getElem? (i := 24) rfl)
theorem q_729 : Cond.selects RX2 yX2_undo yX2_undo ∈ ALL := kC22 _ (List.mem_of_getElem? (i := 25) rfl)
theorem q_730 : Cond.methodLink RL 100 yX3_undo ∈ ALL := kC22 _ (List.mem_of_getElem? (i := 26) rfl)
theorem q_731 : Cond.instanceMethod yX3_undo ∈ ALL := kC22 _ (List.mem_of_getElem? (i := 27) rfl)
theorem q_732 : Cond.selects RX3 yX3_undo yX3_undo ∈ ALL := kC22 _ (List.mem_of_getElem? (i := 28) rfl)
theorem q_733 : Cond.methodLink RL 101 yX2_type ∈ ALL := kC22 _ (List.mem_of_getElem? (i := 29) rfl)
theorem q_734 : Cond.instanceMethod yX2_type ∈ ALL := kC22 _ (List.mem_of_getElem? (i := 30) rfl)
theorem q_735 : Cond.selects RX2 yX2_type yX2_type ∈ ALL := kC22 _ (List.mem_of_getElem? (i := 31) rfl)
theorem q_736 : Cond.methodLink RL 104 yX3_type ∈ ALL := kC23 _ (List.mem_of_getElem? (i := 0) rfl)
theorem q_737 : Cond.instanceMethod yX3_type ∈ ALL := kC23 _ (List.mem_of_getElem? (i := 1) rfl)
theorem q_738 : Cond.selects RX3 yX3_type yX3_type ∈ ALL := kC23 _ (List.mem_of_getElem? (i := 2) rfl)
theorem q_739 : Cond.methodLink RL 105 yX2_clearText ∈ ALL := kC23 _ (List.mem_of_getElem? (i := 3) rfl)
theorem q_740 : Cond.instanceMethod yX2_clearText ∈ ALL := kC23 _ (List.mem_of_getElem? (i := 4) rfl)
theorem q_741 : Cond.selects RX2 yX2_clearText yX2_clearText ∈ ALL := kC23 _ (List.mem_of_getElem? (i := 5) rfl)
theorem q_742 : Cond.methodLink RL 108 yX3_clearText ∈ ALL := kC23 _ (List.mem_of_getElem? (i := 6) rfl)
theorem q_743 : Cond.instanceMethod yX3_clearText ∈ ALL := kC23 _ (List.mem_of_getElem? (i := 7) rfl)
theorem q_744 : Cond.selects RX3 yX3_clearText yX3_clearText ∈ ALL := kC23 _ (List.mem_of_getElem? (i := 8) rfl)
theorem q_745 : Cond.methodLink RL 109 yX2_fault ∈ ALL := kC23 _ (List.mem_of_getElem? (i := 9) rfl)
theorem q_746 : Cond.instanceMethod yX2_fault ∈ ALL := kC23 _ (List.mem_of_getElem? (i := 10) rfl)
theorem q_747 : Cond.selects RX2 yX2_fault yX2_fault ∈ ALL := kC23 _ (List.mem_of_getElem? (i := 11) rfl)
theorem q_748 : Cond.methodLink RL 112 yX3_fault ∈ ALL := kC23 _ (List.mem_of_getElem? (i := 12) rfl)
theorem q_749 : Cond.instanceMethod yX3_fault ∈ ALL := kC23 _ (List.mem_of_getElem? (i := 13) rfl)
theorem q_750 : Cond.selects RX3 yX3_fault yX3_fault ∈ ALL := kC23 _ (List.mem_of_getElem? (i := 14) rfl)
theorem q_751 : Cond.methodLink RL 113 yX2_play ∈ ALL := kC23 _ (List.mem_of_getElem? (i := 15) rfl)
theorem q_752 : Cond.instanceMethod yX2_play ∈ ALL := kC23 _ (List.mem_of_getElem? (i := 16) rfl)
theorem q_753 : Cond.selects RX2 yX2_play yX2_play ∈ ALL := kC23 _ (List.mem_of_getElem? (i := 17) rfl)
theorem q_754 : Cond.methodLink RL 116 yX3_play ∈ ALL := kC23 _ (List.mem_of_getElem? (i := 18) rfl)
theorem q_755 : Cond.instanceMethod yX3_play ∈ ALL := kC23 _ (List.mem_of_getElem? (i := 19) rfl)
theorem q_756 : Cond.selects RX3 yX3_play yX3_play ∈ ALL := kC23 _ (List.mem_of_getElem? (i := 20) rfl)
abbrev wsY (y : MethodName) (cc : ByteArray) (maxL : Nat) (ret : Option FieldType) : List Cond := .code y cc maxL ret :: ALL
theorem gSelf {c0 : Cond} {y : MethodName} {cc : ByteArray} {maxL : Nat} {ret : Option FieldType} (h : .code y cc maxL ret ∈ ALL) : GoodIn (c0 :: ALL) (wsY y cc maxL ret) := fun w hw => by
  have hA : w ∈ ALL := (List.mem_cons.mp hw).elim (fun e => e ▸ h) (fun e => e)
  exact ⟨List.mem_cons_of_mem _ hA, good_of_word (List.all_eq_true.mp gALL w hA)⟩
theorem gV {c0 : Cond} {own C : String} {idx : Nat} {y : MethodName} {cc : ByteArray} {maxL : Nat} {ret : Option FieldType} (h1 : .methodLink own idx y ∈ ALL) (h2 : .instanceMethod y ∈ ALL) (h3 : .selects C y y ∈ ALL) (h4 : .initialized C ∈ ALL) (h5 : .code y cc maxL ret ∈ ALL) : GoodIn (c0 :: ALL) (wsV own idx C y (wsY y cc maxL ret)) := by
  refine goodIn_app (fun w hw => ?_) (gSelf h5)
  have hA : w ∈ ALL := by
    simp only [List.mem_cons, List.not_mem_nil, or_false] at hw
    rcases hw with rfl | rfl | rfl | rfl <;> assumption
  exact ⟨List.mem_cons_of_mem _ hA, good_of_word (List.all_eq_true.mp gALL w hA)⟩
theorem gS {c0 : Cond} {own : String} {idx : Nat} {y : MethodName} {cc : ByteArray} {maxL : Nat} {ret : Option FieldType} (h1 : .methodLink own idx y ∈ ALL) (h2 : .static y ∈ ALL) (h4 : .initialized y.cls ∈ ALL) (h5 : .code y cc maxL ret ∈ ALL) : GoodIn (c0 :: ALL) (va_wsS own idx y (wsY y cc maxL ret)) := by
  refine goodIn_app (fun w hw => ?_) (gSelf h5)
  have hA : w ∈ ALL := by
    simp only [List.mem_cons, List.not_mem_nil, or_false] at hw
    rcases hw with rfl | rfl | rfl <;> assumption
  exact ⟨List.mem_cons_of_mem _ hA, good_of_word (List.all_eq_true.mp gALL w hA)⟩
end
section
/-! whole numbers for ints: iI z is the int of z; rows of instructions over them -/
def iI (z : Int) : Int32 := Int32.ofInt z
theorem iI_ex (x : Int32) : ∃ z : Int, (-2147483648 ≤ z ∧ z < 2147483648) ∧ x = iI z := ⟨x.toInt, ⟨x.le_toInt, x.toInt_lt⟩, (Int32.ofInt_toInt x).symm⟩
theorem iI_t {z : Int} (h : -2147483648 ≤ z ∧ z < 2147483648) : (iI z).toInt = z := Int32.toInt_ofInt_of_le h.1 h.2
theorem iI_le {a b : Int} (ha : -2147483648 ≤ a ∧ a < 2147483648) (hb : -2147483648 ≤ b ∧ b < 2147483648) : iI a ≤ iI b ↔ a ≤ b := by
  rw [Int32.le_iff_toInt_le, iI_t ha, iI_t hb]
theorem iI_lt {a b : Int} (ha : -2147483648 ≤ a ∧ a < 2147483648) (hb : -2147483648 ≤ b ∧ b < 2147483648) : iI a < iI b ↔ a < b := by
  rw [Int32.lt_iff_toInt_lt, iI_t ha, iI_t hb]
theorem iI_eq {a b : Int} (ha : -2147483648 ≤ a ∧ a < 2147483648) (hb : -2147483648 ≤ b ∧ b < 2147483648) : iI a = iI b ↔ a = b :=
  ⟨fun h => by rw [← iI_t ha, ← iI_t hb, h], fun h => by rw [h]⟩
theorem iI_0 : iI 0 = 0 := by decide +kernel
theorem iI_clamp {z : Int} (h0 : 0 ≤ z) (h1 : z < 2147483648) : (iI z).toNatClampNeg = z.toNat := Int32.toNatClampNeg_ofInt_of_le (by omega) h1
theorem iI_in {z : Int} {n : Nat} (h0 : 0 ≤ z) (h1 : z < (n : Int)) (hn : n < 2147483648) : vp_in (iI z) n := by
  rw [vp_in_iff, iI_t (by omega)]; exact ⟨h0, h1⟩
theorem iI_add (a b : Int) : iI a + iI b = iI (a + b) := (Int32.ofInt_add a b).symm
theorem iI_sub (a b : Int) : iI a - iI b = iI (a - b) := (Int32.ofInt_sub a b).symm
theorem iI_mul (a b : Int) : iI a * iI b = iI (a * b) := (Int32.ofInt_mul a b).symm
theorem iI_neg (a : Int) : -iI a = iI (-a) := (Int32.ofInt_neg a).symm
theorem iI_div {a b : Int} (h0 : 0 ≤ a ∧ a < 2147483648) (h2 : 0 < b ∧ b < 2147483648) : iI a / iI b = iI (a / b) := by
  have hq : 0 ≤ a / b := Int.ediv_nonneg h0.1 (by omega)
  have hq2 : a / b ≤ a := Int.ediv_le_self b h0.1
  apply Int32.toInt_inj.mp
  rw [Int32.toInt_div_of_ne_right _ _ (fun h => by
    have h3 := iI_t (z := b) (by omega)
    rw [h] at h3
    have h4 : (-1 : Int32).toInt = -1 := by decide
    omega), iI_t (by omega), iI_t (by omega), iI_t (by omega), Int.tdiv_eq_ediv_of_nonneg h0.1]
theorem iI_rem {a b : Int} (h0 : 0 ≤ a ∧ a < 2147483648) (h2 : 0 < b ∧ b < 2147483648) : iI a - iI a / iI b * iI b = iI (a % b) := by
  rw [iI_div h0 h2, iI_mul, iI_sub, Int.emod_def, Int.mul_comm b]
theorem iI_ne0 {b : Int} (h2 : 0 < b ∧ b < 2147483648) : ¬ iI b = 0 := by
  rw [← iI_0, iI_eq (by omega) (by omega)]; omega
/-- an array's contents by whole numbers -/
def aI (F : Int → Int) : Nat → Int32 := fun j => iI (F (j : Int))
def upI (F : Int → Int) (z v : Int) : Int → Int := fun j => if j = z then v else F j
theorem upI_s (F : Int → Int) (z v : Int) : upI F z v z = v := if_pos rfl
theorem upI_n {F : Int → Int} {z v j : Int} (h : j ≠ z) : upI F z v j = F j := if_neg h
theorem aI_up {F : Int → Int} {z v : Int} (h0 : 0 ≤ z) (h1 : z < 2147483648) : upd (aI F) (iI z).toNatClampNeg (iI v) = aI (upI F z v) := by
  rw [iI_clamp h0 h1]
  funext j
  unfold upd aI upI
  by_cases h : j = z.toNat
  · rw [if_pos h, if_pos (by omega)]
  · rw [if_neg h, if_neg (by omega)]
section ZR
variable {p : Program} {l : Launch} {e : Env} {R : Room} {s : State} {m : MethodId} {args : Array Value} {below : List Frame} {meth : Method} {c : Code} {H : Heap} {locs : List Loc} {cells slots : Nat} {Q : State → Prop}
variable {cc : ByteArray} {pc : Nat} {ls : Array Slot} {rest : List Value}
theorem z_iconst (hexec : p.tables.exec = Jvm.exec) (hb : c.code = cc) {n : Int} (hdg : decode cc pc = .ok (.iconst n, 1)) (k : W p l e R s m args below meth c H locs cells slots Q (F0 m (pc + 1) ls (.int (iI n) :: rest))) : W p l e R s m args below meth c H locs cells slots Q (F0 m pc ls rest) :=
  lv_iconst hexec hb hdg rfl k
theorem z_bipush (hexec : p.tables.exec = Jvm.exec) (hb : c.code = cc) {n : Int} (hdg : decode cc pc = .ok (.bipush n, 2)) (hv : (Int8.ofInt n).toInt32 = iI n) (k : W p l e R s m args below meth c H locs cells slots Q (F0 m (pc + 2) ls (.int (iI n) :: rest))) : W p l e R s m args below meth c H locs cells slots Q (F0 m pc ls rest) :=
  lv_bipush hexec hb hdg hv k
theorem z_sipush (hexec : p.tables.exec = Jvm.exec) (hb : c.code = cc) {n : Int} (hdg : decode cc pc = .ok (.sipush n, 3)) (hv : (Int16.ofInt n).toInt32 = iI n) (k : W p l e R s m args below meth c H locs cells slots Q (F0 m (pc + 3) ls (.int (iI n) :: rest))) : W p l e R s m args below meth c H locs cells slots Q (F0 m pc ls rest) :=
  lv_sipush hexec hb hdg hv k
theorem z_iadd (hexec : p.tables.exec = Jvm.exec) (hb : c.code = cc) {a b : Int} (hdg : decode cc pc = .ok (.iadd, 1)) (k : W p l e R s m args below meth c H locs cells slots Q (F0 m (pc + 1) ls (.int (iI (a + b)) :: rest))) : W p l e R s m args below meth c H locs cells slots Q (F0 m pc ls (.int (iI b) :: .int (iI a) :: rest)) :=
  lv_iadd hexec hb hdg (by rw [iI_add]; exact k)
theorem z_isub (hexec : p.tables.exec = Jvm.exec) (hb : c.code = cc) {a b : Int} (hdg : decode cc pc = .ok (.isub, 1)) (k : W p l e R s m args below meth c H locs cells slots Q (F0 m (pc + 1) ls (.int (iI (a - b)) :: rest))) : W p l e R s m args below meth c H locs cells slots Q (F0 m pc ls (.int (iI b) :: .int (iI a) :: rest)) :=
  lv_isub hexec hb hdg (by rw [iI_sub]; exact k)
theorem z_imul (hexec : p.tables.exec = Jvm.exec) (hb : c.code = cc) {a b : Int} (hdg : decode cc pc = .ok (.imul, 1)) (k : W p l e R s m args below meth c H locs cells slots Q (F0 m (pc + 1) ls (.int (iI (a * b)) :: rest))) : W p l e R s m args below meth c H locs cells slots Q (F0 m pc ls (.int (iI b) :: .int (iI a) :: rest)) :=
  lv_imul hexec hb hdg (by rw [iI_mul]; exact k)
theorem z_ineg (hexec : p.tables.exec = Jvm.exec) (hb : c.code = cc) {a : Int} (hdg : decode cc pc = .ok (.ineg, 1)) (k : W p l e R s m args below meth c H locs cells slots Q (F0 m (pc + 1) ls (.int (iI (-a)) :: rest))) : W p l e R s m args below meth c H locs cells slots Q (F0 m pc ls (.int (iI a) :: rest)) :=
  lv_ineg hexec hb hdg (by rw [iI_neg]; exact k)
theorem z_idiv (hexec : p.tables.exec = Jvm.exec) (hb : c.code = cc) {a b : Int} (hdg : decode cc pc = .ok (.idiv, 1)) (h0 : 0 ≤ a ∧ a < 2147483648) (h2 : 0 < b ∧ b < 2147483648) (k : W p l e R s m args below meth c H locs cells slots Q (F0 m (pc + 1) ls (.int (iI (a / b)) :: rest))) : W p l e R s m args below meth c H locs cells slots Q (F0 m pc ls (.int (iI b) :: .int (iI a) :: rest)) :=
  lv_idiv hexec hb hdg (iI_ne0 h2) (by rw [iI_div h0 h2]; exact k)
theorem z_irem (hexec : p.tables.exec = Jvm.exec) (hb : c.code = cc) {a b : Int} (hdg : decode cc pc = .ok (.irem, 1)) (h0 : 0 ≤ a ∧ a < 2147483648) (h2 : 0 < b ∧ b < 2147483648) (k : W p l e R s m args below meth c H locs cells slots Q (F0 m (pc + 1) ls (.int (iI (a % b)) :: rest))) : W p l e R s m args below meth c H locs cells slots Q (F0 m pc ls (.int (iI b) :: .int (iI a) :: rest)) :=
  lv_irem hexec hb hdg (iI_ne0 h2) (by rw [iI_rem h0 h2]; exact k)
theorem z_as {a b : Int} (h : a = b) (k : W p l e R s m args below meth c H locs cells slots Q (F0 m pc ls (.int (iI b) :: rest))) : W p l e R s m args below meth c H locs cells slots Q (F0 m pc ls (.int (iI a) :: rest)) := by rw [h]; exact k
theorem z_ldc (hexec : p.tables.exec = Jvm.exec) (hb : c.code = cc) {own : String} {index : Nat} (z : Int) {v : Int32} (hv : v = iI z) (hown : s.vm.findClass own = some m.cls) (hconst : (Jvm.Cond.constant own index v).before args s = true) (hdg : decode cc pc = .ok (.ldc index, 2)) (k : W p l e R s m args below meth c H locs cells slots Q (F0 m (pc + 2) ls (.int (iI z) :: rest))) : W p l e R s m args below meth c H locs cells slots Q (F0 m pc ls rest) :=
  lv_ldc hexec hb hown hconst hdg (by rw [hv]; exact k)
theorem z_icmp_eq (hexec : p.tables.exec = Jvm.exec) (hb : c.code = cc) {a b : Int} {off : Int} {tgt : Nat} (hdg : decode cc pc = .ok (.if_icmp .eq off, 3)) (ht : (pc : Int) + off = (tgt : Int)) (ha : (-2147483648 ≤ a ∧ a < 2147483648)) (hc : (-2147483648 ≤ b ∧ b < 2147483648)) (kt : a = b → W p l e R s m args below meth c H locs cells slots Q (F0 m tgt ls rest)) (kf : a ≠ b → W p l e R s m args below meth c H locs cells slots Q (F0 m (pc + 3) ls rest)) : W p l e R s m args below meth c H locs cells slots Q (F0 m pc ls (.int (iI b) :: .int (iI a) :: rest)) :=
  lv_icmp_eq (tgt := tgt) hexec hb hdg ht (fun h => kt (by have h2 := iI_eq ha hc; first | exact h2.mp h | exact fun q => h (h2.mpr q))) (fun h => kf (by have h2 := iI_eq ha hc; first | exact fun q => h (h2.mpr q) | exact h2.mp h | exact Int.not_le.mp (fun q => h (h2.mpr q)) | exact Int.not_lt.mp (fun q => h (h2.mpr q)) | exact Decidable.byContradiction (fun q => h (fun r => q (h2.mp r)))))
theorem z_icmp_ne (hexec : p.tables.exec = Jvm.exec) (hb : c.code = cc) {a b : Int} {off : Int} {tgt : Nat} (hdg : decode cc pc = .ok (.if_icmp .ne off, 3)) (ht : (pc : Int) + off = (tgt : Int)) (ha : (-2147483648 ≤ a ∧ a < 2147483648)) (hc : (-2147483648 ≤ b ∧ b < 2147483648)) (kt : a ≠ b → W p l e R s m args below meth c H locs cells slots Q (F0 m tgt ls rest)) (kf : a = b → W p l e R s m args below meth c H locs cells slots Q (F0 m (pc + 3) ls rest)) : W p l e R s m args below meth c H locs cells slots Q (F0 m pc ls (.int (iI b) :: .int (iI a) :: rest)) :=
  lv_icmp_ne (tgt := tgt) hexec hb hdg ht (fun h => kt (by have h2 := iI_eq ha hc; first | exact h2.mp h | exact fun q => h (h2.mpr q))) (fun h => kf (by have h2 := iI_eq ha hc; first | exact fun q => h (h2.mpr q) | exact h2.mp h | exact Int.not_le.mp (fun q => h (h2.mpr q)) | exact Int.not_lt.mp (fun q => h (h2.mpr q)) | exact Decidable.byContradiction (fun q => h (fun r => q (h2.mp r)))))
theorem z_icmp_lt (hexec : p.tables.exec = Jvm.exec) (hb : c.code = cc) {a b : Int} {off : Int} {tgt : Nat} (hdg : decode cc pc = .ok (.if_icmp .lt off, 3)) (ht : (pc : Int) + off = (tgt : Int)) (ha : (-2147483648 ≤ a ∧ a < 2147483648)) (hc : (-2147483648 ≤ b ∧ b < 2147483648)) (kt : a < b → W p l e R s m args below meth c H locs cells slots Q (F0 m tgt ls rest)) (kf : b ≤ a → W p l e R s m args below meth c H locs cells slots Q (F0 m (pc + 3) ls rest)) : W p l e R s m args below meth c H locs cells slots Q (F0 m pc ls (.int (iI b) :: .int (iI a) :: rest)) :=
  lv_icmp_lt (tgt := tgt) hexec hb hdg ht (fun h => kt (by have h2 := iI_lt ha hc; first | exact h2.mp h | exact fun q => h (h2.mpr q))) (fun h => kf (by have h2 := iI_lt ha hc; first | exact fun q => h (h2.mpr q) | exact h2.mp h | exact Int.not_le.mp (fun q => h (h2.mpr q)) | exact Int.not_lt.mp (fun q => h (h2.mpr q)) | exact Decidable.byContradiction (fun q => h (fun r => q (h2.mp r)))))
theorem z_icmp_ge (hexec : p.tables.exec = Jvm.exec) (hb : c.code = cc) {a b : Int} {off : Int} {tgt : Nat} (hdg : decode cc pc = .ok (.if_icmp .ge off, 3)) (ht : (pc : Int) + off = (tgt : Int)) (ha : (-2147483648 ≤ a ∧ a < 2147483648)) (hc : (-2147483648 ≤ b ∧ b < 2147483648)) (kt : b ≤ a → W p l e R s m args below meth c H locs cells slots Q (F0 m tgt ls rest)) (kf : a < b → W p l e R s m args below meth c H locs cells slots Q (F0 m (pc + 3) ls rest)) : W p l e R s m args below meth c H locs cells slots Q (F0 m pc ls (.int (iI b) :: .int (iI a) :: rest)) :=
  lv_icmp_ge (tgt := tgt) hexec hb hdg ht (fun h => kt (by have h2 := iI_le hc ha; first | exact h2.mp h | exact fun q => h (h2.mpr q))) (fun h => kf (by have h2 := iI_le hc ha; first | exact fun q => h (h2.mpr q) | exact h2.mp h | exact Int.not_le.mp (fun q => h (h2.mpr q)) | exact Int.not_lt.mp (fun q => h (h2.mpr q)) | exact Decidable.byContradiction (fun q => h (fun r => q (h2.mp r)))))
theorem z_icmp_gt (hexec : p.tables.exec = Jvm.exec) (hb : c.code = cc) {a b : Int} {off : Int} {tgt : Nat} (hdg : decode cc pc = .ok (.if_icmp .gt off, 3)) (ht : (pc : Int) + off = (tgt : Int)) (ha : (-2147483648 ≤ a ∧ a < 2147483648)) (hc : (-2147483648 ≤ b ∧ b < 2147483648)) (kt : b < a → W p l e R s m args below meth c H locs cells slots Q (F0 m tgt ls rest)) (kf : a ≤ b → W p l e R s m args below meth c H locs cells slots Q (F0 m (pc + 3) ls rest)) : W p l e R s m args below meth c H locs cells slots Q (F0 m pc ls (.int (iI b) :: .int (iI a) :: rest)) :=
  lv_icmp_gt (tgt := tgt) hexec hb hdg ht (fun h => kt (by have h2 := iI_lt hc ha; first | exact h2.mp h | exact fun q => h (h2.mpr q))) (fun h => kf (by have h2 := iI_lt hc ha; first | exact fun q => h (h2.mpr q) | exact h2.mp h | exact Int.not_le.mp (fun q => h (h2.mpr q)) | exact Int.not_lt.mp (fun q => h (h2.mpr q)) | exact Decidable.byContradiction (fun q => h (fun r => q (h2.mp r)))))
theorem z_icmp_le (hexec : p.tables.exec = Jvm.exec) (hb : c.code = cc) {a b : Int} {off : Int} {tgt : Nat} (hdg : decode cc pc = .ok (.if_icmp .le off, 3)) (ht : (pc : Int) + off = (tgt : Int)) (ha : (-2147483648 ≤ a ∧ a < 2147483648)) (hc : (-2147483648 ≤ b ∧ b < 2147483648)) (kt : a ≤ b → W p l e R s m args below meth c H locs cells slots Q (F0 m tgt ls rest)) (kf : b < a → W p l e R s m args below meth c H locs cells slots Q (F0 m (pc + 3) ls rest)) : W p l e R s m args below meth c H locs cells slots Q (F0 m pc ls (.int (iI b) :: .int (iI a) :: rest)) :=
  lv_icmp_le (tgt := tgt) hexec hb hdg ht (fun h => kt (by have h2 := iI_le ha hc; first | exact h2.mp h | exact fun q => h (h2.mpr q))) (fun h => kf (by have h2 := iI_le ha hc; first | exact fun q => h (h2.mpr q) | exact h2.mp h | exact Int.not_le.mp (fun q => h (h2.mpr q)) | exact Int.not_lt.mp (fun q => h (h2.mpr q)) | exact Decidable.byContradiction (fun q => h (fun r => q (h2.mp r)))))
theorem z_if_eq (hexec : p.tables.exec = Jvm.exec) (hb : c.code = cc) {a : Int} {off : Int} {tgt : Nat} (hdg : decode cc pc = .ok (.ifCond .eq off, 3)) (ht : (pc : Int) + off = (tgt : Int)) (ha : (-2147483648 ≤ a ∧ a < 2147483648)) (kt : a = 0 → W p l e R s m args below meth c H locs cells slots Q (F0 m tgt ls rest)) (kf : a ≠ 0 → W p l e R s m args below meth c H locs cells slots Q (F0 m (pc + 3) ls rest)) : W p l e R s m args below meth c H locs cells slots Q (F0 m pc ls (.int (iI a) :: rest)) := by
  have h00 : (-2147483648 ≤ (0 : Int) ∧ (0 : Int) < 2147483648) := by omega
  have h2 := iI_eq ha h00
  rw [iI_0] at h2
  exact lv_if_eq (tgt := tgt) hexec hb hdg ht (fun h => kt (by first | exact h2.mp h | exact fun q => h (h2.mpr q))) (fun h => kf (by first | exact fun q => h (h2.mpr q) | exact h2.mp h | exact Int.not_le.mp (fun q => h (h2.mpr q)) | exact Int.not_lt.mp (fun q => h (h2.mpr q)) | exact Decidable.byContradiction (fun q => h (fun r => q (h2.mp r)))))
theorem z_if_ne (hexec : p.tables.exec = Jvm.exec) (hb : c.code = cc) {a : Int} {off : Int} {tgt : Nat} (hdg : decode cc pc = .ok (.ifCond .ne off, 3)) (ht : (pc : Int) + off = (tgt : Int)) (ha : (-2147483648 ≤ a ∧ a < 2147483648)) (kt : a ≠ 0 → W p l e R s m args below meth c H locs cells slots Q (F0 m tgt ls rest)) (kf : a = 0 → W p l e R s m args below meth c H locs cells slots Q (F0 m (pc + 3) ls rest)) : W p l e R s m args below meth c H locs cells slots Q (F0 m pc ls (.int (iI a) :: rest)) := by
  have h00 : (-2147483648 ≤ (0 : Int) ∧ (0 : Int) < 2147483648) := by omega
  have h2 := iI_eq ha h00
  rw [iI_0] at h2
  exact lv_if_ne (tgt := tgt) hexec hb hdg ht (fun h => kt (by first | exact h2.mp h | exact fun q => h (h2.mpr q))) (fun h => kf (by first | exact fun q => h (h2.mpr q) | exact h2.mp h | exact Int.not_le.mp (fun q => h (h2.mpr q)) | exact Int.not_lt.mp (fun q => h (h2.mpr q)) | exact Decidable.byContradiction (fun q => h (fun r => q (h2.mp r)))))
theorem z_if_lt (hexec : p.tables.exec = Jvm.exec) (hb : c.code = cc) {a : Int} {off : Int} {tgt : Nat} (hdg : decode cc pc = .ok (.ifCond .lt off, 3)) (ht : (pc : Int) + off = (tgt : Int)) (ha : (-2147483648 ≤ a ∧ a < 2147483648)) (kt : a < 0 → W p l e R s m args below meth c H locs cells slots Q (F0 m tgt ls rest)) (kf : 0 ≤ a → W p l e R s m args below meth c H locs cells slots Q (F0 m (pc + 3) ls rest)) : W p l e R s m args below meth c H locs cells slots Q (F0 m pc ls (.int (iI a) :: rest)) := by
  have h00 : (-2147483648 ≤ (0 : Int) ∧ (0 : Int) < 2147483648) := by omega
  have h2 := iI_lt ha h00
  rw [iI_0] at h2
  exact lv_if_lt (tgt := tgt) hexec hb hdg ht (fun h => kt (by first | exact h2.mp h | exact fun q => h (h2.mpr q))) (fun h => kf (by first | exact fun q => h (h2.mpr q) | exact h2.mp h | exact Int.not_le.mp (fun q => h (h2.mpr q)) | exact Int.not_lt.mp (fun q => h (h2.mpr q)) | exact Decidable.byContradiction (fun q => h (fun r => q (h2.mp r)))))
theorem z_if_ge (hexec : p.tables.exec = Jvm.exec) (hb : c.code = cc) {a : Int} {off : Int} {tgt : Nat} (hdg : decode cc pc = .ok (.ifCond .ge off, 3)) (ht : (pc : Int) + off = (tgt : Int)) (ha : (-2147483648 ≤ a ∧ a < 2147483648)) (kt : 0 ≤ a → W p l e R s m args below meth c H locs cells slots Q (F0 m tgt ls rest)) (kf : a < 0 → W p l e R s m args below meth c H locs cells slots Q (F0 m (pc + 3) ls rest)) : W p l e R s m args below meth c H locs cells slots Q (F0 m pc ls (.int (iI a) :: rest)) := by
  have h00 : (-2147483648 ≤ (0 : Int) ∧ (0 : Int) < 2147483648) := by omega
  have h2 := iI_le h00 ha
  rw [iI_0] at h2
  exact lv_if_ge (tgt := tgt) hexec hb hdg ht (fun h => kt (by first | exact h2.mp h | exact fun q => h (h2.mpr q))) (fun h => kf (by first | exact fun q => h (h2.mpr q) | exact h2.mp h | exact Int.not_le.mp (fun q => h (h2.mpr q)) | exact Int.not_lt.mp (fun q => h (h2.mpr q)) | exact Decidable.byContradiction (fun q => h (fun r => q (h2.mp r)))))
theorem z_if_gt (hexec : p.tables.exec = Jvm.exec) (hb : c.code = cc) {a : Int} {off : Int} {tgt : Nat} (hdg : decode cc pc = .ok (.ifCond .gt off, 3)) (ht : (pc : Int) + off = (tgt : Int)) (ha : (-2147483648 ≤ a ∧ a < 2147483648)) (kt : 0 < a → W p l e R s m args below meth c H locs cells slots Q (F0 m tgt ls rest)) (kf : a ≤ 0 → W p l e R s m args below meth c H locs cells slots Q (F0 m (pc + 3) ls rest)) : W p l e R s m args below meth c H locs cells slots Q (F0 m pc ls (.int (iI a) :: rest)) := by
  have h00 : (-2147483648 ≤ (0 : Int) ∧ (0 : Int) < 2147483648) := by omega
  have h2 := iI_lt h00 ha
  rw [iI_0] at h2
  exact lv_if_gt (tgt := tgt) hexec hb hdg ht (fun h => kt (by first | exact h2.mp h | exact fun q => h (h2.mpr q))) (fun h => kf (by first | exact fun q => h (h2.mpr q) | exact h2.mp h | exact Int.not_le.mp (fun q => h (h2.mpr q)) | exact Int.not_lt.mp (fun q => h (h2.mpr q)) | exact Decidable.byContradiction (fun q => h (fun r => q (h2.mp r)))))
theorem z_if_le (hexec : p.tables.exec = Jvm.exec) (hb : c.code = cc) {a : Int} {off : Int} {tgt : Nat} (hdg : decode cc pc = .ok (.ifCond .le off, 3)) (ht : (pc : Int) + off = (tgt : Int)) (ha : (-2147483648 ≤ a ∧ a < 2147483648)) (kt : a ≤ 0 → W p l e R s m args below meth c H locs cells slots Q (F0 m tgt ls rest)) (kf : 0 < a → W p l e R s m args below meth c H locs cells slots Q (F0 m (pc + 3) ls rest)) : W p l e R s m args below meth c H locs cells slots Q (F0 m pc ls (.int (iI a) :: rest)) := by
  have h00 : (-2147483648 ≤ (0 : Int) ∧ (0 : Int) < 2147483648) := by omega
  have h2 := iI_le ha h00
  rw [iI_0] at h2
  exact lv_if_le (tgt := tgt) hexec hb hdg ht (fun h => kt (by first | exact h2.mp h | exact fun q => h (h2.mpr q))) (fun h => kf (by first | exact fun q => h (h2.mpr q) | exact h2.mp h | exact Int.not_le.mp (fun q => h (h2.mpr q)) | exact Int.not_lt.mp (fun q => h (h2.mpr q)) | exact Decidable.byContradiction (fun q => h (fun r => q (h2.mp r)))))
theorem z_iald {D : va_G} {cl : List vw_C} {a : Nat} {tys : List (ClassId × FieldType)} {ws : va_W} (hexec : p.tables.exec = Jvm.exec) (hb : c.code = cc) (hK : va_K D cl tys s) (hP : va_P D cl ws H) (q0 t0 : Nat) {cA : ClassId} {n : Nat} {F : Int → Int} (ha : ws[q0]? = some (a, .inl (cA, n, .inl (aI F)))) (ht : tys[t0]? = some (cA, .int)) {z : Int} (h0 : 0 ≤ z ∧ z < (n : Int)) (hn : n < 2147483648) {v : Int} (hv : F z = v) (hdg : decode cc pc = .ok (.iaload, 1))
    (kk : W p l e R s m args below meth c H locs cells slots Q (F0 m (pc + 1) ls (.int (iI v) :: rest))) : W p l e R s m args below meth c H locs cells slots Q (F0 m pc ls (.int (iI z) :: .ref a :: rest)) :=
  va_iald hexec hb hK hP q0 t0 ha ht (iI_in h0.1 h0.2 hn) hdg (by
    have hz : ((z.toNat : Nat) : Int) = z := by omega
    rw [iI_clamp h0.1 (by omega)]
    show W p l e R s m args below meth c H locs cells slots Q (F0 m (pc + 1) ls (.int (iI (F ((z.toNat : Nat) : Int))) :: rest))
    rw [hz, hv]; exact kk)
theorem z_iast {D : va_G} {cl : List vw_C} {A : Nat → Prop} {a : Nat} {tys : List (ClassId × FieldType)} {ws w1 : va_W} {H0 : Heap} (hexec : p.tables.exec = Jvm.exec) (hb : c.code = cc) (hK : va_K D cl tys s) (hP : va_P D cl ws H) (hD : va_D A ws) (hS : va_S A H0 H locs) (q0 t0 : Nat) {cA : ClassId} {n : Nat} {F : Int → Int} (ha : ws[q0]? = some (a, .inl (cA, n, .inl (aI F)))) (ht : tys[t0]? = some (cA, .int)) {z v : Int} (h0 : 0 ≤ z ∧ z < (n : Int)) (hn : n < 2147483648) (hw : ws.set q0 (a, .inl (cA, n, .inl (aI (upI F z v)))) = w1) (hdg : decode cc pc = .ok (.iastore, 1))
    (kk : ∀ (H1 : Heap) (locs1 : List Loc), va_P D cl w1 H1 → va_D A w1 → va_S A H0 H1 locs1 → W p l e R s m args below meth c H1 locs1 cells slots Q (F0 m (pc + 1) ls rest)) : W p l e R s m args below meth c H locs cells slots Q (F0 m pc ls (.int (iI v) :: .int (iI z) :: .ref a :: rest)) := by
  refine va_iast hexec hb hK hP hD hS q0 t0 ha ht (iI_in h0.1 h0.2 hn) hdg ?_
  rw [aI_up h0.1 (by omega), hw]
  exact kk
theorem z_mmax (hexec : p.tables.exec = Jvm.exec) (hb : c.code = cc) (hml : c.maxLocals = ls.size) {own : String} {index : Nat} (hown : s.vm.findClass own = some m.cls) (hlink : (Cond.methodLink own index Lib.Math.max.name).before args s = true) (hstat : (Cond.static Lib.Math.max.name).before args s = true) (hini : (Cond.initialized "java/lang/Math").before args s = true) (hcode : (Cond.code Lib.Math.max.name Lib.Math.max.code 2 (some .int)).before args s = true)
    (hframes : 1 ≤ R.frames) (hlocals : 21 ≤ R.locals) (hc : cells ≤ R.cells) (hs : slots ≤ R.slots) {a b : Int} (ha : -2147483648 ≤ a ∧ a < 2147483648) (hbb : -2147483648 ≤ b ∧ b < 2147483648) (hrest : (rest.map fun v => v.category).sum ≤ 8) (hdg : decode cc pc = .ok (.invokestatic index, 3))
    (kk : W p l e R s m args below meth c H locs cells slots Q (F0 m (pc + 3) ls (.int (iI (if a < b then b else a)) :: rest))) : W p l e R s m args below meth c H locs cells slots Q (F0 m pc ls (.int (iI b) :: .int (iI a) :: rest)) := by
  refine va_mmax hexec hb hml hown hlink hstat hini hcode hframes (by omega) hc hs hdg ?_
  have e1 := iI_lt ha hbb
  by_cases h : a < b
  · rw [if_pos (e1.mpr h)]; rw [if_pos h] at kk; exact kk
  · rw [if_neg (fun q => h (e1.mp q))]; rw [if_neg h] at kk; exact kk
theorem z_mmin (hexec : p.tables.exec = Jvm.exec) (hb : c.code = cc) (hml : c.maxLocals = ls.size) {own : String} {index : Nat} (hown : s.vm.findClass own = some m.cls) (hlink : (Cond.methodLink own index Lib.Math.min.name).before args s = true) (hstat : (Cond.static Lib.Math.min.name).before args s = true) (hini : (Cond.initialized "java/lang/Math").before args s = true) (hcode : (Cond.code Lib.Math.min.name Lib.Math.min.code 2 (some .int)).before args s = true)
    (hframes : 1 ≤ R.frames) (hlocals : 21 ≤ R.locals) (hc : cells ≤ R.cells) (hs : slots ≤ R.slots) {a b : Int} (ha : -2147483648 ≤ a ∧ a < 2147483648) (hbb : -2147483648 ≤ b ∧ b < 2147483648) (hrest : (rest.map fun v => v.category).sum ≤ 8) (hdg : decode cc pc = .ok (.invokestatic index, 3))
    (kk : W p l e R s m args below meth c H locs cells slots Q (F0 m (pc + 3) ls (.int (iI (if b < a then b else a)) :: rest))) : W p l e R s m args below meth c H locs cells slots Q (F0 m pc ls (.int (iI b) :: .int (iI a) :: rest)) := by
  refine va_mmin hexec hb hml hown hlink hstat hini hcode hframes (by omega) hc hs hdg ?_
  have e1 := iI_lt hbb ha
  by_cases h : b < a
  · rw [if_pos (e1.mpr h)]; rw [if_pos h] at kk; exact kk
  · rw [if_neg (fun q => h (e1.mp q))]; rw [if_neg h] at kk; exact kk
theorem z_mabs (hexec : p.tables.exec = Jvm.exec) (hb : c.code = cc) (hml : c.maxLocals = ls.size) {own : String} {index : Nat} (hown : s.vm.findClass own = some m.cls) (hlink : (Cond.methodLink own index Lib.Math.abs.name).before args s = true) (hstat : (Cond.static Lib.Math.abs.name).before args s = true) (hini : (Cond.initialized "java/lang/Math").before args s = true) (hcode : (Cond.code Lib.Math.abs.name Lib.Math.abs.code 1 (some .int)).before args s = true)
    (hframes : 1 ≤ R.frames) (hlocals : 21 ≤ R.locals) (hc : cells ≤ R.cells) (hs : slots ≤ R.slots) {a : Int} (ha : -2147483648 ≤ a ∧ a < 2147483648) (hrest : (rest.map fun v => v.category).sum ≤ 8) (hdg : decode cc pc = .ok (.invokestatic index, 3))
    (kk : W p l e R s m args below meth c H locs cells slots Q (F0 m (pc + 3) ls (.int (iI (if 0 ≤ a then a else 0 - a)) :: rest))) : W p l e R s m args below meth c H locs cells slots Q (F0 m pc ls (.int (iI a) :: rest)) := by
  refine va_mabs hexec hb hml hown hlink hstat hini hcode hframes (by omega) hc hs hdg ?_
  have e1 := iI_le (a := 0) (by omega) ha
  rw [iI_0] at e1
  by_cases h : 0 ≤ a
  · rw [if_pos (e1.mpr h)]; rw [if_pos h] at kk; exact kk
  · rw [if_neg (fun q => h (e1.mp q)), ← iI_0, iI_sub]; rw [if_neg h] at kk; exact kk
end ZR
/-! contracts: from the world w to the world w', with the answer r -/
def Qw (D : va_G) (r : Option Value) (w w' : va_W) (sz : Nat) : Array Value → State → Outcome → State → Prop := fun _ st oc t => (oc = .returned r ∧ va_P D vwCl w' t.heap ∧ va_D (va_A w sz) w') ∧ va_F (va_A w sz) st t
def w70 : Cond := .methodLinkNest RX0 70 yX2_isOutside RX2
def w23 : Cond := .methodLinkNest RX1 23 yX2_isOutside RX2
def nK (U : State) : Prop := va_Nw w70 U ∧ va_Nw w23 U
theorem nK.warm {s U : State} (hW : s.WarmedH U.vm) (h : nK s) : nK U := ⟨va_Nw.warmM hW h.1, va_Nw.warmM hW h.2⟩
theorem nK.same {u U : State} (hv : u.vm = U.vm) (h : nK u) : nK U := ⟨va_Nw.same rfl hv h.1, va_Nw.same rfl hv h.2⟩
theorem va_P0 (D : va_G) (cl : List vw_C) (H : Heap) : va_P D cl [] H := fun k q h => by simp at h
theorem va_D0 (A : Nat → Prop) : va_D A [] := ⟨fun i j p q h => by simp at h, fun k q h => by simp at h⟩
theorem lv_to {ls : Array Slot} {n : Nat} {l l' : List (Nat × Value)} (h : lv_has ls n l) (e : l' = l) : lv_has ls n l' := e ▸ h
theorem z_tab (x lo hi : Int) : (x < lo ∨ hi < x) ∨ (lo ≤ x ∧ x ≤ hi) := by omega
def Pw (D : va_G) (tys : List (ClassId × FieldType)) (av : List Value) (w : va_W) (sz : Nat) : Array Value → State → Prop := va_Pc av (fun U => U.heap.size = sz ∧ va_P D vwCl w U.heap ∧ va_K D vwCl tys U ∧ va_D (fun _ => True) w ∧ nK U)
def MW (l : Launch) (D : va_G) (y : MethodName) (ws : List Cond) (rm : Room) (tys : List (ClassId × FieldType)) (av : List Value) (w w' : va_W) (r : Option Value) : Prop := ∀ sz : Nat, Met l y ws rm (Pw D tys av w sz) (Qw D r w w' sz) 0 0 (va_A w sz)
/-- how a walk ends: any return instruction of the answer r over the world w' -/
def Wret (p : Program) (l : Launch) (e : Env) (R : Room) (s : State) (m : MethodId) (args : Array Value) (below : List Frame) (meth : Method) (c : Code) (Q : State → Prop) (D : va_G) (A : Nat → Prop) (w' : va_W) (op : Instr) (st : List Value) (cc : ByteArray) : Prop :=
  ∀ (pc : Nat) (ls : Array Slot) (H1 : Heap) (locs1 : List Loc), decode cc pc = .ok (op, 1) → va_P D vwCl w' H1 → va_D A w' → va_S A s.heap H1 locs1 → W p l e R s m args below meth c H1 locs1 0 0 Q (F0 m pc ls st)
theorem mw_of {l : Launch} {D : va_G} {y : MethodName} {ws ws' : List Cond} {rm : Room} {tys : List (ClassId × FieldType)} {av : List Value} {w w' : va_W} {r : Option Value} {cc : ByteArray} {maxL : Nat} {ret : Option FieldType} {op : Instr} {st : List Value}
    (hy : plainName y.cls = true) (hw : ws = Cond.code y cc maxL ret :: ws') (hav : (lg_sl av).length ≤ maxL)
    (hend : ∀ (p : Program) (e : Env) (R : Room) (s : State) (m : MethodId) (args : Array Value) (below : List Frame) (meth : Method) (c : Code) (H : Heap) (locs : List Loc) (ls : Array Slot) (pc : Nat) (Qc : Array Value → State → Outcome → State → Prop) (free : Addr → Prop), p.tables.exec = Jvm.exec → c.code = cc → meth.sig.returnType = ret → meth.locks = false → (∀ t : State, t.heap = H → s.WarmedH t.vm → Qc args s (.returned r) t) → (∀ q ∈ locs, free q.base) → decode cc pc = .ok (op, 1) → W p l e R s m args below meth c H locs 0 0 (MQ below Qc args s 0 0 free) (F0 m pc ls st))
    (body : ∀ (p : Program) (e : Env) (s : State) (m : MethodId) (below : List Frame) (meth : Method) (c : Code) (R : Room) (A : Nat → Prop) (Q : State → Prop) (args : Array Value) (ls : Array Slot), p.tables.exec = Jvm.exec → c.code = cc → c.maxLocals = maxL → s.vm.findClass y.cls = some m.cls → (∀ w ∈ ws, w.before args s = true) → rm.frames ≤ R.frames → rm.locals ≤ R.locals → 0 ≤ R.cells → 0 ≤ R.slots → nK s → va_K D vwCl tys s → va_P D vwCl w s.heap → va_D A w → va_S A s.heap s.heap [] → (∀ q : Nat, s.heap.size ≤ q → A q) → Wret p l e R s m args below meth c Q D A w' op st cc → lv_has ls maxL (lv_args 0 av) →
      W p l e R s m args below meth c s.heap [] 0 0 Q (F0 m 0 ls [])) : MW l D y ws rm tys av w w' r := by
  intro sz
  refine Met.ofW (cc := cc) (maxL := maxL) (ret := ret) hy hw ?_
  intro p e s m args below meth c s₁ B hml hv
  obtain ⟨rfl, hsz, hP, hK, hD0, hN⟩ := hv
  subst hsz
  have hts := atoms_spec (ws := ws) B.pre
  have hown : s.vm.findClass y.cls = some m.cls := findClass_of_methodNamed B.named
  have hl := lv_entry av (n := maxL) hav
  rw [lg_entry_eq]
  generalize (lg_sl av ++ List.replicate (maxL - (lg_sl av).length) Slot.unset).toArray = ls at hl ⊢
  refine body p e s m below meth c (headSpec ws rm).room (va_A w s.heap.size) _ av.toArray ls B.exec B.bytes hml hown hts (Nat.le_refl _) (Nat.le_refl _) (Nat.zero_le _) (Nat.zero_le _) hN hK hP hD0.self va_S.rf (fun q h => Or.inr h) ?_ hl
  intro pc ls H1 locs1 hdg hP1 hD1 hS1
  exact hend p e _ s m av.toArray below meth c H1 locs1 ls pc _ _ B.exec B.bytes B.returns B.notSynchronized (fun t ht hW => ⟨⟨rfl, by rw [ht]; exact hP1, hD1⟩, hS1.F ht⟩) hS1.2.2 hdg
theorem mw_ofI {l : Launch} {D : va_G} {y : MethodName} {ws ws' : List Cond} {rm : Room} {tys : List (ClassId × FieldType)} {av : List Value} {w w' : va_W} {v : Int32} {cc : ByteArray} {maxL : Nat}
    (hy : plainName y.cls = true) (hw : ws = Cond.code y cc maxL (some .int) :: ws') (hav : (lg_sl av).length ≤ maxL)
    (body : ∀ (p : Program) (e : Env) (s : State) (m : MethodId) (below : List Frame) (meth : Method) (c : Code) (R : Room) (A : Nat → Prop) (Q : State → Prop) (args : Array Value) (ls : Array Slot), p.tables.exec = Jvm.exec → c.code = cc → c.maxLocals = maxL → s.vm.findClass y.cls = some m.cls → (∀ w ∈ ws, w.before args s = true) → rm.frames ≤ R.frames → rm.locals ≤ R.locals → 0 ≤ R.cells → 0 ≤ R.slots → nK s → va_K D vwCl tys s → va_P D vwCl w s.heap → va_D A w → va_S A s.heap s.heap [] → (∀ q : Nat, s.heap.size ≤ q → A q) → Wret p l e R s m args below meth c Q D A w' .ireturn [.int v] cc → lv_has ls maxL (lv_args 0 av) →
      W p l e R s m args below meth c s.heap [] 0 0 Q (F0 m 0 ls [])) : MW l D y ws rm tys av w w' (some (.int v)) :=
  mw_of hy hw hav (fun p e R s m args below meth c H locs ls pc Qc free hx hb hr hlocks hq hf hdg => W.iret hx hb hr hq hf hdg hlocks) body
theorem mw_ofZ {l : Launch} {D : va_G} {y : MethodName} {ws ws' : List Cond} {rm : Room} {tys : List (ClassId × FieldType)} {av : List Value} {w w' : va_W} {v : Int32} {cc : ByteArray} {maxL : Nat} {ty : FieldType} (hn : narrow ty (.int v) = .int v)
    (hy : plainName y.cls = true) (hw : ws = Cond.code y cc maxL (some ty) :: ws') (hav : (lg_sl av).length ≤ maxL)
    (body : ∀ (p : Program) (e : Env) (s : State) (m : MethodId) (below : List Frame) (meth : Method) (c : Code) (R : Room) (A : Nat → Prop) (Q : State → Prop) (args : Array Value) (ls : Array Slot), p.tables.exec = Jvm.exec → c.code = cc → c.maxLocals = maxL → s.vm.findClass y.cls = some m.cls → (∀ w ∈ ws, w.before args s = true) → rm.frames ≤ R.frames → rm.locals ≤ R.locals → 0 ≤ R.cells → 0 ≤ R.slots → nK s → va_K D vwCl tys s → va_P D vwCl w s.heap → va_D A w → va_S A s.heap s.heap [] → (∀ q : Nat, s.heap.size ≤ q → A q) → Wret p l e R s m args below meth c Q D A w' .ireturn [.int v] cc → lv_has ls maxL (lv_args 0 av) →
      W p l e R s m args below meth c s.heap [] 0 0 Q (F0 m 0 ls [])) : MW l D y ws rm tys av w w' (some (.int v)) :=
  mw_of hy hw hav (fun p e R s m args below meth c H locs ls pc Qc free hx hb hr hlocks hq hf hdg => W.zret hx hb hr hn hq hf hdg hlocks) body
theorem mw_ofV {l : Launch} {D : va_G} {y : MethodName} {ws ws' : List Cond} {rm : Room} {tys : List (ClassId × FieldType)} {av : List Value} {w w' : va_W} {cc : ByteArray} {maxL : Nat}
    (hy : plainName y.cls = true) (hw : ws = Cond.code y cc maxL none :: ws') (hav : (lg_sl av).length ≤ maxL)
    (body : ∀ (p : Program) (e : Env) (s : State) (m : MethodId) (below : List Frame) (meth : Method) (c : Code) (R : Room) (A : Nat → Prop) (Q : State → Prop) (args : Array Value) (ls : Array Slot), p.tables.exec = Jvm.exec → c.code = cc → c.maxLocals = maxL → s.vm.findClass y.cls = some m.cls → (∀ w ∈ ws, w.before args s = true) → rm.frames ≤ R.frames → rm.locals ≤ R.locals → 0 ≤ R.cells → 0 ≤ R.slots → nK s → va_K D vwCl tys s → va_P D vwCl w s.heap → va_D A w → va_S A s.heap s.heap [] → (∀ q : Nat, s.heap.size ≤ q → A q) → Wret p l e R s m args below meth c Q D A w' .return_ [] cc → lv_has ls maxL (lv_args 0 av) →
      W p l e R s m args below meth c s.heap [] 0 0 Q (F0 m 0 ls [])) : MW l D y ws rm tys av w w' none :=
  mw_of hy hw hav (fun p e R s m args below meth c H locs ls pc Qc free hx hb hr hlocks hq hf hdg => W.vret hx hb hr hq hf hdg hlocks) body
section MWC
variable {p : Program} {l : Launch} {e : Env} {R : Room} {s : State} {m : MethodId} {args : Array Value} {below : List Frame} {meth : Method} {c : Code} {H : Heap} {locs : List Loc} {cells slots : Nat} {Q : State → Prop}
variable {cc : ByteArray} {pc nL : Nat} {ls : Array Slot} {rest : List Value} {D : va_G} {A : Nat → Prop} {tys tys' : List (ClassId × FieldType)} {wc wc' ws0 w1 : va_W} {r : Option Value} {Ts ws : List Cond} {own : String} {y : MethodName} {bytes : ByteArray} {maxL n index : Nat} {ret : Option FieldType} {rm : Room} {As : List Value} {b : Nat}
theorem pw_blind (av : List Value) (w : va_W) (sz : Nat) : FrameBlind (Pw D tys av w sz) := fun a U g mk q => by
  obtain ⟨e0, q0, q1, qK, qD, qN⟩ := q
  exact ⟨e0, q0, q1, va_K.moved (u := U) (U := U.calling g mk a) (Vm.Alike.refl U.vm) qK, qD, nK.same (U := U.calling g mk a) rfl qN⟩
theorem pw_here (av : List Value) {w : va_W} (hN : nK s) (hK : va_K D vwCl tys s) (hP : va_P D vwCl w H) (hD : va_D A w) : ∀ U : State, U.heap = H → s.WarmedH U.vm → Pw D tys av w H.size av.toArray U :=
  fun U hU hW => ⟨rfl, by rw [hU], by rw [hU]; exact hP, va_K.moved hW.alike hK, hD.weaken (fun _ _ _ _ => trivial), nK.warm hW hN⟩
/-- what a call needs of the place: run and record -/
def MRun (p : Program) (l : Launch) (e : Env) (R : Room) (s : State) (m : MethodId) (args : Array Value) (below : List Frame) (meth : Method) (c : Code) (H : Heap) (locs : List Loc) (cells slots : Nat) (D : va_G) (wc wc' : va_W) (r : Option Value) (g : JFrame) (rest : List Value) : Prop :=
  ∃ a : Array Value, va_Run p l e R s m args below meth c H locs cells slots 0 0 g rest (Qw D r wc wc' H.size a) (va_A wc H.size)
theorem mr_V {C : String} {T : u_T} {N ci q0 : Nat} {fs : List Value} (S : CallFix p m c cc nL s args Ts own) (hM : MW l D y ws rm tys' (.ref b :: As) wc wc' r) (cw : CallW R s args own C index y bytes maxL ret ws rm 0 0 n) (hN : nK s) (hK : va_K D vwCl tys' s) (hP : va_P D vwCl wc H) (hD : va_D A wc) (hc : vwCl[ci]? = some (C, T, N)) (he : wc[q0]? = some (b, .inr (ci, fs))) (hn : As.length = n) (hsize : ls.size = nL) (hW : (rest.map fun v => v.category).sum ≤ 8) (hf : cells ≤ R.cells ∧ slots ≤ R.slots) (hdg : decode cc pc = .ok (.invokevirtual index, 3)) :
    MRun p l e R s m args below meth c H locs cells slots D wc wc' r (F0 m pc ls (As.reverse ++ .ref b :: rest)) rest :=
  ⟨_, va_runV (rest := rest) S (hM H.size) cw ⟨pw_blind _ _ _, va_recv hK hP hc he, pw_here _ hN hK hP hD⟩ rfl hn hsize rfl (lv_room hW) hdg hf⟩
theorem mr_S (S : CallFix p m c cc nL s args Ts own) (hM : MW l D y ws rm tys' As wc wc' r) (cw : CallB R s args own index y bytes maxL ret ws rm 0 0 n ∧ (Cond.static y).before args s = true) (hN : nK s) (hK : va_K D vwCl tys' s) (hP : va_P D vwCl wc H) (hD : va_D A wc) (hn : As.length = n) (hsize : ls.size = nL) (hW : (rest.map fun v => v.category).sum ≤ 8) (hf : cells ≤ R.cells ∧ slots ≤ R.slots) (hdg : decode cc pc = .ok (.invokestatic index, 3)) :
    MRun p l e R s m args below meth c H locs cells slots D wc wc' r (F0 m pc ls (As.reverse ++ rest)) rest :=
  ⟨_, va_runS (rest := rest) S (hM H.size) cw ⟨pw_blind _ _ _, pw_here _ hN hK hP hD⟩ rfl hn hsize rfl (lv_room hW) hdg hf⟩
theorem mr_SN {host : String} (S : CallFix p m c cc nL s args Ts own) (hM : MW l D y ws rm tys' As wc wc' r) (cw : va_CN R s args own index y host bytes maxL ret ws rm 0 0 n ∧ (Cond.static y).before args s = true ∧ True) (hN : nK s) (hK : va_K D vwCl tys' s) (hP : va_P D vwCl wc H) (hD : va_D A wc) (hn : As.length = n) (hsize : ls.size = nL) (hW : (rest.map fun v => v.category).sum ≤ 8) (hf : cells ≤ R.cells ∧ slots ≤ R.slots) (hdg : decode cc pc = .ok (.invokestatic index, 3)) :
    MRun p l e R s m args below meth c H locs cells slots D wc wc' r (F0 m pc ls (As.reverse ++ rest)) rest :=
  ⟨_, va_runSN (rest := rest) S (hM H.size) cw ⟨pw_blind _ _ _, pw_here _ hN hK hP hD⟩ rfl hn hsize rfl (lv_room hW) hdg hf⟩
theorem mw_go {st0 : List Value} (hr : MRun p l e R s m args below meth c H locs cells slots D wc wc' r (F0 m pc ls st0) rest) (hS : va_S A s.heap H locs) (hF : ∀ q, va_A wc H.size q → A q)
    (kk : ∀ (H1 : Heap) (locs1 : List Loc), va_P D vwCl wc' H1 → va_D (va_A wc H.size) wc' → (∀ q : Nat, q < H.size → ¬ va_A wc H.size q → H1[q]? = H[q]?) → va_S A s.heap H1 locs1 → W p l e R s m args below meth c H1 locs1 cells slots Q (F0 m (pc + 3) ls (r.toList ++ rest))) : W p l e R s m args below meth c H locs cells slots Q (F0 m pc ls st0) := by
  obtain ⟨a, hr⟩ := hr
  intro T hT X
  obtain ⟨v, st₀, t, T', L, h0, X', hL, e1, e2, ⟨⟨hv, hp, hd⟩, hz, hk⟩, st⟩ := hr T hT X
  cases hv
  rw [h0] at hz hk
  obtain ⟨t2, a1, b1⟩ := kk T'.heap (locs ++ L) (by rw [e1]; exact hp) hd (fun q h1 h2 => by rw [e1]; exact hk q h1 h2)
    ⟨Nat.le_trans hS.1 (by rw [e1]; exact hz), fun q h1 h2 => by rw [e1, hk q (Nat.lt_of_lt_of_le h1 hS.1) (fun z => h2 (hF q z))]; exact hS.2.1 q h1 h2, fun q hq => by
      rcases List.mem_append.mp hq with h | h
      · exact hS.2.2 q h
      · exact hF _ (hL q h)⟩ T' rfl X'
  exact ⟨t2, st t2 a1, b1⟩
/-- the callee has the whole world -/
theorem mw_full {st0 st1 : List Value} (hr : MRun p l e R s m args below meth c H locs cells slots D wc wc' r (F0 m pc ls st0) rest) (hD : va_D A wc) (hS : va_S A s.heap H locs) (hA : ∀ q : Nat, s.heap.size ≤ q → A q) (hst : r.toList ++ rest = st1)
    (kk : ∀ (H1 : Heap) (locs1 : List Loc), va_P D vwCl wc' H1 → va_D A wc' → va_S A s.heap H1 locs1 → W p l e R s m args below meth c H1 locs1 cells slots Q (F0 m (pc + 3) ls st1)) : W p l e R s m args below meth c H locs cells slots Q (F0 m pc ls st0) := by
  have hF : ∀ q, va_A wc H.size q → A q := fun q h => by
    rcases h with ⟨k, e0, h⟩ | h
    · exact hD.2 k (q, e0) h
    · exact hA q (Nat.le_trans hS.1 h)
  exact mw_go hr hS hF (fun H1 locs1 hP1 hD1 _ hS1 => hst ▸ kk H1 locs1 hP1 (hD1.weaken (fun k q _ h => hF q.1 h)) hS1)
/-- the callee has no cells: nothing changes -/
theorem mw_none {st0 st1 : List Value} (hr : MRun p l e R s m args below meth c H locs cells slots D [] [] r (F0 m pc ls st0) rest) (hP : va_P D vwCl ws0 H) (hS : va_S A s.heap H locs) (hA : ∀ q : Nat, s.heap.size ≤ q → A q) (hst : r.toList ++ rest = st1)
    (kk : ∀ (H1 : Heap) (locs1 : List Loc), va_P D vwCl ws0 H1 → va_S A s.heap H1 locs1 → W p l e R s m args below meth c H1 locs1 cells slots Q (F0 m (pc + 3) ls st1)) : W p l e R s m args below meth c H locs cells slots Q (F0 m pc ls st0) := by
  have hno : ∀ q, va_A ([] : va_W) H.size q → H.size ≤ q := fun q h => by
    rcases h with ⟨k, e0, h⟩ | h
    · simp at h
    · exact h
  refine mw_go hr hS (fun q h => hA q (Nat.le_trans hS.1 (hno q h))) (fun H1 locs1 _ _ hk hS1 => hst ▸ kk H1 locs1 (hP.kept (fun k q hq => hk q.1 (hP k q hq).lt (fun h => ?_))) hS1)
  have h1 := hno _ h
  have h2 := (hP k q hq).lt
  omega
/-- the callee has a part of the world: what came back goes to the same places -/
theorem mw_part {st0 st1 : List Value} (hr : MRun p l e R s m args below meth c H locs cells slots D wc wc' r (F0 m pc ls st0) rest) (hP : va_P D vwCl ws0 H) (hD : va_D A ws0) (hS : va_S A s.heap H locs) (hA : ∀ q : Nat, s.heap.size ≤ q → A q) (isC isR : List Nat) (ord : List Nat) {wr : va_W} (hC : isC.map (fun i => ws0[i]?) = wc.map some) (hR : isR.map (fun i => ws0[i]?) = wr.map some) (hn : va_nd isR = true) (hdis : ∀ i ∈ isR, i ∉ isC) (ho : va_nd ord = true) (hw : ord.map (fun i => (wr ++ wc')[i]?) = w1.map some) (hst : r.toList ++ rest = st1)
    (kk : ∀ (H1 : Heap) (locs1 : List Loc), va_P D vwCl w1 H1 → va_D A w1 → va_S A s.heap H1 locs1 → W p l e R s m args below meth c H1 locs1 cells slots Q (F0 m (pc + 3) ls st1)) : W p l e R s m args below meth c H locs cells slots Q (F0 m pc ls st0) := by
  have hF := va_free hD hS hA isC hC
  refine mw_go hr hS hF (fun H1 locs1 hP1 hD1 hk hS1 => ?_)
  obtain ⟨a1, a2⟩ := va_join hP hD isC isR hC hR hn hdis hk hF hP1 hD1
  rw [hst]
  refine kk H1 locs1 (fun k q hq => ?_) (a2.sub ord ho hw) hS1
  have h1 : (ord.map (fun i => (wr ++ wc')[i]?))[k]? = some (some q) := by rw [hw, List.getElem?_map, hq]; rfl
  rw [List.getElem?_map] at h1
  cases hi : ord[k]? with
  | none => rw [hi] at h1; cases h1
  | some i => rw [hi] at h1; exact a1 i q (Option.some.inj h1)
end MWC
end
section
/-! a grid: its cells by one function of places: G k p is the array k at p, G 12 0 is today -/
def upG (G : Nat → Int → Int) (k : Nat) (z v : Int) : Nat → Int → Int := fun k' => if k' = k then upI (G k) z v else G k'
abbrev wG (g : Nat) (ad : Nat → Nat) (cI : ClassId) (G : Nat → Int → Int) : va_W := [(g, .inr (0, [.ref (ad 0), .ref (ad 1), .ref (ad 2), .ref (ad 3), .ref (ad 4), .ref (ad 5), .ref (ad 6), .ref (ad 7), .ref (ad 8), .ref (ad 9), .ref (ad 10), .ref (ad 11), .int (iI (G 12 0))])), (ad 0, .inl (cI, 48, .inl (aI (G 0)))), (ad 1, .inl (cI, 48, .inl (aI (G 1)))), (ad 2, .inl (cI, 48, .inl (aI (G 2)))), (ad 3, .inl (cI, 48, .inl (aI (G 3)))), (ad 4, .inl (cI, 18, .inl (aI (G 4)))), (ad 5, .inl (cI, 18, .inl (aI (G 5)))), (ad 6, .inl (cI, 6, .inl (aI (G 6)))), (ad 7, .inl (cI, 6, .inl (aI (G 7)))), (ad 8, .inl (cI, 6, .inl (aI (G 8)))), (ad 9, .inl (cI, 6, .inl (aI (G 9)))), (ad 10, .inl (cI, 9, .inl (aI (G 10)))), (ad 11, .inl (cI, 3, .inl (aI (G 11))))]
theorem wG_set0 (g : Nat) (ad : Nat → Nat) (cI : ClassId) (G : Nat → Int → Int) (z v : Int) : (wG g ad cI G).set 1 (ad 0, .inl (cI, 48, .inl (aI (upI (G 0) z v)))) = wG g ad cI (upG G 0 z v) := rfl
theorem wG_set1 (g : Nat) (ad : Nat → Nat) (cI : ClassId) (G : Nat → Int → Int) (z v : Int) : (wG g ad cI G).set 2 (ad 1, .inl (cI, 48, .inl (aI (upI (G 1) z v)))) = wG g ad cI (upG G 1 z v) := rfl
theorem wG_set2 (g : Nat) (ad : Nat → Nat) (cI : ClassId) (G : Nat → Int → Int) (z v : Int) : (wG g ad cI G).set 3 (ad 2, .inl (cI, 48, .inl (aI (upI (G 2) z v)))) = wG g ad cI (upG G 2 z v) := rfl
theorem wG_set3 (g : Nat) (ad : Nat → Nat) (cI : ClassId) (G : Nat → Int → Int) (z v : Int) : (wG g ad cI G).set 4 (ad 3, .inl (cI, 48, .inl (aI (upI (G 3) z v)))) = wG g ad cI (upG G 3 z v) := rfl
theorem wG_set4 (g : Nat) (ad : Nat → Nat) (cI : ClassId) (G : Nat → Int → Int) (z v : Int) : (wG g ad cI G).set 5 (ad 4, .inl (cI, 18, .inl (aI (upI (G 4) z v)))) = wG g ad cI (upG G 4 z v) := rfl
theorem wG_set5 (g : Nat) (ad : Nat → Nat) (cI : ClassId) (G : Nat → Int → Int) (z v : Int) : (wG g ad cI G).set 6 (ad 5, .inl (cI, 18, .inl (aI (upI (G 5) z v)))) = wG g ad cI (upG G 5 z v) := rfl
theorem wG_set6 (g : Nat) (ad : Nat → Nat) (cI : ClassId) (G : Nat → Int → Int) (z v : Int) : (wG g ad cI G).set 7 (ad 6, .inl (cI, 6, .inl (aI (upI (G 6) z v)))) = wG g ad cI (upG G 6 z v) := rfl
theorem wG_set7 (g : Nat) (ad : Nat → Nat) (cI : ClassId) (G : Nat → Int → Int) (z v : Int) : (wG g ad cI G).set 8 (ad 7, .inl (cI, 6, .inl (aI (upI (G 7) z v)))) = wG g ad cI (upG G 7 z v) := rfl
theorem wG_set8 (g : Nat) (ad : Nat → Nat) (cI : ClassId) (G : Nat → Int → Int) (z v : Int) : (wG g ad cI G).set 9 (ad 8, .inl (cI, 6, .inl (aI (upI (G 8) z v)))) = wG g ad cI (upG G 8 z v) := rfl
theorem wG_set9 (g : Nat) (ad : Nat → Nat) (cI : ClassId) (G : Nat → Int → Int) (z v : Int) : (wG g ad cI G).set 10 (ad 9, .inl (cI, 6, .inl (aI (upI (G 9) z v)))) = wG g ad cI (upG G 9 z v) := rfl
theorem wG_set10 (g : Nat) (ad : Nat → Nat) (cI : ClassId) (G : Nat → Int → Int) (z v : Int) : (wG g ad cI G).set 11 (ad 10, .inl (cI, 9, .inl (aI (upI (G 10) z v)))) = wG g ad cI (upG G 10 z v) := rfl
theorem wG_set11 (g : Nat) (ad : Nat → Nat) (cI : ClassId) (G : Nat → Int → Int) (z v : Int) : (wG g ad cI G).set 12 (ad 11, .inl (cI, 3, .inl (aI (upI (G 11) z v)))) = wG g ad cI (upG G 11 z v) := rfl
/-- what every state of a grid keeps; B bounds what is counted -/
def InvG (B : Int) (G : Nat → Int → Int) : Prop := (0 ≤ B ∧ B ≤ 100000000) ∧ (∀ p : Int, 0 ≤ p → p < 48 → 0 ≤ G 0 p ∧ G 0 p ≤ 2) ∧ (∀ p : Int, 0 ≤ p → p < 48 → 0 ≤ G 1 p ∧ G 1 p ≤ 999) ∧ (∀ p : Int, 0 ≤ p → p < 48 → 0 ≤ G 2 p ∧ G 2 p ≤ B) ∧ (∀ p : Int, 0 ≤ p → p < 48 → 0 ≤ G 3 p ∧ G 3 p ≤ G 12 0) ∧ (∀ p : Int, 0 ≤ p → p < 18 → 0 ≤ G 4 p ∧ G 4 p ≤ 999) ∧ (∀ p : Int, 0 ≤ p → p < 18 → 0 ≤ G 5 p ∧ G 5 p ≤ 1) ∧ (∀ p : Int, 0 ≤ p → p < 6 → 1 ≤ G 6 p ∧ G 6 p ≤ 200) ∧ (∀ p : Int, 0 ≤ p → p < 6 → 0 ≤ G 7 p ∧ G 7 p ≤ G 12 0) ∧ (∀ p : Int, 0 ≤ p → p < 6 → 0 ≤ G 8 p ∧ G 8 p ≤ 8 * B) ∧ (∀ p : Int, 0 ≤ p → p < 6 → 0 ≤ G 9 p ∧ G 9 p ≤ B) ∧ (∀ p : Int, 0 ≤ p → p < 9 → 0 ≤ G 10 p ∧ G 10 p ≤ B) ∧ (300 ≤ G 11 0 ∧ G 11 0 ≤ 700) ∧ (1 ≤ G 11 1 ∧ G 11 1 ≤ 300) ∧ (0 ≤ G 11 2 ∧ G 11 2 ≤ 99) ∧ (0 ≤ G 12 0 ∧ G 12 0 ≤ 10000000)
theorem invG_B {B : Int} {G : Nat → Int → Int} (h : InvG B G) : 0 ≤ B ∧ B ≤ 100000000 := h.1
theorem invG_0 {B : Int} {G : Nat → Int → Int} (h : InvG B G) (p : Int) (h0 : 0 ≤ p) (h1 : p < 48) : 0 ≤ G 0 p ∧ G 0 p ≤ 2 := h.2.1 p h0 h1
theorem invG_1 {B : Int} {G : Nat → Int → Int} (h : InvG B G) (p : Int) (h0 : 0 ≤ p) (h1 : p < 48) : 0 ≤ G 1 p ∧ G 1 p ≤ 999 := h.2.2.1 p h0 h1
theorem invG_2 {B : Int} {G : Nat → Int → Int} (h : InvG B G) (p : Int) (h0 : 0 ≤ p) (h1 : p < 48) : 0 ≤ G 2 p ∧ G 2 p ≤ B := h.2.2.2.1 p h0 h1
theorem invG_3 {B : Int} {G : Nat → Int → Int} (h : InvG B G) (p : Int) (h0 : 0 ≤ p) (h1 : p < 48) : 0 ≤ G 3 p ∧ G 3 p ≤ G 12 0 := h.2.2.2.2.1 p h0 h1
theorem invG_4 {B : Int} {G : Nat → Int → Int} (h : InvG B G) (p : Int) (h0 : 0 ≤ p) (h1 : p < 18) : 0 ≤ G 4 p ∧ G 4 p ≤ 999 := h.2.2.2.2.2.1 p h0 h1
theorem invG_5 {B : Int} {G : Nat → Int → Int} (h : InvG B G) (p : Int) (h0 : 0 ≤ p) (h1 : p < 18) : 0 ≤ G 5 p ∧ G 5 p ≤ 1 := h.2.2.2.2.2.2.1 p h0 h1
theorem invG_6 {B : Int} {G : Nat → Int → Int} (h : InvG B G) (p : Int) (h0 : 0 ≤ p) (h1 : p < 6) : 1 ≤ G 6 p ∧ G 6 p ≤ 200 := h.2.2.2.2.2.2.2.1 p h0 h1
theorem invG_7 {B : Int} {G : Nat → Int → Int} (h : InvG B G) (p : Int) (h0 : 0 ≤ p) (h1 : p < 6) : 0 ≤ G 7 p ∧ G 7 p ≤ G 12 0 := h.2.2.2.2.2.2.2.2.1 p h0 h1
theorem invG_8 {B : Int} {G : Nat → Int → Int} (h : InvG B G) (p : Int) (h0 : 0 ≤ p) (h1 : p < 6) : 0 ≤ G 8 p ∧ G 8 p ≤ 8 * B := h.2.2.2.2.2.2.2.2.2.1 p h0 h1
theorem invG_9 {B : Int} {G : Nat → Int → Int} (h : InvG B G) (p : Int) (h0 : 0 ≤ p) (h1 : p < 6) : 0 ≤ G 9 p ∧ G 9 p ≤ B := h.2.2.2.2.2.2.2.2.2.2.1 p h0 h1
theorem invG_10 {B : Int} {G : Nat → Int → Int} (h : InvG B G) (p : Int) (h0 : 0 ≤ p) (h1 : p < 9) : 0 ≤ G 10 p ∧ G 10 p ≤ B := h.2.2.2.2.2.2.2.2.2.2.2.1 p h0 h1
theorem invG_s0 {B : Int} {G : Nat → Int → Int} (h : InvG B G) : 300 ≤ G 11 0 ∧ G 11 0 ≤ 700 := h.2.2.2.2.2.2.2.2.2.2.2.2.1
theorem invG_s1 {B : Int} {G : Nat → Int → Int} (h : InvG B G) : 1 ≤ G 11 1 ∧ G 11 1 ≤ 300 := h.2.2.2.2.2.2.2.2.2.2.2.2.2.1
theorem invG_s2 {B : Int} {G : Nat → Int → Int} (h : InvG B G) : 0 ≤ G 11 2 ∧ G 11 2 ≤ 99 := h.2.2.2.2.2.2.2.2.2.2.2.2.2.2.1
theorem invG_d {B : Int} {G : Nat → Int → Int} (h : InvG B G) : 0 ≤ G 12 0 ∧ G 12 0 ≤ 10000000 := h.2.2.2.2.2.2.2.2.2.2.2.2.2.2.2
theorem invG_11 {B : Int} {G : Nat → Int → Int} (h : InvG B G) (p : Int) (h0 : 0 ≤ p) (h1 : p < 3) : 0 ≤ G 11 p ∧ G 11 p ≤ 700 := by
  have h2 := invG_s0 h
  have h3 := invG_s1 h
  have h4 := invG_s2 h
  rcases (show p = 0 ∨ p = 1 ∨ p = 2 by omega) with rfl | rfl | rfl <;> omega
/-! values -/
def sumZ : Nat → (Int → Int) → Int
  | 0, _ => 0
  | n + 1, f => sumZ n f + f n
def hornZ (f : Int → Int) : Nat → Int
  | 0 => 0
  | n + 1 => 3 * hornZ f n + f (7 - n)
def outZ (n lo hi : Int) : Int := if n < lo ∨ hi < n then 1 else 0
def aimZ (v : Int) : Int := 100 + 400 * v
def ownZ (G : Nat → Int → Int) (r w : Int) : Int := (G 4 (3 * r + w) + G 4 (3 * r + w + 1)) / 2
def rightZ (G : Nat → Int → Int) (r : Int) : Int := if r < 0 ∨ 6 ≤ r then 0 else if G 4 (3 * r + 1) - G 4 (3 * r) < G 11 1 then 0 else if G 4 (3 * r + 2) - G 4 (3 * r + 1) < G 11 1 then 0 else 1
def sourceZ (G : Nat → Int → Int) (r : Int) : Int := if rightZ G r ≠ 0 then 0 else if rightZ G (r - 1) ≠ 0 ∨ rightZ G (r + 1) ≠ 0 then 1 else 2
def thrZ (G : Nat → Int → Int) (r w : Int) : Int := if rightZ G r ≠ 0 then ownZ G r w else if rightZ G (r - 1) ≠ 0 ∧ rightZ G (r + 1) ≠ 0 then (ownZ G (r - 1) w + ownZ G (r + 1) w) / 2 else if rightZ G (r - 1) ≠ 0 then ownZ G (r - 1) w else if rightZ G (r + 1) ≠ 0 then ownZ G (r + 1) w else if w = 0 then 300 else 700
def tellZ (v lo up : Int) : Int := if v < lo then 0 else if up ≤ v then 2 else 1
def wrongByZ (G : Nat → Int → Int) (r lo up : Int) (n : Nat) : Int := sumZ n (fun c => if tellZ (G 1 (8 * r + c)) lo up = G 0 (8 * r + c) then 0 else 1)
def wrongZ (G : Nat → Int → Int) (r : Int) : Int := wrongByZ G r (thrZ G r 0) (thrZ G r 1) 8
def toldZ (G : Nat → Int → Int) (r c : Int) : Int := tellZ (G 1 (8 * r + c)) (thrZ G r 0) (thrZ G r 1)
def toldWordZ (G : Nat → Int → Int) (r : Int) : Int := hornZ (fun c => toldZ G r c) 8
def levelWordZ (G : Nat → Int → Int) (r : Int) : Int := hornZ (fun c => G 0 (8 * r + c)) 8
def putZ (G : Nat → Int → Int) (p v : Int) : Nat → Int → Int := upG (upG (upG (upG G 0 p v) 1 p (aimZ v + ((37 * p + 11 * G 2 p) % 21 - 10))) 2 p (G 2 p + 1)) 3 p (G 12 0)
def guardsZ (G : Nat → Int → Int) (r : Int) : Nat → (Nat → Int → Int)
  | 0 => G
  | n + 1 => if guardsZ G r n 5 (3 * r + n) = 0 then upG (guardsZ G r n) 4 (3 * r + n) (aimZ n) else guardsZ G r n
def writeGuardsZ (G : Nat → Int → Int) (r : Int) : Nat → Int → Int := upG (guardsZ G r 3) 7 r (guardsZ G r 3 12 0)
def ageZ (G : Nat → Int → Int) (r : Int) : Int := G 12 0 - G 7 r
def nearZ (m v rate : Int) : Int := if v < m then v + (if 1 < (m - v) * rate / 1000 then (m - v) * rate / 1000 else 1) else if m < v then v - (if 1 < (v - m) * rate / 1000 then (v - m) * rate / 1000 else 1) else v
theorem tellZ_01 (v lo up : Int) : 0 ≤ tellZ v lo up ∧ tellZ v lo up ≤ 2 := by unfold tellZ; omega
theorem outZ_01 (n lo hi : Int) : 0 ≤ outZ n lo hi ∧ outZ n lo hi ≤ 1 := by unfold outZ; omega
theorem rightZ_01 (G : Nat → Int → Int) (r : Int) : rightZ G r = 0 ∨ rightZ G r = 1 := by unfold rightZ; omega
theorem rightZ_in {G : Nat → Int → Int} {r : Int} (h : rightZ G r ≠ 0) : 0 ≤ r ∧ r < 6 := by unfold rightZ at h; omega
theorem ownZ_bd {B : Int} {G : Nat → Int → Int} (hI : InvG B G) (r w : Int) (h1 : 0 ≤ r ∧ r < 6) (h2 : 0 ≤ w ∧ w < 2) : 0 ≤ ownZ G r w ∧ ownZ G r w ≤ 999 := by
  have a1 := invG_4 hI (3 * r + w) (by omega) (by omega)
  have a2 := invG_4 hI (3 * r + w + 1) (by omega) (by omega)
  unfold ownZ
  omega
theorem thrZ_bd {B : Int} {G : Nat → Int → Int} (hI : InvG B G) (r w : Int) (h1 : 0 ≤ r ∧ r < 6) (h2 : 0 ≤ w ∧ w < 2) : 0 ≤ thrZ G r w ∧ thrZ G r w ≤ 999 := by
  unfold thrZ
  by_cases c1 : rightZ G r ≠ 0
  · rw [if_pos c1]; exact ownZ_bd hI r w h1 h2
  · rw [if_neg c1]
    by_cases c2 : rightZ G (r - 1) ≠ 0
    · have a1 := ownZ_bd hI (r - 1) w (rightZ_in c2) h2
      by_cases c3 : rightZ G (r + 1) ≠ 0
      · have a2 := ownZ_bd hI (r + 1) w (rightZ_in c3) h2
        rw [if_pos ⟨c2, c3⟩]; omega
      · rw [if_neg (fun q => c3 q.2), if_pos c2]; exact a1
    · rw [if_neg (fun q => c2 q.1), if_neg c2]
      by_cases c3 : rightZ G (r + 1) ≠ 0
      · rw [if_pos c3]; exact ownZ_bd hI (r + 1) w (rightZ_in c3) h2
      · rw [if_neg c3]; omega
theorem sumZ_bd {f : Int → Int} {M : Int} (h : ∀ c, 0 ≤ f c ∧ f c ≤ M) : ∀ n : Nat, 0 ≤ sumZ n f ∧ sumZ n f ≤ M * n := by
  intro n
  induction n with
  | zero => simp [sumZ]
  | succ n ih =>
    have h1 := h n
    have e : M * ((n + 1 : Nat) : Int) = M * n + M := by rw [Int.natCast_add, Int.mul_add]; simp
    rw [e]
    show 0 ≤ sumZ n f + f n ∧ sumZ n f + f n ≤ M * n + M
    omega
theorem wrongByZ_bd (G : Nat → Int → Int) (r lo up : Int) (n : Nat) : 0 ≤ wrongByZ G r lo up n ∧ wrongByZ G r lo up n ≤ n := by
  have h := sumZ_bd (f := fun c => if tellZ (G 1 (8 * r + c)) lo up = G 0 (8 * r + c) then 0 else 1) (M := 1) (fun c => by
    show 0 ≤ (if tellZ (G 1 (8 * r + c)) lo up = G 0 (8 * r + c) then (0 : Int) else 1) ∧ (if tellZ (G 1 (8 * r + c)) lo up = G 0 (8 * r + c) then (0 : Int) else 1) ≤ 1
    omega) n
  unfold wrongByZ
  omega
theorem wrongZ_bd (G : Nat → Int → Int) (r : Int) : 0 ≤ wrongZ G r ∧ wrongZ G r ≤ 8 := wrongByZ_bd G r _ _ 8
theorem hornZ_bd {f : Int → Int} (h : ∀ c, 0 ≤ c → c < 8 → 0 ≤ f c ∧ f c ≤ 2) : ∀ n : Nat, n ≤ 8 → 0 ≤ hornZ f n ∧ hornZ f n < 3 ^ n := by
  intro n
  induction n with
  | zero => intro _; simp [hornZ]
  | succ n ih =>
    intro hn
    have h1 := h (7 - n) (by omega) (by omega)
    have h2 := ih (by omega)
    have e : (3 : Int) ^ (n + 1) = 3 * 3 ^ n := by rw [Int.pow_succ, Int.mul_comm]
    rw [e]
    show 0 ≤ 3 * hornZ f n + f (7 - n) ∧ 3 * hornZ f n + f (7 - n) < 3 * 3 ^ n
    omega
theorem narrow_z01 {z : Int} (h : z = 0 ∨ z = 1) : narrow .boolean (.int (iI z)) = .int (iI z) := by
  rcases h with rfl | rfl <;> rfl
end
section
/-! what the steps of a grid keep -/
theorem invU {F : Int → Int} {z v p : Int} (P : Int → Prop) (hv : P v) (hp : P (F p)) : P (upI F z v p) := by
  unfold upI
  by_cases h : p = z
  · rw [if_pos h]; exact hv
  · rw [if_neg h]; exact hp
theorem invG_up0 {B : Int} {G : Nat → Int → Int} (h : InvG B G) (z : Int) {v : Int} (hv : 0 ≤ v ∧ v ≤ 2) : InvG B (upG G 0 z v) := ⟨h.1, (fun p h0 h1 => invU (fun x => 0 ≤ x ∧ x ≤ 2) hv (invG_0 h p h0 h1)), h.2.2.1, h.2.2.2.1, h.2.2.2.2.1, h.2.2.2.2.2.1, h.2.2.2.2.2.2.1, h.2.2.2.2.2.2.2.1, h.2.2.2.2.2.2.2.2.1, h.2.2.2.2.2.2.2.2.2.1, h.2.2.2.2.2.2.2.2.2.2.1, h.2.2.2.2.2.2.2.2.2.2.2.1, h.2.2.2.2.2.2.2.2.2.2.2.2.1, h.2.2.2.2.2.2.2.2.2.2.2.2.2.1, h.2.2.2.2.2.2.2.2.2.2.2.2.2.2.1, h.2.2.2.2.2.2.2.2.2.2.2.2.2.2.2⟩
theorem invG_up1 {B : Int} {G : Nat → Int → Int} (h : InvG B G) (z : Int) {v : Int} (hv : 0 ≤ v ∧ v ≤ 999) : InvG B (upG G 1 z v) := ⟨h.1, h.2.1, (fun p h0 h1 => invU (fun x => 0 ≤ x ∧ x ≤ 999) hv (invG_1 h p h0 h1)), h.2.2.2.1, h.2.2.2.2.1, h.2.2.2.2.2.1, h.2.2.2.2.2.2.1, h.2.2.2.2.2.2.2.1, h.2.2.2.2.2.2.2.2.1, h.2.2.2.2.2.2.2.2.2.1, h.2.2.2.2.2.2.2.2.2.2.1, h.2.2.2.2.2.2.2.2.2.2.2.1, h.2.2.2.2.2.2.2.2.2.2.2.2.1, h.2.2.2.2.2.2.2.2.2.2.2.2.2.1, h.2.2.2.2.2.2.2.2.2.2.2.2.2.2.1, h.2.2.2.2.2.2.2.2.2.2.2.2.2.2.2⟩
theorem invG_up2 {B : Int} {G : Nat → Int → Int} (h : InvG B G) (z : Int) {v : Int} (hv : 0 ≤ v ∧ v ≤ B) : InvG B (upG G 2 z v) := ⟨h.1, h.2.1, h.2.2.1, (fun p h0 h1 => invU (fun x => 0 ≤ x ∧ x ≤ B) hv (invG_2 h p h0 h1)), h.2.2.2.2.1, h.2.2.2.2.2.1, h.2.2.2.2.2.2.1, h.2.2.2.2.2.2.2.1, h.2.2.2.2.2.2.2.2.1, h.2.2.2.2.2.2.2.2.2.1, h.2.2.2.2.2.2.2.2.2.2.1, h.2.2.2.2.2.2.2.2.2.2.2.1, h.2.2.2.2.2.2.2.2.2.2.2.2.1, h.2.2.2.2.2.2.2.2.2.2.2.2.2.1, h.2.2.2.2.2.2.2.2.2.2.2.2.2.2.1, h.2.2.2.2.2.2.2.2.2.2.2.2.2.2.2⟩
theorem invG_up3 {B : Int} {G : Nat → Int → Int} (h : InvG B G) (z : Int) {v : Int} (hv : 0 ≤ v ∧ v ≤ G 12 0) : InvG B (upG G 3 z v) := ⟨h.1, h.2.1, h.2.2.1, h.2.2.2.1, (fun p h0 h1 => invU (fun x => 0 ≤ x ∧ x ≤ G 12 0) hv (invG_3 h p h0 h1)), h.2.2.2.2.2.1, h.2.2.2.2.2.2.1, h.2.2.2.2.2.2.2.1, h.2.2.2.2.2.2.2.2.1, h.2.2.2.2.2.2.2.2.2.1, h.2.2.2.2.2.2.2.2.2.2.1, h.2.2.2.2.2.2.2.2.2.2.2.1, h.2.2.2.2.2.2.2.2.2.2.2.2.1, h.2.2.2.2.2.2.2.2.2.2.2.2.2.1, h.2.2.2.2.2.2.2.2.2.2.2.2.2.2.1, h.2.2.2.2.2.2.2.2.2.2.2.2.2.2.2⟩
theorem invG_up4 {B : Int} {G : Nat → Int → Int} (h : InvG B G) (z : Int) {v : Int} (hv : 0 ≤ v ∧ v ≤ 999) : InvG B (upG G 4 z v) := ⟨h.1, h.2.1, h.2.2.1, h.2.2.2.1, h.2.2.2.2.1, (fun p h0 h1 => invU (fun x => 0 ≤ x ∧ x ≤ 999) hv (invG_4 h p h0 h1)), h.2.2.2.2.2.2.1, h.2.2.2.2.2.2.2.1, h.2.2.2.2.2.2.2.2.1, h.2.2.2.2.2.2.2.2.2.1, h.2.2.2.2.2.2.2.2.2.2.1, h.2.2.2.2.2.2.2.2.2.2.2.1, h.2.2.2.2.2.2.2.2.2.2.2.2.1, h.2.2.2.2.2.2.2.2.2.2.2.2.2.1, h.2.2.2.2.2.2.2.2.2.2.2.2.2.2.1, h.2.2.2.2.2.2.2.2.2.2.2.2.2.2.2⟩
theorem invG_up5 {B : Int} {G : Nat → Int → Int} (h : InvG B G) (z : Int) {v : Int} (hv : 0 ≤ v ∧ v ≤ 1) : InvG B (upG G 5 z v) := ⟨h.1, h.2.1, h.2.2.1, h.2.2.2.1, h.2.2.2.2.1, h.2.2.2.2.2.1, (fun p h0 h1 => invU (fun x => 0 ≤ x ∧ x ≤ 1) hv (invG_5 h p h0 h1)), h.2.2.2.2.2.2.2.1, h.2.2.2.2.2.2.2.2.1, h.2.2.2.2.2.2.2.2.2.1, h.2.2.2.2.2.2.2.2.2.2.1, h.2.2.2.2.2.2.2.2.2.2.2.1, h.2.2.2.2.2.2.2.2.2.2.2.2.1, h.2.2.2.2.2.2.2.2.2.2.2.2.2.1, h.2.2.2.2.2.2.2.2.2.2.2.2.2.2.1, h.2.2.2.2.2.2.2.2.2.2.2.2.2.2.2⟩
theorem invG_up6 {B : Int} {G : Nat → Int → Int} (h : InvG B G) (z : Int) {v : Int} (hv : 1 ≤ v ∧ v ≤ 200) : InvG B (upG G 6 z v) := ⟨h.1, h.2.1, h.2.2.1, h.2.2.2.1, h.2.2.2.2.1, h.2.2.2.2.2.1, h.2.2.2.2.2.2.1, (fun p h0 h1 => invU (fun x => 1 ≤ x ∧ x ≤ 200) hv (invG_6 h p h0 h1)), h.2.2.2.2.2.2.2.2.1, h.2.2.2.2.2.2.2.2.2.1, h.2.2.2.2.2.2.2.2.2.2.1, h.2.2.2.2.2.2.2.2.2.2.2.1, h.2.2.2.2.2.2.2.2.2.2.2.2.1, h.2.2.2.2.2.2.2.2.2.2.2.2.2.1, h.2.2.2.2.2.2.2.2.2.2.2.2.2.2.1, h.2.2.2.2.2.2.2.2.2.2.2.2.2.2.2⟩
theorem invG_up7 {B : Int} {G : Nat → Int → Int} (h : InvG B G) (z : Int) {v : Int} (hv : 0 ≤ v ∧ v ≤ G 12 0) : InvG B (upG G 7 z v) := ⟨h.1, h.2.1, h.2.2.1, h.2.2.2.1, h.2.2.2.2.1, h.2.2.2.2.2.1, h.2.2.2.2.2.2.1, h.2.2.2.2.2.2.2.1, (fun p h0 h1 => invU (fun x => 0 ≤ x ∧ x ≤ G 12 0) hv (invG_7 h p h0 h1)), h.2.2.2.2.2.2.2.2.2.1, h.2.2.2.2.2.2.2.2.2.2.1, h.2.2.2.2.2.2.2.2.2.2.2.1, h.2.2.2.2.2.2.2.2.2.2.2.2.1, h.2.2.2.2.2.2.2.2.2.2.2.2.2.1, h.2.2.2.2.2.2.2.2.2.2.2.2.2.2.1, h.2.2.2.2.2.2.2.2.2.2.2.2.2.2.2⟩
theorem invG_up8 {B : Int} {G : Nat → Int → Int} (h : InvG B G) (z : Int) {v : Int} (hv : 0 ≤ v ∧ v ≤ 8 * B) : InvG B (upG G 8 z v) := ⟨h.1, h.2.1, h.2.2.1, h.2.2.2.1, h.2.2.2.2.1, h.2.2.2.2.2.1, h.2.2.2.2.2.2.1, h.2.2.2.2.2.2.2.1, h.2.2.2.2.2.2.2.2.1, (fun p h0 h1 => invU (fun x => 0 ≤ x ∧ x ≤ 8 * B) hv (invG_8 h p h0 h1)), h.2.2.2.2.2.2.2.2.2.2.1, h.2.2.2.2.2.2.2.2.2.2.2.1, h.2.2.2.2.2.2.2.2.2.2.2.2.1, h.2.2.2.2.2.2.2.2.2.2.2.2.2.1, h.2.2.2.2.2.2.2.2.2.2.2.2.2.2.1, h.2.2.2.2.2.2.2.2.2.2.2.2.2.2.2⟩
theorem invG_up9 {B : Int} {G : Nat → Int → Int} (h : InvG B G) (z : Int) {v : Int} (hv : 0 ≤ v ∧ v ≤ B) : InvG B (upG G 9 z v) := ⟨h.1, h.2.1, h.2.2.1, h.2.2.2.1, h.2.2.2.2.1, h.2.2.2.2.2.1, h.2.2.2.2.2.2.1, h.2.2.2.2.2.2.2.1, h.2.2.2.2.2.2.2.2.1, h.2.2.2.2.2.2.2.2.2.1, (fun p h0 h1 => invU (fun x => 0 ≤ x ∧ x ≤ B) hv (invG_9 h p h0 h1)), h.2.2.2.2.2.2.2.2.2.2.2.1, h.2.2.2.2.2.2.2.2.2.2.2.2.1, h.2.2.2.2.2.2.2.2.2.2.2.2.2.1, h.2.2.2.2.2.2.2.2.2.2.2.2.2.2.1, h.2.2.2.2.2.2.2.2.2.2.2.2.2.2.2⟩
theorem invG_up10 {B : Int} {G : Nat → Int → Int} (h : InvG B G) (z : Int) {v : Int} (hv : 0 ≤ v ∧ v ≤ B) : InvG B (upG G 10 z v) := ⟨h.1, h.2.1, h.2.2.1, h.2.2.2.1, h.2.2.2.2.1, h.2.2.2.2.2.1, h.2.2.2.2.2.2.1, h.2.2.2.2.2.2.2.1, h.2.2.2.2.2.2.2.2.1, h.2.2.2.2.2.2.2.2.2.1, h.2.2.2.2.2.2.2.2.2.2.1, (fun p h0 h1 => invU (fun x => 0 ≤ x ∧ x ≤ B) hv (invG_10 h p h0 h1)), h.2.2.2.2.2.2.2.2.2.2.2.2.1, h.2.2.2.2.2.2.2.2.2.2.2.2.2.1, h.2.2.2.2.2.2.2.2.2.2.2.2.2.2.1, h.2.2.2.2.2.2.2.2.2.2.2.2.2.2.2⟩
theorem invG_up12 {B : Int} {G : Nat → Int → Int} (h : InvG B G) {v : Int} (hv : G 12 0 ≤ v ∧ v ≤ 10000000) : InvG B (upG G 12 0 v) := ⟨h.1, h.2.1, h.2.2.1, h.2.2.2.1, (fun p h0 h1 => by have h2 := invG_3 h p h0 h1; exact ⟨h2.1, Int.le_trans h2.2 hv.1⟩), h.2.2.2.2.2.1, h.2.2.2.2.2.2.1, h.2.2.2.2.2.2.2.1, (fun p h0 h1 => by have h2 := invG_7 h p h0 h1; exact ⟨h2.1, Int.le_trans h2.2 hv.1⟩), h.2.2.2.2.2.2.2.2.2.1, h.2.2.2.2.2.2.2.2.2.2.1, h.2.2.2.2.2.2.2.2.2.2.2.1, h.2.2.2.2.2.2.2.2.2.2.2.2.1, h.2.2.2.2.2.2.2.2.2.2.2.2.2.1, h.2.2.2.2.2.2.2.2.2.2.2.2.2.2.1, ⟨Int.le_trans (invG_d h).1 hv.1, hv.2⟩⟩
theorem invG_set0 {B : Int} {G : Nat → Int → Int} (h : InvG B G) {v : Int} (hv : 300 ≤ v ∧ v ≤ 700) : InvG B (upG G 11 0 v) := ⟨h.1, h.2.1, h.2.2.1, h.2.2.2.1, h.2.2.2.2.1, h.2.2.2.2.2.1, h.2.2.2.2.2.2.1, h.2.2.2.2.2.2.2.1, h.2.2.2.2.2.2.2.2.1, h.2.2.2.2.2.2.2.2.2.1, h.2.2.2.2.2.2.2.2.2.2.1, h.2.2.2.2.2.2.2.2.2.2.2.1, hv, h.2.2.2.2.2.2.2.2.2.2.2.2.2.1, h.2.2.2.2.2.2.2.2.2.2.2.2.2.2.1, h.2.2.2.2.2.2.2.2.2.2.2.2.2.2.2⟩
theorem invG_set1 {B : Int} {G : Nat → Int → Int} (h : InvG B G) {v : Int} (hv : 1 ≤ v ∧ v ≤ 300) : InvG B (upG G 11 1 v) := ⟨h.1, h.2.1, h.2.2.1, h.2.2.2.1, h.2.2.2.2.1, h.2.2.2.2.2.1, h.2.2.2.2.2.2.1, h.2.2.2.2.2.2.2.1, h.2.2.2.2.2.2.2.2.1, h.2.2.2.2.2.2.2.2.2.1, h.2.2.2.2.2.2.2.2.2.2.1, h.2.2.2.2.2.2.2.2.2.2.2.1, h.2.2.2.2.2.2.2.2.2.2.2.2.1, hv, h.2.2.2.2.2.2.2.2.2.2.2.2.2.2.1, h.2.2.2.2.2.2.2.2.2.2.2.2.2.2.2⟩
theorem invG_set2 {B : Int} {G : Nat → Int → Int} (h : InvG B G) {v : Int} (hv : 0 ≤ v ∧ v ≤ 99) : InvG B (upG G 11 2 v) := ⟨h.1, h.2.1, h.2.2.1, h.2.2.2.1, h.2.2.2.2.1, h.2.2.2.2.2.1, h.2.2.2.2.2.2.1, h.2.2.2.2.2.2.2.1, h.2.2.2.2.2.2.2.2.1, h.2.2.2.2.2.2.2.2.2.1, h.2.2.2.2.2.2.2.2.2.2.1, h.2.2.2.2.2.2.2.2.2.2.2.1, h.2.2.2.2.2.2.2.2.2.2.2.2.1, h.2.2.2.2.2.2.2.2.2.2.2.2.2.1, hv, h.2.2.2.2.2.2.2.2.2.2.2.2.2.2.2⟩
theorem invG_mono {B B' : Int} {G : Nat → Int → Int} (h : InvG B G) (hb : B ≤ B') (hb2 : B' ≤ 100000000) : InvG B' G := ⟨⟨Int.le_trans (invG_B h).1 hb, hb2⟩, h.2.1, h.2.2.1, (fun p h0 h1 => by have h2 := invG_2 h p h0 h1; exact ⟨h2.1, by omega⟩), h.2.2.2.2.1, h.2.2.2.2.2.1, h.2.2.2.2.2.2.1, h.2.2.2.2.2.2.2.1, h.2.2.2.2.2.2.2.2.1, (fun p h0 h1 => by have h2 := invG_8 h p h0 h1; exact ⟨h2.1, by omega⟩), (fun p h0 h1 => by have h2 := invG_9 h p h0 h1; exact ⟨h2.1, by omega⟩), (fun p h0 h1 => by have h2 := invG_10 h p h0 h1; exact ⟨h2.1, by omega⟩), h.2.2.2.2.2.2.2.2.2.2.2.2.1, h.2.2.2.2.2.2.2.2.2.2.2.2.2.1, h.2.2.2.2.2.2.2.2.2.2.2.2.2.2.1, h.2.2.2.2.2.2.2.2.2.2.2.2.2.2.2⟩
theorem aim_bd {v e : Int} (hv : 0 ≤ v ∧ v ≤ 2) (he : 0 ≤ e) : 0 ≤ aimZ v + (e % 21 - 10) ∧ aimZ v + (e % 21 - 10) ≤ 999 := by
  unfold aimZ; omega
theorem inv_put {B : Int} {G : Nat → Int → Int} (h : InvG B G) {p v : Int} (hp : 0 ≤ p ∧ p < 48) (hv : 0 ≤ v ∧ v ≤ 2) (ht : G 2 p + 1 ≤ B) : InvG B (putZ G p v) := by
  have h2 := invG_2 h p hp.1 hp.2
  have h3 := invG_d h
  unfold putZ
  refine invG_up3 (invG_up2 (invG_up1 (invG_up0 h p hv) p (aim_bd hv (by omega))) p ⟨by omega, ht⟩) p ⟨h3.1, Int.le_refl _⟩
theorem put_ne {G : Nat → Int → Int} {p v q : Int} (k : Nat) (h : q ≠ p) : putZ G p v k q = G k q := by
  unfold putZ upG
  by_cases h3 : k = 3
  · subst h3; rw [if_pos rfl]; rw [upI_n h]; rfl
  · rw [if_neg h3]
    by_cases h2 : k = 2
    · subst h2; rw [if_pos rfl, upI_n h]; rfl
    · rw [if_neg h2]
      by_cases h1 : k = 1
      · subst h1; rw [if_pos rfl, upI_n h]; rfl
      · rw [if_neg h1]
        by_cases h0 : k = 0
        · subst h0; rw [if_pos rfl, upI_n h]
        · rw [if_neg h0]
theorem put_k {G : Nat → Int → Int} {p v : Int} (k : Nat) (h : 4 ≤ k) : putZ G p v k = G k := by
  unfold putZ upG
  rw [if_neg (by omega), if_neg (by omega), if_neg (by omega), if_neg (by omega)]
theorem put_2 (G : Nat → Int → Int) (p v : Int) : putZ G p v 2 p = G 2 p + 1 := upI_s _ _ _
theorem put_1 (G : Nat → Int → Int) (p v : Int) : putZ G p v 1 p = aimZ v + ((37 * p + 11 * G 2 p) % 21 - 10) := upI_s _ _ _
theorem put_0 (G : Nat → Int → Int) (p v : Int) : putZ G p v 0 p = v := upI_s _ _ _
theorem put_3 (G : Nat → Int → Int) (p v : Int) : putZ G p v 3 p = G 12 0 := upI_s _ _ _
/-! the guards of a row -/
theorem guards_k (G : Nat → Int → Int) (r : Int) (k : Nat) (h : k ≠ 4) : ∀ n : Nat, guardsZ G r n k = G k := by
  intro n
  induction n with
  | zero => rfl
  | succ n ih =>
    show (if guardsZ G r n 5 (3 * r + n) = 0 then upG (guardsZ G r n) 4 (3 * r + n) (aimZ n) else guardsZ G r n) k = G k
    by_cases c : guardsZ G r n 5 (3 * r + n) = 0
    · rw [if_pos c]; unfold upG; rw [if_neg h]; exact ih
    · rw [if_neg c]; exact ih
theorem guards_inv {B : Int} {G : Nat → Int → Int} (h : InvG B G) (r : Int) : ∀ n : Nat, n ≤ 3 → InvG B (guardsZ G r n) := by
  intro n
  induction n with
  | zero => intro _; exact h
  | succ n ih =>
    intro hn
    show InvG B (if guardsZ G r n 5 (3 * r + n) = 0 then upG (guardsZ G r n) 4 (3 * r + n) (aimZ n) else guardsZ G r n)
    by_cases c : guardsZ G r n 5 (3 * r + n) = 0
    · rw [if_pos c]; exact invG_up4 (ih (by omega)) _ (by unfold aimZ; omega)
    · rw [if_neg c]; exact ih (by omega)
theorem writeGuards_inv {B : Int} {G : Nat → Int → Int} (h : InvG B G) (r : Int) : InvG B (writeGuardsZ G r) := by
  have h1 := guards_inv h r 3 (Nat.le_refl _)
  have h2 := invG_d h1
  exact invG_up7 h1 r ⟨h2.1, Int.le_refl _⟩
theorem writeGuards_k (G : Nat → Int → Int) (r : Int) (k : Nat) (h4 : k ≠ 4) (h7 : k ≠ 7) : writeGuardsZ G r k = G k := by
  unfold writeGuardsZ upG
  rw [if_neg h7]
  exact guards_k G r k h4 3
/-! drift -/
theorem near_bd {m v rate : Int} (hm : 300 ≤ m ∧ m ≤ 700) (hv : 0 ≤ v ∧ v ≤ 999) (hr : 1 ≤ rate ∧ rate ≤ 200) : 0 ≤ nearZ m v rate ∧ nearZ m v rate ≤ 999 := by
  unfold nearZ
  by_cases h : v < m
  · have h1 : (m - v) * rate ≤ (m - v) * 1000 := Int.mul_le_mul_of_nonneg_left (by omega) (by omega)
    rw [if_pos h]; split <;> omega
  · rw [if_neg h]
    by_cases h0 : m < v
    · have h1 : (v - m) * rate ≤ (v - m) * 1000 := Int.mul_le_mul_of_nonneg_left (by omega) (by omega)
      have h2 : 0 ≤ (v - m) * rate := Int.mul_nonneg (by omega) (by omega)
      rw [if_pos h0]; split <;> omega
    · rw [if_neg h0]; exact hv
def driftCZ (G : Nat → Int → Int) : Nat → (Nat → Int → Int)
  | 0 => G
  | n + 1 => upG (driftCZ G n) 1 n (nearZ (driftCZ G n 11 0) (driftCZ G n 1 n) (driftCZ G n 6 ((n : Int) / 8)))
def driftGZ (G : Nat → Int → Int) : Nat → (Nat → Int → Int)
  | 0 => G
  | n + 1 => if driftGZ G n 5 n = 0 then upG (driftGZ G n) 4 n (nearZ (driftGZ G n 11 0) (driftGZ G n 4 n) (driftGZ G n 6 ((n : Int) / 3))) else driftGZ G n
def driftZ (G : Nat → Int → Int) : Nat → Int → Int := driftGZ (driftCZ G 48) 18
theorem driftC_inv {B : Int} {G : Nat → Int → Int} (h : InvG B G) : ∀ n : Nat, n ≤ 48 → InvG B (driftCZ G n) := by
  intro n
  induction n with
  | zero => intro _; exact h
  | succ n ih =>
    intro hn
    have h1 := ih (by omega)
    exact invG_up1 h1 _ (near_bd (invG_s0 h1) (invG_1 h1 n (by omega) (by omega)) (invG_6 h1 ((n : Int) / 8) (by omega) (by omega)))
theorem driftG_inv {B : Int} {G : Nat → Int → Int} (h : InvG B G) : ∀ n : Nat, n ≤ 18 → InvG B (driftGZ G n) := by
  intro n
  induction n with
  | zero => intro _; exact h
  | succ n ih =>
    intro hn
    have h1 := ih (by omega)
    show InvG B (if driftGZ G n 5 n = 0 then upG (driftGZ G n) 4 n (nearZ (driftGZ G n 11 0) (driftGZ G n 4 n) (driftGZ G n 6 ((n : Int) / 3))) else driftGZ G n)
    by_cases c : driftGZ G n 5 n = 0
    · rw [if_pos c]
      exact invG_up4 h1 _ (near_bd (invG_s0 h1) (invG_4 h1 n (by omega) (by omega)) (invG_6 h1 ((n : Int) / 3) (by omega) (by omega)))
    · rw [if_neg c]; exact h1
theorem drift_inv {B : Int} {G : Nat → Int → Int} (h : InvG B G) : InvG B (driftZ G) := driftG_inv (driftC_inv h 48 (Nat.le_refl _)) 18 (Nat.le_refl _)
/-! writing a row -/
def restZ (w : Int) : Nat → Int
  | 0 => w
  | n + 1 => restZ w n / 3
def wordStZ (G : Nat → Int → Int) (r w : Int) : Nat → (Nat → Int → Int)
  | 0 => G
  | n + 1 => putZ (wordStZ G r w n) (8 * r + n) (restZ w n % 3)
theorem rest_bd {w : Int} (h : 0 ≤ w ∧ w < 2147483648) : ∀ n : Nat, 0 ≤ restZ w n ∧ restZ w n < 2147483648 := by
  intro n
  induction n with
  | zero => exact h
  | succ n ih => show 0 ≤ restZ w n / 3 ∧ restZ w n / 3 < 2147483648; omega
theorem wordSt_hi (G : Nat → Int → Int) (r w : Int) (k : Nat) : ∀ (n : Nat) (q : Int), 8 * r + n ≤ q → wordStZ G r w n k q = G k q := by
  intro n
  induction n with
  | zero => intro q _; rfl
  | succ n ih => intro q hq; exact (put_ne k (by omega)).trans (ih q (by omega))
theorem wordSt_inv {B : Int} {G : Nat → Int → Int} (h : InvG B G) (hB : B + 1 ≤ 100000000) {r w : Int} (hr : 0 ≤ r ∧ r < 6) (hw : 0 ≤ w ∧ w < 2147483648) : ∀ n : Nat, n ≤ 8 → InvG (B + 1) (wordStZ G r w n) := by
  intro n
  induction n with
  | zero => intro _; exact invG_mono h (by omega) hB
  | succ n ih =>
    intro hn
    have h1 := rest_bd hw n
    refine inv_put (ih (by omega)) (by omega) (by omega) ?_
    rw [wordSt_hi G r w 2 n _ (Int.le_refl _)]
    have h2 := invG_2 h (8 * r + n) (by omega) (by omega)
    omega
def anewStZ (G : Nat → Int → Int) (r lo up : Int) : Nat → (Nat → Int → Int)
  | 0 => G
  | n + 1 => putZ (anewStZ G r lo up n) (8 * r + n) (tellZ (anewStZ G r lo up n 1 (8 * r + n)) lo up)
def anewLostZ (G : Nat → Int → Int) (r lo up : Int) : Nat → Int
  | 0 => 0
  | n + 1 => if tellZ (anewStZ G r lo up n 1 (8 * r + n)) lo up = anewStZ G r lo up n 0 (8 * r + n) then anewLostZ G r lo up n else anewLostZ G r lo up n + 1
theorem anewSt_hi (G : Nat → Int → Int) (r lo up : Int) (k : Nat) : ∀ (n : Nat) (q : Int), 8 * r + n ≤ q → anewStZ G r lo up n k q = G k q := by
  intro n
  induction n with
  | zero => intro q _; rfl
  | succ n ih => intro q hq; exact (put_ne k (by omega)).trans (ih q (by omega))
theorem anewSt_inv {B : Int} {G : Nat → Int → Int} (h : InvG B G) (hB : B + 1 ≤ 100000000) {r lo up : Int} (hr : 0 ≤ r ∧ r < 6) : ∀ n : Nat, n ≤ 8 → InvG (B + 1) (anewStZ G r lo up n) := by
  intro n
  induction n with
  | zero => intro _; exact invG_mono h (by omega) hB
  | succ n ih =>
    intro hn
    refine inv_put (ih (by omega)) (by omega) (tellZ_01 _ _ _) ?_
    rw [anewSt_hi G r lo up 2 n _ (Int.le_refl _)]
    have h2 := invG_2 h (8 * r + n) (by omega) (by omega)
    omega
theorem anewLost_bd (G : Nat → Int → Int) (r lo up : Int) : ∀ n : Nat, 0 ≤ anewLostZ G r lo up n ∧ anewLostZ G r lo up n ≤ n := by
  intro n
  induction n with
  | zero => exact ⟨Int.le_refl _, Int.le_refl _⟩
  | succ n ih =>
    show 0 ≤ (if tellZ (anewStZ G r lo up n 1 (8 * r + n)) lo up = anewStZ G r lo up n 0 (8 * r + n) then anewLostZ G r lo up n else anewLostZ G r lo up n + 1) ∧ (if tellZ (anewStZ G r lo up n 1 (8 * r + n)) lo up = anewStZ G r lo up n 0 (8 * r + n) then anewLostZ G r lo up n else anewLostZ G r lo up n + 1) ≤ ((n + 1 : Nat) : Int)
    split <;> omega
def lostAnewZ (G : Nat → Int → Int) (r : Int) : Int := anewLostZ G r (thrZ G r 0) (thrZ G r 1) 8
def anewGZ (G : Nat → Int → Int) (r : Int) : Nat → Int → Int := writeGuardsZ (anewStZ G r (thrZ G r 0) (thrZ G r 1) 8) r
def writeAnewZ (G : Nat → Int → Int) (r : Int) : Nat → Int → Int := upG (upG (anewGZ G r) 8 r (anewGZ G r 8 r + lostAnewZ G r)) 9 r (anewGZ G r 9 r + 1)
theorem anewSt_k (G : Nat → Int → Int) (r lo up : Int) (k : Nat) (h : 4 ≤ k) : ∀ n : Nat, anewStZ G r lo up n k = G k := by
  intro n
  induction n with
  | zero => rfl
  | succ n ih => exact (put_k k h).trans ih
theorem anewG_k (G : Nat → Int → Int) (r : Int) (k : Nat) (h : 4 ≤ k) (h4 : k ≠ 4) (h7 : k ≠ 7) : anewGZ G r k = G k :=
  (writeGuards_k _ r k h4 h7).trans (anewSt_k G r _ _ k h 8)
theorem lostAnew_bd (G : Nat → Int → Int) (r : Int) : 0 ≤ lostAnewZ G r ∧ lostAnewZ G r ≤ 8 := anewLost_bd G r _ _ 8
theorem anewG_inv {B : Int} {G : Nat → Int → Int} (h : InvG B G) (hB : B + 1 ≤ 100000000) {r : Int} (hr : 0 ≤ r ∧ r < 6) : InvG (B + 1) (anewGZ G r) := writeGuards_inv (anewSt_inv h hB hr 8 (Nat.le_refl _)) r
theorem writeAnew_inv {B : Int} {G : Nat → Int → Int} (h : InvG B G) (hB : B + 1 ≤ 100000000) {r : Int} (hr : 0 ≤ r ∧ r < 6) : InvG (B + 1) (writeAnewZ G r) := by
  have h1 := anewG_inv h hB hr
  have h8 := invG_8 h r hr.1 hr.2
  have h9 := invG_9 h r hr.1 hr.2
  have e8 : anewGZ G r 8 r = G 8 r := congrFun (anewG_k G r 8 (by omega) (by omega) (by omega)) r
  have e9 : anewGZ G r 9 r = G 9 r := congrFun (anewG_k G r 9 (by omega) (by omega) (by omega)) r
  have hl := lostAnew_bd G r
  unfold writeAnewZ
  exact invG_up9 (invG_up8 h1 r (by rw [e8]; omega)) r (by rw [e9]; omega)
/-! days -/
def dayC (G : Nat → Int → Int) (r : Int) : Prop := 0 < G 11 2 ∧ G 11 2 ≤ ageZ G r
def dayStZ (G : Nat → Int → Int) : Nat → (Nat → Int → Int)
  | 0 => G
  | n + 1 => if 0 < dayStZ G n 11 2 ∧ dayStZ G n 11 2 ≤ ageZ (dayStZ G n) n then writeAnewZ (dayStZ G n) n else dayStZ G n
def dayLostZ (G : Nat → Int → Int) : Nat → Int
  | 0 => 0
  | n + 1 => if 0 < dayStZ G n 11 2 ∧ dayStZ G n 11 2 ≤ ageZ (dayStZ G n) n then dayLostZ G n + lostAnewZ (dayStZ G n) n else dayLostZ G n
def tickZ (G : Nat → Int → Int) : Nat → Int → Int := upG (driftZ G) 12 0 (driftZ G 12 0 + 1)
def endDayZ (G : Nat → Int → Int) : Nat → Int → Int := dayStZ (tickZ G) 6
def endLostZ (G : Nat → Int → Int) : Int := dayLostZ (tickZ G) 6
def daysStZ (G : Nat → Int → Int) : Nat → (Nat → Int → Int)
  | 0 => G
  | n + 1 => endDayZ (daysStZ G n)
def daysLostZ (G : Nat → Int → Int) : Nat → Int
  | 0 => 0
  | n + 1 => daysLostZ G n + endLostZ (daysStZ G n)
theorem dayRow_inv {B : Int} {G : Nat → Int → Int} (h : InvG B G) (hB : B + 6 ≤ 100000000) : ∀ n : Nat, n ≤ 6 → InvG (B + n) (dayStZ G n) := by
  intro n
  induction n with
  | zero => intro _; exact invG_mono h (by omega) (by omega)
  | succ n ih =>
    intro hn
    have h1 := ih (by omega)
    show InvG (B + ((n + 1 : Nat) : Int)) (if 0 < dayStZ G n 11 2 ∧ dayStZ G n 11 2 ≤ ageZ (dayStZ G n) n then writeAnewZ (dayStZ G n) n else dayStZ G n)
    by_cases c : 0 < dayStZ G n 11 2 ∧ dayStZ G n 11 2 ≤ ageZ (dayStZ G n) n
    · rw [if_pos c]; exact invG_mono (writeAnew_inv h1 (by omega) (r := (n : Int)) (by omega)) (by omega) (by omega)
    · rw [if_neg c]; exact invG_mono h1 (by omega) (by omega)
theorem tick_inv {B : Int} {G : Nat → Int → Int} (h : InvG B G) (hd : driftZ G 12 0 + 1 ≤ 10000000) : InvG B (tickZ G) := invG_up12 (drift_inv h) ⟨by omega, hd⟩
theorem driftC_k (G : Nat → Int → Int) (k : Nat) (h : k ≠ 1) : ∀ n : Nat, driftCZ G n k = G k := by
  intro n
  induction n with
  | zero => rfl
  | succ n ih =>
    show upG (driftCZ G n) 1 n (nearZ (driftCZ G n 11 0) (driftCZ G n 1 n) (driftCZ G n 6 ((n : Int) / 8))) k = G k
    unfold upG; rw [if_neg h]; exact ih
theorem driftG_k (G : Nat → Int → Int) (k : Nat) (h : k ≠ 4) : ∀ n : Nat, driftGZ G n k = G k := by
  intro n
  induction n with
  | zero => rfl
  | succ n ih =>
    show (if driftGZ G n 5 n = 0 then upG (driftGZ G n) 4 n (nearZ (driftGZ G n 11 0) (driftGZ G n 4 n) (driftGZ G n 6 ((n : Int) / 3))) else driftGZ G n) k = G k
    split
    · unfold upG; rw [if_neg h]; exact ih
    · exact ih
theorem drift_k (G : Nat → Int → Int) (k : Nat) (h1 : k ≠ 1) (h4 : k ≠ 4) : driftZ G k = G k := (driftG_k _ k h4 18).trans (driftC_k G k h1 48)
theorem drift_12 (G : Nat → Int → Int) : driftZ G 12 0 = G 12 0 := congrFun (drift_k G 12 (by omega) (by omega)) 0
theorem writeAnew_k (G : Nat → Int → Int) (r : Int) (k : Nat) (h : 10 ≤ k) : writeAnewZ G r k = G k := by
  unfold writeAnewZ upG
  rw [if_neg (by omega), if_neg (by omega)]
  exact anewG_k G r k (by omega) (by omega) (by omega)
theorem daySt_k (G : Nat → Int → Int) (k : Nat) (h : 10 ≤ k) : ∀ n : Nat, dayStZ G n k = G k := by
  intro n
  induction n with
  | zero => rfl
  | succ n ih =>
    show (if 0 < dayStZ G n 11 2 ∧ dayStZ G n 11 2 ≤ ageZ (dayStZ G n) n then writeAnewZ (dayStZ G n) n else dayStZ G n) k = G k
    split
    · exact (writeAnew_k _ _ k h).trans ih
    · exact ih
theorem endDay_12 (G : Nat → Int → Int) : endDayZ G 12 0 = G 12 0 + 1 := by
  have h := congrFun (daySt_k (tickZ G) 12 (by omega) 6) 0
  unfold endDayZ
  rw [h]
  show driftZ G 12 0 + 1 = _
  rw [drift_12]
theorem endDay_11 (G : Nat → Int → Int) (p : Int) : endDayZ G 11 p = G 11 p := by
  have h := congrFun (daySt_k (tickZ G) 11 (by omega) 6) p
  unfold endDayZ
  rw [h]
  exact congrFun (drift_k G 11 (by omega) (by omega)) p
theorem endDay_inv {B : Int} {G : Nat → Int → Int} (h : InvG B G) (hB : B + 6 ≤ 100000000) (hd : G 12 0 + 1 ≤ 10000000) : InvG (B + 6) (endDayZ G) :=
  dayRow_inv (tick_inv h (by rw [drift_12]; exact hd)) hB 6 (Nat.le_refl _)
theorem days_12 (G : Nat → Int → Int) : ∀ n : Nat, daysStZ G n 12 0 = G 12 0 + n := by
  intro n
  induction n with
  | zero => show G 12 0 = G 12 0 + 0; omega
  | succ n ih => show endDayZ (daysStZ G n) 12 0 = _; rw [endDay_12, ih]; omega
theorem days_inv {B : Int} {G : Nat → Int → Int} (h : InvG B G) : ∀ n : Nat, B + 6 * n ≤ 100000000 → G 12 0 + n ≤ 10000000 → InvG (B + 6 * n) (daysStZ G n) := by
  intro n
  induction n with
  | zero => intro hB _; exact invG_mono h (by omega) (by omega)
  | succ n ih =>
    intro hB hd
    have h1 := endDay_inv (ih (by omega) (by omega)) (by omega) (by rw [days_12]; omega)
    exact invG_mono h1 (by omega) (by omega)
theorem dayLost_bd (G : Nat → Int → Int) : ∀ n : Nat, 0 ≤ dayLostZ G n ∧ dayLostZ G n ≤ 8 * n := by
  intro n
  induction n with
  | zero => exact ⟨Int.le_refl _, Int.le_refl _⟩
  | succ n ih =>
    have h := lostAnew_bd (dayStZ G n) n
    show 0 ≤ (if 0 < dayStZ G n 11 2 ∧ dayStZ G n 11 2 ≤ ageZ (dayStZ G n) n then dayLostZ G n + lostAnewZ (dayStZ G n) n else dayLostZ G n) ∧ (if 0 < dayStZ G n 11 2 ∧ dayStZ G n 11 2 ≤ ageZ (dayStZ G n) n then dayLostZ G n + lostAnewZ (dayStZ G n) n else dayLostZ G n) ≤ 8 * ((n + 1 : Nat) : Int)
    split <;> omega
theorem endLost_bd (G : Nat → Int → Int) : 0 ≤ endLostZ G ∧ endLostZ G ≤ 48 := dayLost_bd (tickZ G) 6
theorem daysLost_bd (G : Nat → Int → Int) : ∀ n : Nat, 0 ≤ daysLostZ G n ∧ daysLostZ G n ≤ 48 * n := by
  intro n
  induction n with
  | zero => exact ⟨Int.le_refl _, Int.le_refl _⟩
  | succ n ih =>
    have h := endLost_bd (daysStZ G n)
    show 0 ≤ daysLostZ G n + endLostZ (daysStZ G n) ∧ daysLostZ G n + endLostZ (daysStZ G n) ≤ 48 * ((n + 1 : Nat) : Int)
    omega
end
section
/-! more values of a grid; bits -/
theorem z_asB {p : Program} {l : Launch} {e : Env} {R : Room} {s : State} {m : MethodId} {args : Array Value} {below : List Frame} {meth : Method} {c : Code} {H : Heap} {locs : List Loc} {cells slots : Nat} {Q : State → Prop} {pc : Nat} {ls : Array Slot} {rest : List Value} {x : Int32} {b : Int} (h : x = iI b) (k : W p l e R s m args below meth c H locs cells slots Q (F0 m pc ls (.int (iI b) :: rest))) : W p l e R s m args below meth c H locs cells slots Q (F0 m pc ls (.int x :: rest)) := by rw [h]; exact k
theorem mulb {a b : Int} (ha : 0 ≤ a ∧ a ≤ 1000) (hb : 0 ≤ b ∧ b ≤ 200) : 0 ≤ a * b ∧ a * b ≤ 200000 := by
  have h1 : a * b ≤ a * 200 := Int.mul_le_mul_of_nonneg_left hb.2 ha.1
  have h2 : 0 ≤ a * b := Int.mul_nonneg ha.1 hb.1
  omega
theorem age_bd {B : Int} {G : Nat → Int → Int} (hI : InvG B G) (r : Int) (h : 0 ≤ r ∧ r < 6) : 0 ≤ ageZ G r ∧ ageZ G r ≤ 10000000 := by
  have a := invG_7 hI r h.1 h.2
  have b := invG_d hI
  unfold ageZ
  omega
def bitsZ (f : Int → Int) : Nat → Int
  | 0 => 0
  | n + 1 => if f n = 0 then bitsZ f n else bitsZ f n + ((2 ^ n : Nat) : Int)
theorem bits_bd (f : Int → Int) : ∀ n : Nat, 0 ≤ bitsZ f n ∧ bitsZ f n < ((2 ^ n : Nat) : Int) := by
  intro n
  induction n with
  | zero => exact ⟨Int.le_refl _, by show (0 : Int) < 1; omega⟩
  | succ n ih =>
    have e : ((2 ^ (n + 1) : Nat) : Int) = 2 * ((2 ^ n : Nat) : Int) := by rw [Nat.pow_succ]; omega
    rw [e]
    show 0 ≤ (if f n = 0 then bitsZ f n else bitsZ f n + ((2 ^ n : Nat) : Int)) ∧ (if f n = 0 then bitsZ f n else bitsZ f n + ((2 ^ n : Nat) : Int)) < 2 * ((2 ^ n : Nat) : Int)
    split <;> omega
theorem bit_or_dec : ∀ n : Nat, n < 6 → ∀ a : Nat, a < 2 ^ n → iI (a : Int) ||| (iI 1 <<< (iI (n : Int) &&& 31)) = iI ((a : Int) + ((2 ^ n : Nat) : Int)) := by decide +kernel
theorem bit_or {a : Int} (n : Nat) (hn : n < 6) (ha : 0 ≤ a ∧ a < ((2 ^ n : Nat) : Int)) : iI a ||| (iI 1 <<< (iI (n : Int) &&& 31)) = iI (a + ((2 ^ n : Nat) : Int)) := by
  have h := bit_or_dec n hn a.toNat (by omega)
  have e : ((a.toNat : Nat) : Int) = a := by omega
  rw [e] at h
  exact h
def bitZ (t : Int) (n : Nat) : Int := t / ((2 ^ n : Nat) : Int) % 2
theorem bit_at_dec : ∀ n : Nat, n < 6 → ∀ a : Nat, a < 64 → (iI (a : Int) >>> (iI (n : Int) &&& 31)) &&& iI 1 = iI (bitZ (a : Int) n) := by decide +kernel
theorem bit_at {a : Int} (n : Nat) (hn : n < 6) (ha : 0 ≤ a ∧ a < 64) : (iI a >>> (iI (n : Int) &&& 31)) &&& iI 1 = iI (bitZ a n) := by
  have h := bit_at_dec n hn a.toNat (by omega)
  have e : ((a.toNat : Nat) : Int) = a := by omega
  rw [e] at h
  exact h
theorem bitZ_01 (t : Int) (n : Nat) : 0 ≤ bitZ t n ∧ bitZ t n ≤ 1 := by unfold bitZ; omega
theorem bit_set_dec : ∀ f : Nat, f < 6 → ∀ a : Nat, a < 64 → bitZ (a : Int) f = 0 → iI (a : Int) ||| (iI 1 <<< (iI (f : Int) &&& 31)) = iI ((a : Int) + ((2 ^ f : Nat) : Int)) := by decide +kernel
/-- the row with the most cells told wrong, but for a set: (row, how many) -/
def wbZ (G : Nat → Int → Int) (t : Int) : Nat → Int × Int
  | 0 => (0, -1)
  | n + 1 => if bitZ t n = 0 ∧ (wbZ G t n).2 < wrongZ G n then ((n : Int), wrongZ G n) else wbZ G t n
theorem wb_bd (G : Nat → Int → Int) (t : Int) : ∀ n : Nat, n ≤ 6 → (0 ≤ (wbZ G t n).1 ∧ (wbZ G t n).1 ≤ 5) ∧ (-1 ≤ (wbZ G t n).2 ∧ (wbZ G t n).2 ≤ 8) := by
  intro n
  induction n with
  | zero => intro _; exact ⟨⟨(by decide : (0 : Int) ≤ 0), (by decide : (0 : Int) ≤ 5)⟩, (by decide : (-1 : Int) ≤ -1), (by decide : (-1 : Int) ≤ 8)⟩
  | succ n ih =>
    intro hn
    have h := wrongZ_bd G n
    have h2 := ih (by omega)
    show (0 ≤ (if bitZ t n = 0 ∧ (wbZ G t n).2 < wrongZ G n then ((n : Int), wrongZ G n) else wbZ G t n).1 ∧ (if bitZ t n = 0 ∧ (wbZ G t n).2 < wrongZ G n then ((n : Int), wrongZ G n) else wbZ G t n).1 ≤ 5) ∧ (-1 ≤ (if bitZ t n = 0 ∧ (wbZ G t n).2 < wrongZ G n then ((n : Int), wrongZ G n) else wbZ G t n).2 ∧ (if bitZ t n = 0 ∧ (wbZ G t n).2 < wrongZ G n then ((n : Int), wrongZ G n) else wbZ G t n).2 ≤ 8)
    split
    · exact ⟨⟨by show (0 : Int) ≤ n; omega, by show (n : Int) ≤ 5; omega⟩, by show (-1 : Int) ≤ wrongZ G n; omega, by show wrongZ G n ≤ 8; omega⟩
    · exact h2
def rowSetZ (G : Nat → Int → Int) : Int := bitsZ (fun r => wrongZ G r) 6
def srcSetZ (G : Nat → Int → Int) (w : Int) : Int := bitsZ (fun r => if sourceZ G r = w then 1 else 0) 6
def pairsZ (G : Nat → Int → Int) (n : Nat) : Int := sumZ n (fun p => if G 10 p ≤ 0 then 0 else 1)
def ofLevelZ (G : Nat → Int → Int) (v : Int) (n : Nat) : Int := sumZ n (fun p => if G 0 p = v then 1 else 0)
def allWrongZ (G : Nat → Int → Int) (n : Nat) : Int := sumZ n (fun r => wrongZ G r)
def distZ (G : Nat → Int → Int) (n : Nat) : Int := sumZ n (fun p => if 0 ≤ G 1 p - aimZ (G 0 p) then G 1 p - aimZ (G 0 p) else 0 - (G 1 p - aimZ (G 0 p)))
def rightTZ (G : Nat → Int → Int) (n : Nat) : Int := sumZ n (fun p => G 10 (3 * p + p))
def badSetZ (w v : Int) : Int := if w = 0 then outZ v 300 700 else if w = 1 then outZ v 1 300 else outZ v 0 99
def cellV (G : Nat → Int → Int) (r c w : Int) : Int := if w = 0 then G 0 (8 * r + c) else if w = 1 then G 1 (8 * r + c) else if w = 2 then tellZ (G 1 (8 * r + c)) (thrZ G r 0) (thrZ G r 1) else if w = 3 then tellZ (G 1 (8 * r + c)) (ownZ G r 0) (ownZ G r 1) else if w = 4 then tellZ (G 1 (8 * r + c)) 300 700 else if w = 5 then G 2 (8 * r + c) else if w = 6 then (if (if 0 ≤ G 1 (8 * r + c) - thrZ G r 1 then G 1 (8 * r + c) - thrZ G r 1 else 0 - (G 1 (8 * r + c) - thrZ G r 1)) < (if 0 ≤ G 1 (8 * r + c) - thrZ G r 0 then G 1 (8 * r + c) - thrZ G r 0 else 0 - (G 1 (8 * r + c) - thrZ G r 0)) then (if 0 ≤ G 1 (8 * r + c) - thrZ G r 1 then G 1 (8 * r + c) - thrZ G r 1 else 0 - (G 1 (8 * r + c) - thrZ G r 1)) else (if 0 ≤ G 1 (8 * r + c) - thrZ G r 0 then G 1 (8 * r + c) - thrZ G r 0 else 0 - (G 1 (8 * r + c) - thrZ G r 0))) else if w = 7 then G 12 0 - G 3 (8 * r + c) else -1000001
def guardV (G : Nat → Int → Int) (r g w : Int) : Int := if w = 0 then G 4 (3 * r + g) else if w = 1 then G 5 (3 * r + g) else -1000001
def rowV (G : Nat → Int → Int) (r w : Int) : Int := if w = 0 then ownZ G r 0 else if w = 1 then ownZ G r 1 else if w = 2 then rightZ G r else if w = 3 then sourceZ G r else if w = 4 then thrZ G r 0 else if w = 5 then thrZ G r 1 else if w = 6 then wrongZ G r else if w = 7 then wrongByZ G r 300 700 8 else if w = 8 then G 6 r else if w = 9 then ageZ G r else if w = 10 then toldWordZ G r else if w = 11 then levelWordZ G r else if w = 12 then G 8 r else if w = 13 then G 9 r else -1000001
def tallyV (G : Nat → Int → Int) (w : Int) : Int := if w = 0 then G 12 0 else if w = 1 then allWrongZ G 6 else if w = 2 then rowSetZ G else if w = 3 then srcSetZ G 0 else if w = 4 then srcSetZ G 1 else if w = 5 then srcSetZ G 2 else if w = 6 then sumZ 18 (G 5) else if w = 7 then sumZ 6 (G 8) else if w = 8 then sumZ 48 (G 2) - 48 else if w = 9 then sumZ 6 (G 9) else if w = 10 then sumZ 9 (G 10) else if w = 11 then pairsZ G 9 else if w = 12 then ofLevelZ G 0 48 else if w = 13 then ofLevelZ G 1 48 else if w = 14 then ofLevelZ G 2 48 else if w = 20 then G 11 0 else if w = 21 then G 11 1 else if w = 22 then G 11 2 else -1000001
def askZ (G : Nat → Int → Int) (r c : Int) : Nat → Int → Int := upG G 10 (3 * G 0 (8 * r + c) + toldZ G r c) (G 10 (3 * G 0 (8 * r + c) + toldZ G r c) + 1)
theorem told_bd (G : Nat → Int → Int) (r c : Int) : 0 ≤ toldZ G r c ∧ toldZ G r c ≤ 2 := tellZ_01 _ _ _
end
section
/-! the reference's cells, the text's cells; the grid that the reference's row of numbers holds -/
abbrev wM (mo : Nat) (am : Nat → Nat) (cI : ClassId) (S : Nat → Int → Int) : va_W := [(mo, .inr (3, [.ref (am 0), .ref (am 1), .ref (am 2), .ref (am 3), .int (iI (S 4 0)), .ref (am 5), .int (iI (S 6 0)), .int (iI (S 7 0)), .int (iI (S 8 0)), .int (iI (S 9 0)), .int (iI (S 10 0)), .ref (am 11), .int (iI (S 12 0)), .int (iI (S 13 0))])), (am 0, .inl (cI, 269, .inl (aI (S 0)))), (am 1, .inl (cI, 269, .inl (aI (S 1)))), (am 2, .inl (cI, 269, .inl (aI (S 2)))), (am 3, .inl (cI, 1076, .inl (aI (S 3)))), (am 5, .inl (cI, 60, .inl (aI (S 5)))), (am 11, .inl (cI, 3, .inl (aI (S 11))))]
theorem wM_set0 (mo : Nat) (am : Nat → Nat) (cI : ClassId) (S : Nat → Int → Int) (z v : Int) : (wM mo am cI S).set 1 (am 0, .inl (cI, 269, .inl (aI (upI (S 0) z v)))) = wM mo am cI (upG S 0 z v) := rfl
theorem wM_set1 (mo : Nat) (am : Nat → Nat) (cI : ClassId) (S : Nat → Int → Int) (z v : Int) : (wM mo am cI S).set 2 (am 1, .inl (cI, 269, .inl (aI (upI (S 1) z v)))) = wM mo am cI (upG S 1 z v) := rfl
theorem wM_set2 (mo : Nat) (am : Nat → Nat) (cI : ClassId) (S : Nat → Int → Int) (z v : Int) : (wM mo am cI S).set 3 (am 2, .inl (cI, 269, .inl (aI (upI (S 2) z v)))) = wM mo am cI (upG S 2 z v) := rfl
theorem wM_set3 (mo : Nat) (am : Nat → Nat) (cI : ClassId) (S : Nat → Int → Int) (z v : Int) : (wM mo am cI S).set 4 (am 3, .inl (cI, 1076, .inl (aI (upI (S 3) z v)))) = wM mo am cI (upG S 3 z v) := rfl
theorem wM_set5 (mo : Nat) (am : Nat → Nat) (cI : ClassId) (S : Nat → Int → Int) (z v : Int) : (wM mo am cI S).set 5 (am 5, .inl (cI, 60, .inl (aI (upI (S 5) z v)))) = wM mo am cI (upG S 5 z v) := rfl
theorem wM_set11 (mo : Nat) (am : Nat → Nat) (cI : ClassId) (S : Nat → Int → Int) (z v : Int) : (wM mo am cI S).set 6 (am 11, .inl (cI, 3, .inl (aI (upI (S 11) z v)))) = wM mo am cI (upG S 11 z v) := rfl
abbrev wT (t : Nat) (ta : Nat → Nat) (cI cC : ClassId) (T : Nat → Int → Int) : va_W := [(t, .inr (1, [.ref (ta 0), .int (iI (T 1 0)), .int (iI (T 2 0)), .ref (ta 3), .int (iI (T 4 0))])), (ta 0, .inl (cC, 60, .inl (aI (T 0)))), (ta 3, .inl (cI, 3, .inl (aI (T 3))))]
theorem iI_nI {z : Int} (h : 0 ≤ z) : iI z = nI z.toNat := by
  unfold iI nI
  rw [← Int32.ofInt_eq_ofNat]
  congr 1
  omega
theorem narrow_c {z : Int} (h : 0 ≤ z ∧ z < 65536) : narrow .char (.int (iI z)) = .int (iI z) := by
  rw [iI_nI h.1]; exact (pk_charN (by omega)).1
theorem fits_c {z : Int} (h : 0 ≤ z ∧ z < 65536) : fits .char (.int (iI z)) = true := by
  rw [iI_nI h.1]; exact (pk_charN (by omega)).2
theorem fits_z01 {z : Int} (h : z = 0 ∨ z = 1) : fits .boolean (.int (iI z)) = true := by
  rcases h with rfl | rfl <;> rfl
theorem nar_c {z : Int} (h : 0 ≤ z ∧ z < 65536) : vp_nar .char (iI z) = iI z := by
  unfold vp_nar
  rw [narrow_c h]
theorem i2c_z {z : Int} (h : 0 ≤ z ∧ z < 65536) : ((iI z).toUInt32 % 65536).toInt32 = iI z := by
  rw [pk_char, iI_nI h.1, pk_tn (by omega), Nat.mod_eq_of_lt (by omega)]
theorem va_P_cell {D : va_G} {cl : List vw_C} {ws : va_W} {q1 a n : Nat} {c1 : ClassId} {f g : Nat → Int32} {H : Heap} (h : va_P D cl (ws.set q1 (a, .inl (c1, n, .inl f))) H) (e : ∀ j, j < n → f j = g j) : va_P D cl (ws.set q1 (a, .inl (c1, n, .inl g))) H := by
  intro k q hk
  by_cases hkq : k = q1
  · subst hkq
    by_cases hl : k < ws.length
    · rw [List.getElem?_set_self hl] at hk
      cases hk
      have h1 := h k _ (List.getElem?_set_self hl)
      show H[a]? = some (vp_cell c1 (n, .inl g))
      have h2 : vp_cell c1 (n, .inl g) = vp_cell c1 (n, .inl f) := by
        show arrV c1 n (fun j => .int (g j)) = arrV c1 n (fun j => .int (f j))
        unfold arrV
        congr 2
        funext j
        show Value.int (g j.val) = Value.int (f j.val)
        rw [e j.val j.isLt]
      rw [h2]
      exact h1
    · have h3 : (ws.set k (a, .inl (c1, n, .inl g)))[k]? = none := by
        rw [List.getElem?_eq_none_iff, List.length_set]; omega
      rw [h3] at hk
      cases hk
  · rw [List.getElem?_set_ne (Ne.symm hkq)] at hk
    exact h k q (by rw [List.getElem?_set_ne (Ne.symm hkq)]; exact hk)
section ZC
variable {p : Program} {l : Launch} {e : Env} {R : Room} {s : State} {m : MethodId} {args : Array Value} {below : List Frame} {meth : Method} {c : Code} {H : Heap} {locs : List Loc} {cells slots : Nat} {Q : State → Prop}
variable {cc : ByteArray} {pc : Nat} {ls : Array Slot} {rest : List Value} {D : va_G} {cl : List vw_C} {A : Nat → Prop} {a : Nat} {tys : List (ClassId × FieldType)} {ws w1 : va_W} {H0 : Heap}
theorem z_copy (hexec : p.tables.exec = Jvm.exec) (hb : c.code = cc) (hml : c.maxLocals = ls.size) {own : String} {index : Nat} (hown : s.vm.findClass own = some m.cls) (hlink : (Cond.methodLink own index arraycopyName).before args s = true) (hnat : (Cond.native arraycopyName).before args s = true) (hstat : (Cond.static arraycopyName).before args s = true) (hini : (Cond.initialized "java/lang/System").before args s = true)
    (hK : va_K D cl tys s) (hP : va_P D cl ws H) (hD : va_D A ws) (hS : va_S A H0 H locs) (q0 q1 t0 t1 : Nat) {a0 : Nat} {c0 c1 : ClassId} {n : Nat} {F G : Int → Int} (ha0 : ws[q0]? = some (a0, .inl (c0, n, .inl (aI F)))) (ha1 : ws[q1]? = some (a, .inl (c1, n, .inl (aI G)))) (ht0 : tys[t0]? = some (c0, .int)) (ht1 : tys[t1]? = some (c1, .int)) {z : Int} (hz : z = (n : Int) ∧ z < 2147483648)
    (hw : ws.set q1 (a, .inl (c1, n, .inl (aI F))) = w1) (hframes : 1 ≤ R.frames) (hlocals : 26 ≤ R.locals) (hrest : (rest.map fun v => v.category).sum ≤ 8) (hdg : decode cc pc = .ok (.invokestatic index, 3))
    (kk : ∀ (H1 : Heap) (locs1 : List Loc), va_P D cl w1 H1 → va_D A w1 → va_S A H0 H1 locs1 → W p l e R s m args below meth c H1 locs1 cells slots Q (F0 m (pc + 3) ls rest)) : W p l e R s m args below meth c H locs cells slots Q (F0 m pc ls (.int (iI z) :: .int (iI 0) :: .ref a :: .int (iI 0) :: .ref a0 :: rest)) := by
  have e0 : (iI 0).toNatClampNeg = 0 := by decide +kernel
  have ez : (iI z).toNatClampNeg = n := by rw [iI_clamp (by omega) hz.2]; omega
  have h0 : ¬ iI 0 < 0 := by decide +kernel
  have hz0 : ¬ iI z < 0 := by rw [← iI_0, iI_lt (by omega) (by omega)]; omega
  refine va_copyi (ty := .int) hexec hb hml hown hlink hnat hstat hini hK hP hD hS q0 q1 t0 t1 ha0 ha1 ht0 ht1 rfl h0 h0 hz0 (by rw [e0, ez]; omega) (by rw [e0, ez]; omega) (fun _ _ => rfl) hframes (by
    have e7 : nativeFrameWords "java/lang/System" "arraycopy" 5 = 7 := by decide +kernel
    rw [e7]; omega) hdg (fun H1 locs1 hP1 hD1 hS1 => ?_)
  rw [e0, ez] at hP1
  refine kk H1 locs1 ?_ ?_ hS1
  · rw [← hw]
    refine va_P_cell hP1 (fun j hj => ?_)
    unfold va_cpy
    rw [if_pos ⟨Nat.zero_le _, by omega⟩]
    simp
  · rw [← hw]
    exact hD.set ha1
theorem z_cald (hexec : p.tables.exec = Jvm.exec) (hb : c.code = cc) (hK : va_K D cl tys s) (hP : va_P D cl ws H) (q0 t0 : Nat) {cA : ClassId} {n : Nat} {F : Int → Int} (ha : ws[q0]? = some (a, .inl (cA, n, .inl (aI F)))) (ht : tys[t0]? = some (cA, .char)) {z : Int} (h0 : 0 ≤ z ∧ z < (n : Int)) (hn : n < 2147483648) {v : Int} (hv : F z = v) (hdg : decode cc pc = .ok (.caload, 1))
    (kk : W p l e R s m args below meth c H locs cells slots Q (F0 m (pc + 1) ls (.int (iI v) :: rest))) : W p l e R s m args below meth c H locs cells slots Q (F0 m pc ls (.int (iI z) :: .ref a :: rest)) :=
  va_cald hexec hb hK hP q0 t0 ha ht (iI_in h0.1 h0.2 hn) hdg (by
    have hz : ((z.toNat : Nat) : Int) = z := by omega
    rw [iI_clamp h0.1 (by omega)]
    show W p l e R s m args below meth c H locs cells slots Q (F0 m (pc + 1) ls (.int (iI (F ((z.toNat : Nat) : Int))) :: rest))
    rw [hz, hv]; exact kk)
theorem z_cast (hexec : p.tables.exec = Jvm.exec) (hb : c.code = cc) (hK : va_K D cl tys s) (hP : va_P D cl ws H) (hD : va_D A ws) (hS : va_S A H0 H locs) (q0 t0 : Nat) {cA : ClassId} {n : Nat} {F : Int → Int} (ha : ws[q0]? = some (a, .inl (cA, n, .inl (aI F)))) (ht : tys[t0]? = some (cA, .char)) {z v : Int} (h0 : 0 ≤ z ∧ z < (n : Int)) (hn : n < 2147483648) (hv : 0 ≤ v ∧ v < 65536) (hw : ws.set q0 (a, .inl (cA, n, .inl (aI (upI F z v)))) = w1) (hdg : decode cc pc = .ok (.castore, 1))
    (kk : ∀ (H1 : Heap) (locs1 : List Loc), va_P D cl w1 H1 → va_D A w1 → va_S A H0 H1 locs1 → W p l e R s m args below meth c H1 locs1 cells slots Q (F0 m (pc + 1) ls rest)) : W p l e R s m args below meth c H locs cells slots Q (F0 m pc ls (.int (iI v) :: .int (iI z) :: .ref a :: rest)) := by
  refine va_cast hexec hb hK hP hD hS q0 t0 ha ht (iI_in h0.1 h0.2 hn) hdg ?_
  rw [nar_c hv, aI_up h0.1 (by omega), hw]
  exact kk
end ZC
/-! the grid in the reference's row of numbers -/
def lenZ (k : Nat) : Int := if k < 4 then 48 else if k < 6 then 18 else if k < 10 then 6 else if k = 10 then 9 else if k = 11 then 3 else if k = 12 then 1 else 0
def ixZ (k : Nat) (p : Int) : Int := if k < 4 then 17 + 42 * (p / 8) + (10 + (4 * (p % 8) + k)) else if k = 4 then 17 + 42 * (p / 3) + (4 + p % 3) else if k = 5 then 17 + 42 * (p / 3) + (7 + p % 3) else if k < 10 then 17 + 42 * p + ((k : Int) - 6) else if k = 10 then 8 + p else if k = 11 then 1 + p else p
def gOf (s : Int → Int) : Nat → Int → Int := fun k p => if 0 ≤ p ∧ p < lenZ k then s (ixZ k p) else 0
theorem ix_k (k : Nat) (h : k < 13) : k = 0 ∨ k = 1 ∨ k = 2 ∨ k = 3 ∨ k = 4 ∨ k = 5 ∨ k = 6 ∨ k = 7 ∨ k = 8 ∨ k = 9 ∨ k = 10 ∨ k = 11 ∨ k = 12 := by omega
/-- the part of a place: the cell's, the guard's .. of its row -/
theorem ix_rows {k : Nat} (hk : k < 10) {p : Int} (hp : 0 ≤ p ∧ p < lenZ k) : 17 ≤ ixZ k p ∧ ixZ k p < 269 ∧ ((ixZ k p - 17) % 42 = if k < 4 then 10 + (4 * (p % 8) + k) else if k = 4 then 4 + p % 3 else if k = 5 then 7 + p % 3 else (k : Int) - 6) ∧ ((ixZ k p - 17) / 42 = if k < 4 then p / 8 else if k < 6 then p / 3 else p) := by
  rcases (show k = 0 ∨ k = 1 ∨ k = 2 ∨ k = 3 ∨ k = 4 ∨ k = 5 ∨ k = 6 ∨ k = 7 ∨ k = 8 ∨ k = 9 by omega) with rfl | rfl | rfl | rfl | rfl | rfl | rfl | rfl | rfl | rfl <;> simp [ixZ, lenZ] at hp ⊢ <;> omega
theorem ix_top {k : Nat} (hk : 10 ≤ k) (hk2 : k < 13) {p : Int} (hp : 0 ≤ p ∧ p < lenZ k) : ixZ k p = (if k = 10 then 8 + p else if k = 11 then 1 + p else 0) ∧ (k = 10 → p < 9) ∧ (k = 11 → p < 3) ∧ (k = 12 → p = 0) := by
  rcases (show k = 10 ∨ k = 11 ∨ k = 12 by omega) with rfl | rfl | rfl <;> simp [ixZ, lenZ] at hp ⊢ <;> omega
theorem ix_inj {k k' : Nat} {p q : Int} (hp : 0 ≤ p ∧ p < lenZ k) (hq : 0 ≤ q ∧ q < lenZ k') (h : ixZ k p = ixZ k' q) : k = k' ∧ p = q := by
  have hk : k < 13 := by
    rcases Nat.lt_or_ge k 13 with a | a
    · exact a
    · exfalso; unfold lenZ at hp; rw [if_neg (by omega), if_neg (by omega), if_neg (by omega), if_neg (by omega), if_neg (by omega), if_neg (by omega)] at hp; omega
  have hk' : k' < 13 := by
    rcases Nat.lt_or_ge k' 13 with a | a
    · exact a
    · exfalso; unfold lenZ at hq; rw [if_neg (by omega), if_neg (by omega), if_neg (by omega), if_neg (by omega), if_neg (by omega), if_neg (by omega)] at hq; omega
  by_cases a : k < 10
  · have h1 := ix_rows a hp
    by_cases b : k' < 10
    · have h2 := ix_rows b hq
      rw [← h] at h2
      have e1 := h1.2.2.1.symm.trans h2.2.2.1
      have e2 := h1.2.2.2.symm.trans h2.2.2.2
      clear h h1 h2 hp hq
      rcases (show k = 0 ∨ k = 1 ∨ k = 2 ∨ k = 3 ∨ k = 4 ∨ k = 5 ∨ k = 6 ∨ k = 7 ∨ k = 8 ∨ k = 9 by omega) with rfl | rfl | rfl | rfl | rfl | rfl | rfl | rfl | rfl | rfl <;> rcases (show k' = 0 ∨ k' = 1 ∨ k' = 2 ∨ k' = 3 ∨ k' = 4 ∨ k' = 5 ∨ k' = 6 ∨ k' = 7 ∨ k' = 8 ∨ k' = 9 by omega) with rfl | rfl | rfl | rfl | rfl | rfl | rfl | rfl | rfl | rfl <;> simp at e1 e2 ⊢ <;> omega
    · have h2 := ix_top (Nat.not_lt.mp b) hk' hq
      exfalso
      rw [← h] at h2
      have := h2.1
      split at this <;> (try split at this) <;> omega
  · have h1 := ix_top (Nat.not_lt.mp a) hk hp
    by_cases b : k' < 10
    · have h2 := ix_rows b hq
      exfalso
      rw [h] at h1
      have := h1.1
      split at this <;> (try split at this) <;> omega
    · have h2 := ix_top (Nat.not_lt.mp b) hk' hq
      rw [h] at h1
      have e := h1.1.symm.trans h2.1
      rcases (show k = 10 ∨ k = 11 ∨ k = 12 by omega) with rfl | rfl | rfl <;> rcases (show k' = 10 ∨ k' = 11 ∨ k' = 12 by omega) with rfl | rfl | rfl <;> simp at e h1 h2 ⊢ <;> omega
theorem gOf_in (s : Int → Int) {k : Nat} {p : Int} (h : 0 ≤ p ∧ p < lenZ k) : gOf s k p = s (ixZ k p) := if_pos h
theorem gOf_no (s : Int → Int) {k : Nat} {p : Int} (h : ¬ (0 ≤ p ∧ p < lenZ k)) : gOf s k p = 0 := if_neg h
theorem gOf_up (s : Int → Int) {k : Nat} {p v : Int} (hp : 0 ≤ p ∧ p < lenZ k) : gOf (upI s (ixZ k p) v) = upG (gOf s) k p v := by
  funext k' q
  by_cases hk : k' = k
  · subst hk
    have e1 : upG (gOf s) k' p v k' = upI (gOf s k') p v := if_pos rfl
    rw [e1]
    by_cases hq : 0 ≤ q ∧ q < lenZ k'
    · rw [gOf_in _ hq]
      by_cases e : q = p
      · subst e; rw [upI_s, upI_s]
      · rw [upI_n (fun h => e (ix_inj hq hp h).2), upI_n e, gOf_in _ hq]
    · rw [gOf_no _ hq, upI_n (fun h => hq (by rw [h]; exact hp)), gOf_no _ hq]
  · have e1 : upG (gOf s) k p v k' = gOf s k' := if_neg hk
    rw [e1]
    by_cases hq : 0 ≤ q ∧ q < lenZ k'
    · rw [gOf_in _ hq, gOf_in _ hq, upI_n (fun h => hk (ix_inj hq hp h).1)]
    · rw [gOf_no _ hq, gOf_no _ hq]
theorem gOf_out (s : Int → Int) {i v : Int} (hi : 4 ≤ i ∧ i ≤ 7) : gOf (upI s i v) = gOf s := by
  funext k q
  unfold gOf
  by_cases hq : 0 ≤ q ∧ q < lenZ k
  · rw [if_pos hq, if_pos hq]
    refine upI_n (fun h => ?_)
    by_cases a : k < 10
    · have := ix_rows a hq; omega
    · have hk : k < 13 := by
        rcases Nat.lt_or_ge k 13 with b | b
        · exact b
        · exfalso; unfold lenZ at hq; rw [if_neg (by omega), if_neg (by omega), if_neg (by omega), if_neg (by omega), if_neg (by omega), if_neg (by omega)] at hq; omega
      have h2 := ix_top (Nat.not_lt.mp a) hk hq
      have := h2.1
      split at this
      · omega
      · split at this <;> omega
  · rw [if_neg hq, if_neg hq]
end
