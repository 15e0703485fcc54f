section
-- ===== PART A: goes FIRST, ahead of the names: the tables' words, and 'selects' of the private methods out of them =====
/-- a private method of a class that the tables say can be made, by its rows of tables_1 -/
def lw_okq (q : MethodName × Nat) : Prop := (q.1.cls ≠ "java/lang/invoke/MethodHandle" ∧ q.1.cls ≠ "java/lang/invoke/VarHandle") ∧ Cond.instantiable q.1.cls q.2 ∈ tables_1 ∧ Cond.privateMethod q.1 ∈ tables_1 ∧ Cond.instanceMethod q.1 ∈ tables_1
theorem lw_p0 : lw_okq (⟨"DriftingLevels$Grid", "put", "(II)V"⟩, 13) := ⟨⟨by decide +kernel, by decide +kernel⟩, List.mem_of_getElem? (i := 17) (by decide +kernel), List.mem_of_getElem? (i := 23) (by decide +kernel), List.mem_of_getElem? (i := 24) (by decide +kernel)⟩
theorem lw_p1 : lw_okq (⟨"DriftingLevels$Grid", "writeGuards", "(I)V"⟩, 13) := ⟨⟨by decide +kernel, by decide +kernel⟩, List.mem_of_getElem? (i := 17) (by decide +kernel), List.mem_of_getElem? (i := 30) (by decide +kernel), List.mem_of_getElem? (i := 31) (by decide +kernel)⟩
theorem lw_p2 : lw_okq (⟨"DriftingLevels", "recorded", "(I)I"⟩, 10) := ⟨⟨by decide +kernel, by decide +kernel⟩, List.mem_of_getElem? (i := 9) (by decide +kernel), List.mem_of_getElem? (i := 152) (by decide +kernel), List.mem_of_getElem? (i := 153) (by decide +kernel)⟩
theorem lw_p3 : lw_okq (⟨"DriftingLevels", "dropOldest", "()V"⟩, 10) := ⟨⟨by decide +kernel, by decide +kernel⟩, List.mem_of_getElem? (i := 9) (by decide +kernel), List.mem_of_getElem? (i := 156) (by decide +kernel), List.mem_of_getElem? (i := 157) (by decide +kernel)⟩
theorem lw_p4 : lw_okq (⟨"DriftingLevels$Grid", "toldWord", "(I)I"⟩, 13) := ⟨⟨by decide +kernel, by decide +kernel⟩, List.mem_of_getElem? (i := 17) (by decide +kernel), List.mem_of_getElem? (i := 168) (by decide +kernel), List.mem_of_getElem? (i := 169) (by decide +kernel)⟩
theorem lw_p5 : lw_okq (⟨"DriftingLevels$Grid", "threshold", "(II)I"⟩, 13) := ⟨⟨by decide +kernel, by decide +kernel⟩, List.mem_of_getElem? (i := 17) (by decide +kernel), List.mem_of_getElem? (i := 172) (by decide +kernel), List.mem_of_getElem? (i := 173) (by decide +kernel)⟩
theorem lw_p6 : lw_okq (⟨"DriftingLevels$Grid", "ownThreshold", "(II)I"⟩, 13) := ⟨⟨by decide +kernel, by decide +kernel⟩, List.mem_of_getElem? (i := 17) (by decide +kernel), List.mem_of_getElem? (i := 180) (by decide +kernel), List.mem_of_getElem? (i := 181) (by decide +kernel)⟩
theorem lw_p7 : lw_okq (⟨"DriftingLevels$Grid", "drift", "()V"⟩, 13) := ⟨⟨by decide +kernel, by decide +kernel⟩, List.mem_of_getElem? (i := 17) (by decide +kernel), List.mem_of_getElem? (i := 240) (by decide +kernel), List.mem_of_getElem? (i := 241) (by decide +kernel)⟩
theorem lw_p8 : lw_okq (⟨"DriftingLevels$Grid", "nearer", "(II)I"⟩, 13) := ⟨⟨by decide +kernel, by decide +kernel⟩, List.mem_of_getElem? (i := 17) (by decide +kernel), List.mem_of_getElem? (i := 244) (by decide +kernel), List.mem_of_getElem? (i := 245) (by decide +kernel)⟩
theorem lw_p9 : lw_okq (⟨"DriftingLevels$Grid", "age", "(I)I"⟩, 13) := ⟨⟨by decide +kernel, by decide +kernel⟩, List.mem_of_getElem? (i := 17) (by decide +kernel), List.mem_of_getElem? (i := 251) (by decide +kernel), List.mem_of_getElem? (i := 252) (by decide +kernel)⟩
theorem lw_p10 : lw_okq (⟨"DriftingLevels$Grid", "source", "(I)I"⟩, 13) := ⟨⟨by decide +kernel, by decide +kernel⟩, List.mem_of_getElem? (i := 17) (by decide +kernel), List.mem_of_getElem? (i := 297) (by decide +kernel), List.mem_of_getElem? (i := 298) (by decide +kernel)⟩
theorem lw_p11 : lw_okq (⟨"DriftingLevels$Grid", "wrongBy", "(III)I"⟩, 13) := ⟨⟨by decide +kernel, by decide +kernel⟩, List.mem_of_getElem? (i := 17) (by decide +kernel), List.mem_of_getElem? (i := 305) (by decide +kernel), List.mem_of_getElem? (i := 306) (by decide +kernel)⟩
theorem lw_p12 : lw_okq (⟨"DriftingLevels$Grid", "levelWord", "(I)I"⟩, 13) := ⟨⟨by decide +kernel, by decide +kernel⟩, List.mem_of_getElem? (i := 17) (by decide +kernel), List.mem_of_getElem? (i := 309) (by decide +kernel), List.mem_of_getElem? (i := 310) (by decide +kernel)⟩
theorem lw_p13 : lw_okq (⟨"DriftingLevels", "isSafe", "(I)Z"⟩, 10) := ⟨⟨by decide +kernel, by decide +kernel⟩, List.mem_of_getElem? (i := 9) (by decide +kernel), List.mem_of_getElem? (i := 339) (by decide +kernel), List.mem_of_getElem? (i := 340) (by decide +kernel)⟩
theorem lw_p14 : lw_okq (⟨"DriftingLevels$Grid", "allWrongCells", "()I"⟩, 13) := ⟨⟨by decide +kernel, by decide +kernel⟩, List.mem_of_getElem? (i := 17) (by decide +kernel), List.mem_of_getElem? (i := 391) (by decide +kernel), List.mem_of_getElem? (i := 392) (by decide +kernel)⟩
theorem lw_p15 : lw_okq (⟨"DriftingLevels$Grid", "rowsWithWrongCells", "()I"⟩, 13) := ⟨⟨by decide +kernel, by decide +kernel⟩, List.mem_of_getElem? (i := 17) (by decide +kernel), List.mem_of_getElem? (i := 395) (by decide +kernel), List.mem_of_getElem? (i := 396) (by decide +kernel)⟩
def lw_privs_1 : List (MethodName × Nat) := [(⟨"DriftingLevels$Grid", "put", "(II)V"⟩, 13), (⟨"DriftingLevels$Grid", "writeGuards", "(I)V"⟩, 13), (⟨"DriftingLevels", "recorded", "(I)I"⟩, 10), (⟨"DriftingLevels", "dropOldest", "()V"⟩, 10), (⟨"DriftingLevels$Grid", "toldWord", "(I)I"⟩, 13), (⟨"DriftingLevels$Grid", "threshold", "(II)I"⟩, 13), (⟨"DriftingLevels$Grid", "ownThreshold", "(II)I"⟩, 13), (⟨"DriftingLevels$Grid", "drift", "()V"⟩, 13), (⟨"DriftingLevels$Grid", "nearer", "(II)I"⟩, 13), (⟨"DriftingLevels$Grid", "age", "(I)I"⟩, 13), (⟨"DriftingLevels$Grid", "source", "(I)I"⟩, 13), (⟨"DriftingLevels$Grid", "wrongBy", "(III)I"⟩, 13), (⟨"DriftingLevels$Grid", "levelWord", "(I)I"⟩, 13), (⟨"DriftingLevels", "isSafe", "(I)Z"⟩, 10), (⟨"DriftingLevels$Grid", "allWrongCells", "()I"⟩, 13), (⟨"DriftingLevels$Grid", "rowsWithWrongCells", "()I"⟩, 13)]
theorem lw_r1 : ∀ q ∈ lw_privs_1, lw_okq q := List.forall_mem_cons.mpr ⟨lw_p0, List.forall_mem_cons.mpr ⟨lw_p1, List.forall_mem_cons.mpr ⟨lw_p2, List.forall_mem_cons.mpr ⟨lw_p3, List.forall_mem_cons.mpr ⟨lw_p4, List.forall_mem_cons.mpr ⟨lw_p5, List.forall_mem_cons.mpr ⟨lw_p6, List.forall_mem_cons.mpr ⟨lw_p7, List.forall_mem_cons.mpr ⟨lw_p8, List.forall_mem_cons.mpr ⟨lw_p9, List.forall_mem_cons.mpr ⟨lw_p10, List.forall_mem_cons.mpr ⟨lw_p11, List.forall_mem_cons.mpr ⟨lw_p12, List.forall_mem_cons.mpr ⟨lw_p13, List.forall_mem_cons.mpr ⟨lw_p14, List.forall_mem_cons.mpr ⟨lw_p15, fun _ h => absurd h List.not_mem_nil⟩⟩⟩⟩⟩⟩⟩⟩⟩⟩⟩⟩⟩⟩⟩⟩
theorem lw_p16 : lw_okq (⟨"DriftingLevels$Grid", "rowsToldBy", "(I)I"⟩, 13) := ⟨⟨by decide +kernel, by decide +kernel⟩, List.mem_of_getElem? (i := 17) (by decide +kernel), List.mem_of_getElem? (i := 399) (by decide +kernel), List.mem_of_getElem? (i := 400) (by decide +kernel)⟩
theorem lw_p17 : lw_okq (⟨"DriftingLevels$Grid", "pairsTold", "()I"⟩, 13) := ⟨⟨by decide +kernel, by decide +kernel⟩, List.mem_of_getElem? (i := 17) (by decide +kernel), List.mem_of_getElem? (i := 404) (by decide +kernel), List.mem_of_getElem? (i := 405) (by decide +kernel)⟩
theorem lw_p18 : lw_okq (⟨"DriftingLevels$Grid", "cellsOfLevel", "(I)I"⟩, 13) := ⟨⟨by decide +kernel, by decide +kernel⟩, List.mem_of_getElem? (i := 17) (by decide +kernel), List.mem_of_getElem? (i := 408) (by decide +kernel), List.mem_of_getElem? (i := 409) (by decide +kernel)⟩
theorem lw_p19 : lw_okq (⟨"DriftingLevels", "findFault", "()Z"⟩, 10) := ⟨⟨by decide +kernel, by decide +kernel⟩, List.mem_of_getElem? (i := 9) (by decide +kernel), List.mem_of_getElem? (i := 440) (by decide +kernel), List.mem_of_getElem? (i := 441) (by decide +kernel)⟩
theorem lw_p20 : lw_okq (⟨"DriftingLevels$OrderText", "signAt", "(I)C"⟩, 5) := ⟨⟨by decide +kernel, by decide +kernel⟩, List.mem_of_getElem? (i := 76) (by decide +kernel), List.mem_of_getElem? (i := 448) (by decide +kernel), List.mem_of_getElem? (i := 449) (by decide +kernel)⟩
theorem lw_p21 : lw_okq (⟨"DriftingLevels$OrderText", "readNumber", "(I)Z"⟩, 5) := ⟨⟨by decide +kernel, by decide +kernel⟩, List.mem_of_getElem? (i := 76) (by decide +kernel), List.mem_of_getElem? (i := 455) (by decide +kernel), List.mem_of_getElem? (i := 456) (by decide +kernel)⟩
theorem lw_p22 : lw_okq (⟨"DriftingLevels", "noteFault", "(III)Z"⟩, 10) := ⟨⟨by decide +kernel, by decide +kernel⟩, List.mem_of_getElem? (i := 9) (by decide +kernel), List.mem_of_getElem? (i := 466) (by decide +kernel), List.mem_of_getElem? (i := 467) (by decide +kernel)⟩
theorem lw_p23 : lw_okq (⟨"DriftingLevelsModel", "lays", "(III)V"⟩, 14) := ⟨⟨by decide +kernel, by decide +kernel⟩, List.mem_of_getElem? (i := 484) (by decide +kernel), List.mem_of_getElem? (i := 490) (by decide +kernel), List.mem_of_getElem? (i := 491) (by decide +kernel)⟩
theorem lw_p24 : lw_okq (⟨"DriftingLevelsModel", "writesGuards", "(I)V"⟩, 14) := ⟨⟨by decide +kernel, by decide +kernel⟩, List.mem_of_getElem? (i := 484) (by decide +kernel), List.mem_of_getElem? (i := 494) (by decide +kernel), List.mem_of_getElem? (i := 495) (by decide +kernel)⟩
theorem lw_p25 : lw_okq (⟨"DriftingLevelsModel", "of", "(II)I"⟩, 14) := ⟨⟨by decide +kernel, by decide +kernel⟩, List.mem_of_getElem? (i := 484) (by decide +kernel), List.mem_of_getElem? (i := 498) (by decide +kernel), List.mem_of_getElem? (i := 499) (by decide +kernel)⟩
theorem lw_p26 : lw_okq (⟨"DriftingLevelsModel", "writes", "(III)I"⟩, 14) := ⟨⟨by decide +kernel, by decide +kernel⟩, List.mem_of_getElem? (i := 484) (by decide +kernel), List.mem_of_getElem? (i := 505) (by decide +kernel), List.mem_of_getElem? (i := 506) (by decide +kernel)⟩
theorem lw_p27 : lw_okq (⟨"DriftingLevelsModel", "ofCell", "(III)I"⟩, 14) := ⟨⟨by decide +kernel, by decide +kernel⟩, List.mem_of_getElem? (i := 484) (by decide +kernel), List.mem_of_getElem? (i := 509) (by decide +kernel), List.mem_of_getElem? (i := 510) (by decide +kernel)⟩
theorem lw_p28 : lw_okq (⟨"DriftingLevelsModel", "laysCell", "(IIII)V"⟩, 14) := ⟨⟨by decide +kernel, by decide +kernel⟩, List.mem_of_getElem? (i := 484) (by decide +kernel), List.mem_of_getElem? (i := 513) (by decide +kernel), List.mem_of_getElem? (i := 514) (by decide +kernel)⟩
theorem lw_p29 : lw_okq (⟨"DriftingLevelsModel", "records", "()V"⟩, 14) := ⟨⟨by decide +kernel, by decide +kernel⟩, List.mem_of_getElem? (i := 484) (by decide +kernel), List.mem_of_getElem? (i := 580) (by decide +kernel), List.mem_of_getElem? (i := 581) (by decide +kernel)⟩
theorem lw_p30 : lw_okq (⟨"DriftingLevelsModel", "wordTold", "(I)I"⟩, 14) := ⟨⟨by decide +kernel, by decide +kernel⟩, List.mem_of_getElem? (i := 484) (by decide +kernel), List.mem_of_getElem? (i := 591) (by decide +kernel), List.mem_of_getElem? (i := 592) (by decide +kernel)⟩
theorem lw_p31 : lw_okq (⟨"DriftingLevelsModel", "told", "(II)I"⟩, 14) := ⟨⟨by decide +kernel, by decide +kernel⟩, List.mem_of_getElem? (i := 484) (by decide +kernel), List.mem_of_getElem? (i := 595) (by decide +kernel), List.mem_of_getElem? (i := 596) (by decide +kernel)⟩
def lw_privs_2 : List (MethodName × Nat) := [(⟨"DriftingLevels$Grid", "rowsToldBy", "(I)I"⟩, 13), (⟨"DriftingLevels$Grid", "pairsTold", "()I"⟩, 13), (⟨"DriftingLevels$Grid", "cellsOfLevel", "(I)I"⟩, 13), (⟨"DriftingLevels", "findFault", "()Z"⟩, 10), (⟨"DriftingLevels$OrderText", "signAt", "(I)C"⟩, 5), (⟨"DriftingLevels$OrderText", "readNumber", "(I)Z"⟩, 5), (⟨"DriftingLevels", "noteFault", "(III)Z"⟩, 10), (⟨"DriftingLevelsModel", "lays", "(III)V"⟩, 14), (⟨"DriftingLevelsModel", "writesGuards", "(I)V"⟩, 14), (⟨"DriftingLevelsModel", "of", "(II)I"⟩, 14), (⟨"DriftingLevelsModel", "writes", "(III)I"⟩, 14), (⟨"DriftingLevelsModel", "ofCell", "(III)I"⟩, 14), (⟨"DriftingLevelsModel", "laysCell", "(IIII)V"⟩, 14), (⟨"DriftingLevelsModel", "records", "()V"⟩, 14), (⟨"DriftingLevelsModel", "wordTold", "(I)I"⟩, 14), (⟨"DriftingLevelsModel", "told", "(II)I"⟩, 14)]
theorem lw_r2 : ∀ q ∈ lw_privs_2, lw_okq q := List.forall_mem_cons.mpr ⟨lw_p16, List.forall_mem_cons.mpr ⟨lw_p17, List.forall_mem_cons.mpr ⟨lw_p18, List.forall_mem_cons.mpr ⟨lw_p19, List.forall_mem_cons.mpr ⟨lw_p20, List.forall_mem_cons.mpr ⟨lw_p21, List.forall_mem_cons.mpr ⟨lw_p22, List.forall_mem_cons.mpr ⟨lw_p23, List.forall_mem_cons.mpr ⟨lw_p24, List.forall_mem_cons.mpr ⟨lw_p25, List.forall_mem_cons.mpr ⟨lw_p26, List.forall_mem_cons.mpr ⟨lw_p27, List.forall_mem_cons.mpr ⟨lw_p28, List.forall_mem_cons.mpr ⟨lw_p29, List.forall_mem_cons.mpr ⟨lw_p30, List.forall_mem_cons.mpr ⟨lw_p31, fun _ h => absurd h List.not_mem_nil⟩⟩⟩⟩⟩⟩⟩⟩⟩⟩⟩⟩⟩⟩⟩⟩
theorem lw_p32 : lw_okq (⟨"DriftingLevelsModel", "threshold", "(II)I"⟩, 14) := ⟨⟨by decide +kernel, by decide +kernel⟩, List.mem_of_getElem? (i := 484) (by decide +kernel), List.mem_of_getElem? (i := 599) (by decide +kernel), List.mem_of_getElem? (i := 600) (by decide +kernel)⟩
theorem lw_p33 : lw_okq (⟨"DriftingLevelsModel", "isRight", "(I)Z"⟩, 14) := ⟨⟨by decide +kernel, by decide +kernel⟩, List.mem_of_getElem? (i := 484) (by decide +kernel), List.mem_of_getElem? (i := 603) (by decide +kernel), List.mem_of_getElem? (i := 604) (by decide +kernel)⟩
theorem lw_p34 : lw_okq (⟨"DriftingLevelsModel", "own", "(II)I"⟩, 14) := ⟨⟨by decide +kernel, by decide +kernel⟩, List.mem_of_getElem? (i := 484) (by decide +kernel), List.mem_of_getElem? (i := 607) (by decide +kernel), List.mem_of_getElem? (i := 608) (by decide +kernel)⟩
theorem lw_p35 : lw_okq (⟨"DriftingLevelsModel", "helps", "(I)Z"⟩, 14) := ⟨⟨by decide +kernel, by decide +kernel⟩, List.mem_of_getElem? (i := 484) (by decide +kernel), List.mem_of_getElem? (i := 611) (by decide +kernel), List.mem_of_getElem? (i := 612) (by decide +kernel)⟩
theorem lw_p36 : lw_okq (⟨"DriftingLevelsModel", "writesWord", "(II)V"⟩, 14) := ⟨⟨by decide +kernel, by decide +kernel⟩, List.mem_of_getElem? (i := 484) (by decide +kernel), List.mem_of_getElem? (i := 618) (by decide +kernel), List.mem_of_getElem? (i := 619) (by decide +kernel)⟩
theorem lw_p37 : lw_okq (⟨"DriftingLevelsModel", "writesAnew", "(I)I"⟩, 14) := ⟨⟨by decide +kernel, by decide +kernel⟩, List.mem_of_getElem? (i := 484) (by decide +kernel), List.mem_of_getElem? (i := 626) (by decide +kernel), List.mem_of_getElem? (i := 627) (by decide +kernel)⟩
theorem lw_p38 : lw_okq (⟨"DriftingLevelsModel", "wrong", "(I)I"⟩, 14) := ⟨⟨by decide +kernel, by decide +kernel⟩, List.mem_of_getElem? (i := 484) (by decide +kernel), List.mem_of_getElem? (i := 630) (by decide +kernel), List.mem_of_getElem? (i := 631) (by decide +kernel)⟩
theorem lw_p39 : lw_okq (⟨"DriftingLevelsModel", "errorFail", "(III)I"⟩, 14) := ⟨⟨by decide +kernel, by decide +kernel⟩, List.mem_of_getElem? (i := 484) (by decide +kernel), List.mem_of_getElem? (i := 642) (by decide +kernel), List.mem_of_getElem? (i := 643) (by decide +kernel)⟩
theorem lw_p40 : lw_okq (⟨"DriftingLevelsModel", "goFail", "(III)V"⟩, 14) := ⟨⟨by decide +kernel, by decide +kernel⟩, List.mem_of_getElem? (i := 484) (by decide +kernel), List.mem_of_getElem? (i := 647) (by decide +kernel), List.mem_of_getElem? (i := 648) (by decide +kernel)⟩
theorem lw_p41 : lw_okq (⟨"DriftingLevelsModel", "errorMend", "(II)I"⟩, 14) := ⟨⟨by decide +kernel, by decide +kernel⟩, List.mem_of_getElem? (i := 484) (by decide +kernel), List.mem_of_getElem? (i := 655) (by decide +kernel), List.mem_of_getElem? (i := 656) (by decide +kernel)⟩
theorem lw_p42 : lw_okq (⟨"DriftingLevelsModel", "errorDays", "(I)I"⟩, 14) := ⟨⟨by decide +kernel, by decide +kernel⟩, List.mem_of_getElem? (i := 484) (by decide +kernel), List.mem_of_getElem? (i := 670) (by decide +kernel), List.mem_of_getElem? (i := 671) (by decide +kernel)⟩
theorem lw_p43 : lw_okq (⟨"DriftingLevelsModel", "endsDays", "(I)I"⟩, 14) := ⟨⟨by decide +kernel, by decide +kernel⟩, List.mem_of_getElem? (i := 484) (by decide +kernel), List.mem_of_getElem? (i := 675) (by decide +kernel), List.mem_of_getElem? (i := 676) (by decide +kernel)⟩
theorem lw_p44 : lw_okq (⟨"DriftingLevelsModel", "endsDay", "()I"⟩, 14) := ⟨⟨by decide +kernel, by decide +kernel⟩, List.mem_of_getElem? (i := 484) (by decide +kernel), List.mem_of_getElem? (i := 679) (by decide +kernel), List.mem_of_getElem? (i := 680) (by decide +kernel)⟩
theorem lw_p45 : lw_okq (⟨"DriftingLevelsModel", "drifts", "()V"⟩, 14) := ⟨⟨by decide +kernel, by decide +kernel⟩, List.mem_of_getElem? (i := 484) (by decide +kernel), List.mem_of_getElem? (i := 683) (by decide +kernel), List.mem_of_getElem? (i := 684) (by decide +kernel)⟩
theorem lw_p46 : lw_okq (⟨"DriftingLevelsModel", "drifted", "(II)I"⟩, 14) := ⟨⟨by decide +kernel, by decide +kernel⟩, List.mem_of_getElem? (i := 484) (by decide +kernel), List.mem_of_getElem? (i := 687) (by decide +kernel), List.mem_of_getElem? (i := 688) (by decide +kernel)⟩
theorem lw_p47 : lw_okq (⟨"DriftingLevelsModel", "ageOf", "(I)I"⟩, 14) := ⟨⟨by decide +kernel, by decide +kernel⟩, List.mem_of_getElem? (i := 484) (by decide +kernel), List.mem_of_getElem? (i := 694) (by decide +kernel), List.mem_of_getElem? (i := 695) (by decide +kernel)⟩
def lw_privs_3 : List (MethodName × Nat) := [(⟨"DriftingLevelsModel", "threshold", "(II)I"⟩, 14), (⟨"DriftingLevelsModel", "isRight", "(I)Z"⟩, 14), (⟨"DriftingLevelsModel", "own", "(II)I"⟩, 14), (⟨"DriftingLevelsModel", "helps", "(I)Z"⟩, 14), (⟨"DriftingLevelsModel", "writesWord", "(II)V"⟩, 14), (⟨"DriftingLevelsModel", "writesAnew", "(I)I"⟩, 14), (⟨"DriftingLevelsModel", "wrong", "(I)I"⟩, 14), (⟨"DriftingLevelsModel", "errorFail", "(III)I"⟩, 14), (⟨"DriftingLevelsModel", "goFail", "(III)V"⟩, 14), (⟨"DriftingLevelsModel", "errorMend", "(II)I"⟩, 14), (⟨"DriftingLevelsModel", "errorDays", "(I)I"⟩, 14), (⟨"DriftingLevelsModel", "endsDays", "(I)I"⟩, 14), (⟨"DriftingLevelsModel", "endsDay", "()I"⟩, 14), (⟨"DriftingLevelsModel", "drifts", "()V"⟩, 14), (⟨"DriftingLevelsModel", "drifted", "(II)I"⟩, 14), (⟨"DriftingLevelsModel", "ageOf", "(I)I"⟩, 14)]
theorem lw_r3 : ∀ q ∈ lw_privs_3, lw_okq q := List.forall_mem_cons.mpr ⟨lw_p32, List.forall_mem_cons.mpr ⟨lw_p33, List.forall_mem_cons.mpr ⟨lw_p34, List.forall_mem_cons.mpr ⟨lw_p35, List.forall_mem_cons.mpr ⟨lw_p36, List.forall_mem_cons.mpr ⟨lw_p37, List.forall_mem_cons.mpr ⟨lw_p38, List.forall_mem_cons.mpr ⟨lw_p39, List.forall_mem_cons.mpr ⟨lw_p40, List.forall_mem_cons.mpr ⟨lw_p41, List.forall_mem_cons.mpr ⟨lw_p42, List.forall_mem_cons.mpr ⟨lw_p43, List.forall_mem_cons.mpr ⟨lw_p44, List.forall_mem_cons.mpr ⟨lw_p45, List.forall_mem_cons.mpr ⟨lw_p46, List.forall_mem_cons.mpr ⟨lw_p47, fun _ h => absurd h List.not_mem_nil⟩⟩⟩⟩⟩⟩⟩⟩⟩⟩⟩⟩⟩⟩⟩⟩
theorem lw_p48 : lw_okq (⟨"DriftingLevelsModel", "nearer", "(II)I"⟩, 14) := ⟨⟨by decide +kernel, by decide +kernel⟩, List.mem_of_getElem? (i := 484) (by decide +kernel), List.mem_of_getElem? (i := 710) (by decide +kernel), List.mem_of_getElem? (i := 711) (by decide +kernel)⟩
theorem lw_p49 : lw_okq (⟨"DriftingLevelsModel", "source", "(I)I"⟩, 14) := ⟨⟨by decide +kernel, by decide +kernel⟩, List.mem_of_getElem? (i := 484) (by decide +kernel), List.mem_of_getElem? (i := 722) (by decide +kernel), List.mem_of_getElem? (i := 723) (by decide +kernel)⟩
theorem lw_p50 : lw_okq (⟨"DriftingLevelsModel", "wrongFixed", "(I)I"⟩, 14) := ⟨⟨by decide +kernel, by decide +kernel⟩, List.mem_of_getElem? (i := 484) (by decide +kernel), List.mem_of_getElem? (i := 726) (by decide +kernel), List.mem_of_getElem? (i := 727) (by decide +kernel)⟩
theorem lw_p51 : lw_okq (⟨"DriftingLevelsModel", "wordOf", "(I)I"⟩, 14) := ⟨⟨by decide +kernel, by decide +kernel⟩, List.mem_of_getElem? (i := 484) (by decide +kernel), List.mem_of_getElem? (i := 730) (by decide +kernel), List.mem_of_getElem? (i := 731) (by decide +kernel)⟩
theorem lw_p52 : lw_okq (⟨"DriftingLevelsModel", "lostBy", "(I)I"⟩, 14) := ⟨⟨by decide +kernel, by decide +kernel⟩, List.mem_of_getElem? (i := 484) (by decide +kernel), List.mem_of_getElem? (i := 751) (by decide +kernel), List.mem_of_getElem? (i := 752) (by decide +kernel)⟩
theorem lw_p53 : lw_okq (⟨"DriftingLevelsModel", "wrongAll", "()I"⟩, 14) := ⟨⟨by decide +kernel, by decide +kernel⟩, List.mem_of_getElem? (i := 484) (by decide +kernel), List.mem_of_getElem? (i := 782) (by decide +kernel), List.mem_of_getElem? (i := 783) (by decide +kernel)⟩
theorem lw_p54 : lw_okq (⟨"DriftingLevelsModel", "setOf", "(I)I"⟩, 14) := ⟨⟨by decide +kernel, by decide +kernel⟩, List.mem_of_getElem? (i := 484) (by decide +kernel), List.mem_of_getElem? (i := 786) (by decide +kernel), List.mem_of_getElem? (i := 787) (by decide +kernel)⟩
theorem lw_p55 : lw_okq (⟨"DriftingLevelsModel", "isOf", "(II)Z"⟩, 14) := ⟨⟨by decide +kernel, by decide +kernel⟩, List.mem_of_getElem? (i := 484) (by decide +kernel), List.mem_of_getElem? (i := 790) (by decide +kernel), List.mem_of_getElem? (i := 791) (by decide +kernel)⟩
theorem lw_p56 : lw_okq (⟨"DriftingLevelsModel", "failed", "()I"⟩, 14) := ⟨⟨by decide +kernel, by decide +kernel⟩, List.mem_of_getElem? (i := 484) (by decide +kernel), List.mem_of_getElem? (i := 794) (by decide +kernel), List.mem_of_getElem? (i := 795) (by decide +kernel)⟩
theorem lw_p57 : lw_okq (⟨"DriftingLevelsModel", "pairs", "()I"⟩, 14) := ⟨⟨by decide +kernel, by decide +kernel⟩, List.mem_of_getElem? (i := 484) (by decide +kernel), List.mem_of_getElem? (i := 798) (by decide +kernel), List.mem_of_getElem? (i := 799) (by decide +kernel)⟩
theorem lw_p58 : lw_okq (⟨"DriftingLevelsModel", "ofLevel", "(I)I"⟩, 14) := ⟨⟨by decide +kernel, by decide +kernel⟩, List.mem_of_getElem? (i := 484) (by decide +kernel), List.mem_of_getElem? (i := 802) (by decide +kernel), List.mem_of_getElem? (i := 803) (by decide +kernel)⟩
theorem lw_p59 : lw_okq (⟨"DriftingLevelsModel", "doesAll", "()I"⟩, 14) := ⟨⟨by decide +kernel, by decide +kernel⟩, List.mem_of_getElem? (i := 484) (by decide +kernel), List.mem_of_getElem? (i := 818) (by decide +kernel), List.mem_of_getElem? (i := 819) (by decide +kernel)⟩
theorem lw_p60 : lw_okq (⟨"DriftingLevelsModel", "takesOrder", "()V"⟩, 14) := ⟨⟨by decide +kernel, by decide +kernel⟩, List.mem_of_getElem? (i := 484) (by decide +kernel), List.mem_of_getElem? (i := 822) (by decide +kernel), List.mem_of_getElem? (i := 823) (by decide +kernel)⟩
theorem lw_p61 : lw_okq (⟨"DriftingLevelsModel", "here", "()I"⟩, 14) := ⟨⟨by decide +kernel, by decide +kernel⟩, List.mem_of_getElem? (i := 484) (by decide +kernel), List.mem_of_getElem? (i := 826) (by decide +kernel), List.mem_of_getElem? (i := 827) (by decide +kernel)⟩
theorem lw_p62 : lw_okq (⟨"DriftingLevelsModel", "takes", "(Z)V"⟩, 14) := ⟨⟨by decide +kernel, by decide +kernel⟩, List.mem_of_getElem? (i := 484) (by decide +kernel), List.mem_of_getElem? (i := 830) (by decide +kernel), List.mem_of_getElem? (i := 831) (by decide +kernel)⟩
theorem lw_p63 : lw_okq (⟨"DriftingLevelsModel", "takesNumber", "(I)V"⟩, 14) := ⟨⟨by decide +kernel, by decide +kernel⟩, List.mem_of_getElem? (i := 484) (by decide +kernel), List.mem_of_getElem? (i := 834) (by decide +kernel), List.mem_of_getElem? (i := 835) (by decide +kernel)⟩
def lw_privs_4 : List (MethodName × Nat) := [(⟨"DriftingLevelsModel", "nearer", "(II)I"⟩, 14), (⟨"DriftingLevelsModel", "source", "(I)I"⟩, 14), (⟨"DriftingLevelsModel", "wrongFixed", "(I)I"⟩, 14), (⟨"DriftingLevelsModel", "wordOf", "(I)I"⟩, 14), (⟨"DriftingLevelsModel", "lostBy", "(I)I"⟩, 14), (⟨"DriftingLevelsModel", "wrongAll", "()I"⟩, 14), (⟨"DriftingLevelsModel", "setOf", "(I)I"⟩, 14), (⟨"DriftingLevelsModel", "isOf", "(II)Z"⟩, 14), (⟨"DriftingLevelsModel", "failed", "()I"⟩, 14), (⟨"DriftingLevelsModel", "pairs", "()I"⟩, 14), (⟨"DriftingLevelsModel", "ofLevel", "(I)I"⟩, 14), (⟨"DriftingLevelsModel", "doesAll", "()I"⟩, 14), (⟨"DriftingLevelsModel", "takesOrder", "()V"⟩, 14), (⟨"DriftingLevelsModel", "here", "()I"⟩, 14), (⟨"DriftingLevelsModel", "takes", "(Z)V"⟩, 14), (⟨"DriftingLevelsModel", "takesNumber", "(I)V"⟩, 14)]
theorem lw_r4 : ∀ q ∈ lw_privs_4, lw_okq q := List.forall_mem_cons.mpr ⟨lw_p48, List.forall_mem_cons.mpr ⟨lw_p49, List.forall_mem_cons.mpr ⟨lw_p50, List.forall_mem_cons.mpr ⟨lw_p51, List.forall_mem_cons.mpr ⟨lw_p52, List.forall_mem_cons.mpr ⟨lw_p53, List.forall_mem_cons.mpr ⟨lw_p54, List.forall_mem_cons.mpr ⟨lw_p55, List.forall_mem_cons.mpr ⟨lw_p56, List.forall_mem_cons.mpr ⟨lw_p57, List.forall_mem_cons.mpr ⟨lw_p58, List.forall_mem_cons.mpr ⟨lw_p59, List.forall_mem_cons.mpr ⟨lw_p60, List.forall_mem_cons.mpr ⟨lw_p61, List.forall_mem_cons.mpr ⟨lw_p62, List.forall_mem_cons.mpr ⟨lw_p63, fun _ h => absurd h List.not_mem_nil⟩⟩⟩⟩⟩⟩⟩⟩⟩⟩⟩⟩⟩⟩⟩⟩
theorem lw_p64 : lw_okq (⟨"DriftingLevelsModel", "errorOfOrder", "()I"⟩, 14) := ⟨⟨by decide +kernel, by decide +kernel⟩, List.mem_of_getElem? (i := 484) (by decide +kernel), List.mem_of_getElem? (i := 838) (by decide +kernel), List.mem_of_getElem? (i := 839) (by decide +kernel)⟩
theorem lw_p65 : lw_okq (⟨"DriftingLevelsModel", "doesOrder", "()V"⟩, 14) := ⟨⟨by decide +kernel, by decide +kernel⟩, List.mem_of_getElem? (i := 484) (by decide +kernel), List.mem_of_getElem? (i := 842) (by decide +kernel), List.mem_of_getElem? (i := 843) (by decide +kernel)⟩
def lw_privs_5 : List (MethodName × Nat) := [(⟨"DriftingLevelsModel", "errorOfOrder", "()I"⟩, 14), (⟨"DriftingLevelsModel", "doesOrder", "()V"⟩, 14)]
theorem lw_r5 : ∀ q ∈ lw_privs_5, lw_okq q := List.forall_mem_cons.mpr ⟨lw_p64, List.forall_mem_cons.mpr ⟨lw_p65, fun _ h => absurd h List.not_mem_nil⟩⟩
def lw_privs : List (MethodName × Nat) := lw_privs_1 ++ (lw_privs_2 ++ (lw_privs_3 ++ (lw_privs_4 ++ (lw_privs_5))))
def lw_tbl : List Cond := k2_sels lw_privs ++ tables_1
theorem lw_privs_ok : ∀ q ∈ lw_privs, lw_okq q := by
  show ∀ q ∈ lw_privs_1 ++ (lw_privs_2 ++ (lw_privs_3 ++ (lw_privs_4 ++ (lw_privs_5)))), lw_okq q
  exact List.forall_mem_append.mpr ⟨lw_r1, List.forall_mem_append.mpr ⟨lw_r2, List.forall_mem_append.mpr ⟨lw_r3, List.forall_mem_append.mpr ⟨lw_r4, lw_r5⟩⟩⟩⟩
/-- the streams that the claim lets the run draw from -/
abbrev lw_cs : List Choice := [Jvm.Choice.named "NaN.bits"]
theorem lw_bits : nanBits ∈ lw_cs := by first | decide | exact List.mem_cons_self | simp [lw_cs, nanBits]
end
section
/-! ===== BEGIN words of one list among another's, by their places ===== -/
theorem goodIn_r {big : List Cond} (ws : List Cond) (ps : List Nat) (hp : ws = ps.filterMap (fun i => big[i]?)) (h : ws.all goodWord = true) : GoodIn big ws := by
  intro w hw
  have h1 := List.all_eq_true.mp h w hw
  rw [hp] at hw
  obtain ⟨i, -, hi⟩ := List.mem_filterMap.mp hw
  have hm : w ∈ big := by first | exact List.mem_of_getElem? hi | exact List.getElem?_mem hi
  exact ⟨hm, good_of_word h1⟩
theorem goodIn_app {big a b : List Cond} (ha : GoodIn big a) (hb : GoodIn big b) : GoodIn big (a ++ b) := fun w h => (List.mem_append.mp h).elim (ha w) (hb w)
theorem goodIn_ca {big a b : List Cond} {c : Cond} (ha : GoodIn big (c :: a)) (hb : GoodIn big b) : GoodIn big (c :: (a ++ b)) := fun w h => (List.mem_cons.mp h).elim (fun e => ha w (List.mem_cons.mpr (Or.inl e))) (fun h => (List.mem_append.mp h).elim (fun h => ha w (List.mem_cons.mpr (Or.inr h))) (hb w))
theorem goodIn_sub {big ws : List Cond} (hm : ∀ w ∈ ws, w ∈ big) (h : ws.all goodWord = true) : GoodIn big ws := fun w hw => ⟨hm w hw, good_of_word (List.all_eq_true.mp h w hw)⟩
/-! ===== END ===== -/

/-! ===== BEGIN printed: names, fields, word lists, decode rows ===== -/
def RX0 : String := "DriftingLevels$Grid"
def TX0 : u_T := fun k => match k with
  | 0 => ("DriftingLevels$Grid", "level", "[I", true)
  | 1 => ("DriftingLevels$Grid", "value", "[I", true)
  | 2 => ("DriftingLevels$Grid", "timesWritten", "[I", true)
  | 3 => ("DriftingLevels$Grid", "dayWritten", "[I", true)
  | 4 => ("DriftingLevels$Grid", "guardValue", "[I", true)
  | 5 => ("DriftingLevels$Grid", "guardFailed", "[I", true)
  | 6 => ("DriftingLevels$Grid", "rateOfRow", "[I", true)
  | 7 => ("DriftingLevels$Grid", "dayOfGuards", "[I", true)
  | 8 => ("DriftingLevels$Grid", "levelsLost", "[I", true)
  | 9 => ("DriftingLevels$Grid", "timesAnew", "[I", true)
  | 10 => ("DriftingLevels$Grid", "toldAs", "[I", true)
  | 11 => ("DriftingLevels$Grid", "setting", "[I", true)
  | _ => ("DriftingLevels$Grid", "today", "I", false)
def tyX0 : Nat → FieldType := fun k => match k with
  | 0 => .array .int
  | 1 => .array .int
  | 2 => .array .int
  | 3 => .array .int
  | 4 => .array .int
  | 5 => .array .int
  | 6 => .array .int
  | 7 => .array .int
  | 8 => .array .int
  | 9 => .array .int
  | 10 => .array .int
  | 11 => .array .int
  | _ => .int
abbrev wsX00 : List Cond := u_ws RX0 TX0 13
theorem nmX0 : ∀ a, a < 13 → ∀ b, b < 13 → a ≠ b → (TX0 a).2.1 ≠ (TX0 b).2.1 := by decide +kernel
theorem tyX0_ok : ∀ k, k < 13 → parseFieldDescriptor (TX0 k).2.2.1 = some (tyX0 k) := by decide +kernel
abbrev cX0_init : ByteArray := prog_2_method_1_code
def yX0_init : MethodName := ⟨RX0, "<init>", "()V"⟩
abbrev cX0_copyFrom : ByteArray := prog_2_method_2_code
def yX0_copyFrom : MethodName := ⟨RX0, "copyFrom", "(LDriftingLevels$Grid;)V"⟩
abbrev cX0_writeLevel : ByteArray := prog_2_method_3_code
def yX0_writeLevel : MethodName := ⟨RX0, "writeLevel", "(III)I"⟩
abbrev cX0_writeWord : ByteArray := prog_2_method_4_code
def yX0_writeWord : MethodName := ⟨RX0, "writeWord", "(II)I"⟩
abbrev cX0_writeAnew : ByteArray := prog_2_method_5_code
def yX0_writeAnew : MethodName := ⟨RX0, "writeAnew", "(I)I"⟩
abbrev cX0_askCell : ByteArray := prog_2_method_6_code
def yX0_askCell : MethodName := ⟨RX0, "askCell", "(II)I"⟩
abbrev cX0_failGuard : ByteArray := prog_2_method_7_code
def yX0_failGuard : MethodName := ⟨RX0, "failGuard", "(III)I"⟩
abbrev cX0_mendGuard : ByteArray := prog_2_method_8_code
def yX0_mendGuard : MethodName := ⟨RX0, "mendGuard", "(II)I"⟩
abbrev cX0_changeRate : ByteArray := prog_2_method_9_code
def yX0_changeRate : MethodName := ⟨RX0, "changeRate", "(II)I"⟩
abbrev cX0_passDays : ByteArray := prog_2_method_10_code
def yX0_passDays : MethodName := ⟨RX0, "passDays", "(II)I"⟩
abbrev cX0_changeSetting : ByteArray := prog_2_method_11_code
def yX0_changeSetting : MethodName := ⟨RX0, "changeSetting", "(II)I"⟩
abbrev cX0_numberOfCell : ByteArray := prog_2_method_12_code
def yX0_numberOfCell : MethodName := ⟨RX0, "numberOfCell", "(III)I"⟩
abbrev cX0_numberOfGuard : ByteArray := prog_2_method_13_code
def yX0_numberOfGuard : MethodName := ⟨RX0, "numberOfGuard", "(III)I"⟩
abbrev cX0_numberOfRow : ByteArray := prog_2_method_14_code
def yX0_numberOfRow : MethodName := ⟨RX0, "numberOfRow", "(II)I"⟩
abbrev cX0_timesTold : ByteArray := prog_2_method_15_code
def yX0_timesTold : MethodName := ⟨RX0, "timesTold", "(II)I"⟩
abbrev cX0_tally : ByteArray := prog_2_method_16_code
def yX0_tally : MethodName := ⟨RX0, "tally", "(I)I"⟩
abbrev cX0_timesAsked : ByteArray := prog_2_method_17_code
def yX0_timesAsked : MethodName := ⟨RX0, "timesAsked", "()I"⟩
abbrev cX0_timesToldRight : ByteArray := prog_2_method_18_code
def yX0_timesToldRight : MethodName := ⟨RX0, "timesToldRight", "()I"⟩
abbrev cX0_distanceFromAims : ByteArray := prog_2_method_19_code
def yX0_distanceFromAims : MethodName := ⟨RX0, "distanceFromAims", "()I"⟩
abbrev cX0_worstBut : ByteArray := prog_2_method_20_code
def yX0_worstBut : MethodName := ⟨RX0, "worstBut", "(I)I"⟩
abbrev cX0_wrongCells : ByteArray := prog_2_method_21_code
def yX0_wrongCells : MethodName := ⟨RX0, "wrongCells", "(I)I"⟩
abbrev cX0_hasRightThresholds : ByteArray := prog_2_method_22_code
def yX0_hasRightThresholds : MethodName := ⟨RX0, "hasRightThresholds", "(I)Z"⟩
abbrev cX0_ownThreshold : ByteArray := prog_2_method_23_code
def yX0_ownThreshold : MethodName := ⟨RX0, "ownThreshold", "(II)I"⟩
abbrev cX0_source : ByteArray := prog_2_method_24_code
def yX0_source : MethodName := ⟨RX0, "source", "(I)I"⟩
abbrev cX0_threshold : ByteArray := prog_2_method_25_code
def yX0_threshold : MethodName := ⟨RX0, "threshold", "(II)I"⟩
abbrev cX0_tell : ByteArray := prog_2_method_26_code
def yX0_tell : MethodName := ⟨RX0, "tell", "(III)I"⟩
abbrev cX0_wrongBy : ByteArray := prog_2_method_27_code
def yX0_wrongBy : MethodName := ⟨RX0, "wrongBy", "(III)I"⟩
abbrev cX0_toldWord : ByteArray := prog_2_method_28_code
def yX0_toldWord : MethodName := ⟨RX0, "toldWord", "(I)I"⟩
abbrev cX0_levelWord : ByteArray := prog_2_method_29_code
def yX0_levelWord : MethodName := ⟨RX0, "levelWord", "(I)I"⟩
abbrev cX0_aim : ByteArray := prog_2_method_30_code
def yX0_aim : MethodName := ⟨RX0, "aim", "(I)I"⟩
abbrev cX0_put : ByteArray := prog_2_method_31_code
def yX0_put : MethodName := ⟨RX0, "put", "(II)V"⟩
abbrev cX0_writeGuards : ByteArray := prog_2_method_32_code
def yX0_writeGuards : MethodName := ⟨RX0, "writeGuards", "(I)V"⟩
abbrev cX0_drift : ByteArray := prog_2_method_33_code
def yX0_drift : MethodName := ⟨RX0, "drift", "()V"⟩
abbrev cX0_nearer : ByteArray := prog_2_method_34_code
def yX0_nearer : MethodName := ⟨RX0, "nearer", "(II)I"⟩
abbrev cX0_age : ByteArray := prog_2_method_35_code
def yX0_age : MethodName := ⟨RX0, "age", "(I)I"⟩
abbrev cX0_allWrongCells : ByteArray := prog_2_method_36_code
def yX0_allWrongCells : MethodName := ⟨RX0, "allWrongCells", "()I"⟩
abbrev cX0_rowsWithWrongCells : ByteArray := prog_2_method_37_code
def yX0_rowsWithWrongCells : MethodName := ⟨RX0, "rowsWithWrongCells", "()I"⟩
abbrev cX0_rowsToldBy : ByteArray := prog_2_method_38_code
def yX0_rowsToldBy : MethodName := ⟨RX0, "rowsToldBy", "(I)I"⟩
abbrev cX0_pairsTold : ByteArray := prog_2_method_39_code
def yX0_pairsTold : MethodName := ⟨RX0, "pairsTold", "()I"⟩
abbrev cX0_cellsOfLevel : ByteArray := prog_2_method_40_code
def yX0_cellsOfLevel : MethodName := ⟨RX0, "cellsOfLevel", "(I)I"⟩
abbrev cX0_sum : ByteArray := prog_2_method_41_code
def yX0_sum : MethodName := ⟨RX0, "sum", "([I)I"⟩
abbrev cX0_isOutsideCell : ByteArray := prog_2_method_42_code
def yX0_isOutsideCell : MethodName := ⟨RX0, "isOutsideCell", "(II)Z"⟩
abbrev cX0_isOutsideGuard : ByteArray := prog_2_method_43_code
def yX0_isOutsideGuard : MethodName := ⟨RX0, "isOutsideGuard", "(II)Z"⟩
abbrev cX0_isOutsideSetting : ByteArray := prog_2_method_44_code
def yX0_isOutsideSetting : MethodName := ⟨RX0, "isOutsideSetting", "(II)Z"⟩
def RX1 : String := "DriftingLevels$OrderText"
def TX1 : u_T := fun k => match k with
  | 0 => ("DriftingLevels$OrderText", "signs", "[C", true)
  | 1 => ("DriftingLevels$OrderText", "length", "I", false)
  | 2 => ("DriftingLevels$OrderText", "kind", "C", false)
  | 3 => ("DriftingLevels$OrderText", "numbers", "[I", true)
  | _ => ("DriftingLevels$OrderText", "reached", "I", false)
def tyX1 : Nat → FieldType := fun k => match k with
  | 0 => .array .char
  | 1 => .int
  | 2 => .char
  | 3 => .array .int
  | _ => .int
abbrev wsX10 : List Cond := u_ws RX1 TX1 5
theorem nmX1 : ∀ a, a < 5 → ∀ b, b < 5 → a ≠ b → (TX1 a).2.1 ≠ (TX1 b).2.1 := by decide +kernel
theorem tyX1_ok : ∀ k, k < 5 → parseFieldDescriptor (TX1 k).2.2.1 = some (tyX1 k) := by decide +kernel
abbrev cX1_init : ByteArray := prog_3_method_1_code
def yX1_init : MethodName := ⟨RX1, "<init>", "()V"⟩
abbrev cX1_size : ByteArray := prog_3_method_2_code
def yX1_size : MethodName := ⟨RX1, "size", "()I"⟩
abbrev cX1_append : ByteArray := prog_3_method_3_code
def yX1_append : MethodName := ⟨RX1, "append", "(I)I"⟩
abbrev cX1_empty : ByteArray := prog_3_method_4_code
def yX1_empty : MethodName := ⟨RX1, "empty", "()I"⟩
abbrev cX1_placeReached : ByteArray := prog_3_method_5_code
def yX1_placeReached : MethodName := ⟨RX1, "placeReached", "()I"⟩
abbrev cX1_readOrder : ByteArray := prog_3_method_6_code
def yX1_readOrder : MethodName := ⟨RX1, "readOrder", "(I)Z"⟩
abbrev cX1_doOrder : ByteArray := prog_3_method_7_code
def yX1_doOrder : MethodName := ⟨RX1, "doOrder", "(LDriftingLevels$Grid;)I"⟩
abbrev cX1_numbersOf : ByteArray := prog_3_method_8_code
def yX1_numbersOf : MethodName := ⟨RX1, "numbersOf", "(C)I"⟩
abbrev cX1_readNumber : ByteArray := prog_3_method_9_code
def yX1_readNumber : MethodName := ⟨RX1, "readNumber", "(I)Z"⟩
abbrev cX1_signAt : ByteArray := prog_3_method_10_code
def yX1_signAt : MethodName := ⟨RX1, "signAt", "(I)C"⟩
abbrev cX1_isDigit : ByteArray := prog_3_method_11_code
def yX1_isDigit : MethodName := ⟨RX1, "isDigit", "(C)Z"⟩
def RX2 : String := "DriftingLevels"
def TX2 : u_T := fun k => match k with
  | 0 => ("DriftingLevels", "grid", "LDriftingLevels$Grid;", false)
  | 1 => ("DriftingLevels", "spare", "LDriftingLevels$Grid;", false)
  | 2 => ("DriftingLevels", "trial", "LDriftingLevels$Grid;", true)
  | 3 => ("DriftingLevels", "history", "[LDriftingLevels$Grid;", true)
  | 4 => ("DriftingLevels", "states", "I", false)
  | 5 => ("DriftingLevels", "text", "LDriftingLevels$OrderText;", true)
  | 6 => ("DriftingLevels", "orders", "I", false)
  | 7 => ("DriftingLevels", "faultPosition", "I", false)
  | 8 => ("DriftingLevels", "faultReason", "I", false)
  | _ => ("DriftingLevels", "faultCause", "I", false)
def tyX2 : Nat → FieldType := fun k => match k with
  | 0 => .object "DriftingLevels$Grid"
  | 1 => .object "DriftingLevels$Grid"
  | 2 => .object "DriftingLevels$Grid"
  | 3 => .array (.object "DriftingLevels$Grid")
  | 4 => .int
  | 5 => .object "DriftingLevels$OrderText"
  | 6 => .int
  | 7 => .int
  | 8 => .int
  | _ => .int
abbrev wsX20 : List Cond := u_ws RX2 TX2 10
theorem nmX2 : ∀ a, a < 10 → ∀ b, b < 10 → a ≠ b → (TX2 a).2.1 ≠ (TX2 b).2.1 := by decide +kernel
theorem tyX2_ok : ∀ k, k < 10 → parseFieldDescriptor (TX2 k).2.2.1 = some (tyX2 k) := by decide +kernel
abbrev cX2_init : ByteArray := prog_1_method_1_code
def yX2_init : MethodName := ⟨RX2, "<init>", "()V"⟩
abbrev cX2_write : ByteArray := prog_1_method_2_code
def yX2_write : MethodName := ⟨RX2, "write", "(III)I"⟩
abbrev cX2_fill : ByteArray := prog_1_method_3_code
def yX2_fill : MethodName := ⟨RX2, "fill", "(II)I"⟩
abbrev cX2_anew : ByteArray := prog_1_method_4_code
def yX2_anew : MethodName := ⟨RX2, "anew", "(I)I"⟩
abbrev cX2_ask : ByteArray := prog_1_method_5_code
def yX2_ask : MethodName := ⟨RX2, "ask", "(II)I"⟩
abbrev cX2_fail : ByteArray := prog_1_method_6_code
def yX2_fail : MethodName := ⟨RX2, "fail", "(III)I"⟩
abbrev cX2_mend : ByteArray := prog_1_method_7_code
def yX2_mend : MethodName := ⟨RX2, "mend", "(II)I"⟩
abbrev cX2_rate : ByteArray := prog_1_method_8_code
def yX2_rate : MethodName := ⟨RX2, "rate", "(II)I"⟩
abbrev cX2_days : ByteArray := prog_1_method_9_code
def yX2_days : MethodName := ⟨RX2, "days", "(I)I"⟩
abbrev cX2_set : ByteArray := prog_1_method_10_code
def yX2_set : MethodName := ⟨RX2, "set", "(II)I"⟩
abbrev cX2_cell : ByteArray := prog_1_method_11_code
def yX2_cell : MethodName := ⟨RX2, "cell", "(III)I"⟩
abbrev cX2_guard : ByteArray := prog_1_method_12_code
def yX2_guard : MethodName := ⟨RX2, "guard", "(III)I"⟩
abbrev cX2_row : ByteArray := prog_1_method_13_code
def yX2_row : MethodName := ⟨RX2, "row", "(II)I"⟩
abbrev cX2_table : ByteArray := prog_1_method_14_code
def yX2_table : MethodName := ⟨RX2, "table", "(II)I"⟩
abbrev cX2_wrongIn : ByteArray := prog_1_method_15_code
def yX2_wrongIn : MethodName := ⟨RX2, "wrongIn", "(I)I"⟩
abbrev cX2_rightFor : ByteArray := prog_1_method_16_code
def yX2_rightFor : MethodName := ⟨RX2, "rightFor", "(I)I"⟩
abbrev cX2_safeAge : ByteArray := prog_1_method_17_code
def yX2_safeAge : MethodName := ⟨RX2, "safeAge", "()I"⟩
abbrev cX2_worst : ByteArray := prog_1_method_18_code
def yX2_worst : MethodName := ⟨RX2, "worst", "(I)I"⟩
abbrev cX2_mean : ByteArray := prog_1_method_19_code
def yX2_mean : MethodName := ⟨RX2, "mean", "()I"⟩
abbrev cX2_share : ByteArray := prog_1_method_20_code
def yX2_share : MethodName := ⟨RX2, "share", "()I"⟩
abbrev cX2_count : ByteArray := prog_1_method_21_code
def yX2_count : MethodName := ⟨RX2, "count", "(I)I"⟩
abbrev cX2_undo : ByteArray := prog_1_method_22_code
def yX2_undo : MethodName := ⟨RX2, "undo", "()I"⟩
abbrev cX2_type : ByteArray := prog_1_method_23_code
def yX2_type : MethodName := ⟨RX2, "type", "(I)I"⟩
abbrev cX2_clearText : ByteArray := prog_1_method_24_code
def yX2_clearText : MethodName := ⟨RX2, "clearText", "()I"⟩
abbrev cX2_fault : ByteArray := prog_1_method_25_code
def yX2_fault : MethodName := ⟨RX2, "fault", "(I)I"⟩
abbrev cX2_play : ByteArray := prog_1_method_26_code
def yX2_play : MethodName := ⟨RX2, "play", "()I"⟩
abbrev cX2_recorded : ByteArray := prog_1_method_27_code
def yX2_recorded : MethodName := ⟨RX2, "recorded", "(I)I"⟩
abbrev cX2_dropOldest : ByteArray := prog_1_method_28_code
def yX2_dropOldest : MethodName := ⟨RX2, "dropOldest", "()V"⟩
abbrev cX2_isSafe : ByteArray := prog_1_method_29_code
def yX2_isSafe : MethodName := ⟨RX2, "isSafe", "(I)Z"⟩
abbrev cX2_findFault : ByteArray := prog_1_method_30_code
def yX2_findFault : MethodName := ⟨RX2, "findFault", "()Z"⟩
abbrev cX2_noteFault : ByteArray := prog_1_method_31_code
def yX2_noteFault : MethodName := ⟨RX2, "noteFault", "(III)Z"⟩
abbrev cX2_isOutside : ByteArray := prog_1_method_32_code
def yX2_isOutside : MethodName := ⟨RX2, "isOutside", "(III)Z"⟩
abbrev cX2_bitsOf : ByteArray := prog_1_method_33_code
def yX2_bitsOf : MethodName := ⟨RX2, "bitsOf", "(F)I"⟩
def RX3 : String := "DriftingLevelsModel"
def TX3 : u_T := fun k => match k with
  | 0 => ("DriftingLevelsModel", "s", "[I", true)
  | 1 => ("DriftingLevelsModel", "aside", "[I", true)
  | 2 => ("DriftingLevelsModel", "before", "[I", true)
  | 3 => ("DriftingLevelsModel", "past", "[I", true)
  | 4 => ("DriftingLevelsModel", "known", "I", false)
  | 5 => ("DriftingLevelsModel", "text", "[I", true)
  | 6 => ("DriftingLevelsModel", "length", "I", false)
  | 7 => ("DriftingLevelsModel", "spot", "I", false)
  | 8 => ("DriftingLevelsModel", "begin", "I", false)
  | 9 => ("DriftingLevelsModel", "isForm", "Z", false)
  | 10 => ("DriftingLevelsModel", "letter", "I", false)
  | 11 => ("DriftingLevelsModel", "tells", "[I", true)
  | 12 => ("DriftingLevelsModel", "faultReason", "I", false)
  | _ => ("DriftingLevelsModel", "faultCause", "I", false)
def tyX3 : Nat → FieldType := fun k => match k with
  | 0 => .array .int
  | 1 => .array .int
  | 2 => .array .int
  | 3 => .array .int
  | 4 => .int
  | 5 => .array .int
  | 6 => .int
  | 7 => .int
  | 8 => .int
  | 9 => .boolean
  | 10 => .int
  | 11 => .array .int
  | 12 => .int
  | _ => .int
abbrev wsX30 : List Cond := u_ws RX3 TX3 14
theorem nmX3 : ∀ a, a < 14 → ∀ b, b < 14 → a ≠ b → (TX3 a).2.1 ≠ (TX3 b).2.1 := by decide +kernel
theorem tyX3_ok : ∀ k, k < 14 → parseFieldDescriptor (TX3 k).2.2.1 = some (tyX3 k) := by decide +kernel
abbrev cX3_init : ByteArray := prog_5_method_1_code
def yX3_init : MethodName := ⟨RX3, "<init>", "()V"⟩
abbrev cX3_in : ByteArray := prog_5_method_3_code
def yX3_in : MethodName := ⟨RX3, "in", "(III)Z"⟩
abbrev cX3_copies : ByteArray := prog_5_method_4_code
def yX3_copies : MethodName := ⟨RX3, "copies", "([II[II)V"⟩
abbrev cX3_records : ByteArray := prog_5_method_5_code
def yX3_records : MethodName := ⟨RX3, "records", "()V"⟩
abbrev cX3_isRow : ByteArray := prog_5_method_6_code
def yX3_isRow : MethodName := ⟨RX3, "isRow", "(I)Z"⟩
abbrev cX3_isCell : ByteArray := prog_5_method_7_code
def yX3_isCell : MethodName := ⟨RX3, "isCell", "(I)Z"⟩
abbrev cX3_isThree : ByteArray := prog_5_method_8_code
def yX3_isThree : MethodName := ⟨RX3, "isThree", "(I)Z"⟩
abbrev cX3_of : ByteArray := prog_5_method_9_code
def yX3_of : MethodName := ⟨RX3, "of", "(II)I"⟩
abbrev cX3_lays : ByteArray := prog_5_method_10_code
def yX3_lays : MethodName := ⟨RX3, "lays", "(III)V"⟩
abbrev cX3_ofCell : ByteArray := prog_5_method_11_code
def yX3_ofCell : MethodName := ⟨RX3, "ofCell", "(III)I"⟩
abbrev cX3_laysCell : ByteArray := prog_5_method_12_code
def yX3_laysCell : MethodName := ⟨RX3, "laysCell", "(IIII)V"⟩
abbrev cX3_aim : ByteArray := prog_5_method_13_code
def yX3_aim : MethodName := ⟨RX3, "aim", "(I)I"⟩
abbrev cX3_size : ByteArray := prog_5_method_14_code
def yX3_size : MethodName := ⟨RX3, "size", "(I)I"⟩
abbrev cX3_writes : ByteArray := prog_5_method_15_code
def yX3_writes : MethodName := ⟨RX3, "writes", "(III)I"⟩
abbrev cX3_writesGuards : ByteArray := prog_5_method_16_code
def yX3_writesGuards : MethodName := ⟨RX3, "writesGuards", "(I)V"⟩
abbrev cX3_own : ByteArray := prog_5_method_17_code
def yX3_own : MethodName := ⟨RX3, "own", "(II)I"⟩
abbrev cX3_isRight : ByteArray := prog_5_method_18_code
def yX3_isRight : MethodName := ⟨RX3, "isRight", "(I)Z"⟩
abbrev cX3_helps : ByteArray := prog_5_method_19_code
def yX3_helps : MethodName := ⟨RX3, "helps", "(I)Z"⟩
abbrev cX3_source : ByteArray := prog_5_method_20_code
def yX3_source : MethodName := ⟨RX3, "source", "(I)I"⟩
abbrev cX3_threshold : ByteArray := prog_5_method_21_code
def yX3_threshold : MethodName := ⟨RX3, "threshold", "(II)I"⟩
abbrev cX3_by : ByteArray := prog_5_method_22_code
def yX3_by : MethodName := ⟨RX3, "by", "(III)I"⟩
abbrev cX3_told : ByteArray := prog_5_method_23_code
def yX3_told : MethodName := ⟨RX3, "told", "(II)I"⟩
abbrev cX3_wrong : ByteArray := prog_5_method_24_code
def yX3_wrong : MethodName := ⟨RX3, "wrong", "(I)I"⟩
abbrev cX3_wordTold : ByteArray := prog_5_method_25_code
def yX3_wordTold : MethodName := ⟨RX3, "wordTold", "(I)I"⟩
abbrev cX3_wordOf : ByteArray := prog_5_method_26_code
def yX3_wordOf : MethodName := ⟨RX3, "wordOf", "(I)I"⟩
abbrev cX3_writesWord : ByteArray := prog_5_method_27_code
def yX3_writesWord : MethodName := ⟨RX3, "writesWord", "(II)V"⟩
abbrev cX3_writesAnew : ByteArray := prog_5_method_28_code
def yX3_writesAnew : MethodName := ⟨RX3, "writesAnew", "(I)I"⟩
abbrev cX3_drifted : ByteArray := prog_5_method_29_code
def yX3_drifted : MethodName := ⟨RX3, "drifted", "(II)I"⟩
abbrev cX3_drifts : ByteArray := prog_5_method_30_code
def yX3_drifts : MethodName := ⟨RX3, "drifts", "()V"⟩
abbrev cX3_ageOf : ByteArray := prog_5_method_31_code
def yX3_ageOf : MethodName := ⟨RX3, "ageOf", "(I)I"⟩
abbrev cX3_endsDay : ByteArray := prog_5_method_32_code
def yX3_endsDay : MethodName := ⟨RX3, "endsDay", "()I"⟩
abbrev cX3_endsDays : ByteArray := prog_5_method_33_code
def yX3_endsDays : MethodName := ⟨RX3, "endsDays", "(I)I"⟩
abbrev cX3_errorWrite : ByteArray := prog_5_method_34_code
def yX3_errorWrite : MethodName := ⟨RX3, "errorWrite", "(III)I"⟩
abbrev cX3_errorFail : ByteArray := prog_5_method_35_code
def yX3_errorFail : MethodName := ⟨RX3, "errorFail", "(III)I"⟩
abbrev cX3_errorMend : ByteArray := prog_5_method_36_code
def yX3_errorMend : MethodName := ⟨RX3, "errorMend", "(II)I"⟩
abbrev cX3_errorRate : ByteArray := prog_5_method_37_code
def yX3_errorRate : MethodName := ⟨RX3, "errorRate", "(II)I"⟩
abbrev cX3_errorDays : ByteArray := prog_5_method_38_code
def yX3_errorDays : MethodName := ⟨RX3, "errorDays", "(I)I"⟩
abbrev cX3_goFail : ByteArray := prog_5_method_39_code
def yX3_goFail : MethodName := ⟨RX3, "goFail", "(III)V"⟩
abbrev cX3_write : ByteArray := prog_5_method_40_code
def yX3_write : MethodName := ⟨RX3, "write", "(III)I"⟩
abbrev cX3_fill : ByteArray := prog_5_method_41_code
def yX3_fill : MethodName := ⟨RX3, "fill", "(II)I"⟩
abbrev cX3_anew : ByteArray := prog_5_method_42_code
def yX3_anew : MethodName := ⟨RX3, "anew", "(I)I"⟩
abbrev cX3_ask : ByteArray := prog_5_method_43_code
def yX3_ask : MethodName := ⟨RX3, "ask", "(II)I"⟩
abbrev cX3_fail : ByteArray := prog_5_method_44_code
def yX3_fail : MethodName := ⟨RX3, "fail", "(III)I"⟩
abbrev cX3_mend : ByteArray := prog_5_method_45_code
def yX3_mend : MethodName := ⟨RX3, "mend", "(II)I"⟩
abbrev cX3_rate : ByteArray := prog_5_method_46_code
def yX3_rate : MethodName := ⟨RX3, "rate", "(II)I"⟩
abbrev cX3_days : ByteArray := prog_5_method_47_code
def yX3_days : MethodName := ⟨RX3, "days", "(I)I"⟩
abbrev cX3_set : ByteArray := prog_5_method_48_code
def yX3_set : MethodName := ⟨RX3, "set", "(II)I"⟩
abbrev cX3_undo : ByteArray := prog_5_method_49_code
def yX3_undo : MethodName := ⟨RX3, "undo", "()I"⟩
abbrev cX3_nearer : ByteArray := prog_5_method_50_code
def yX3_nearer : MethodName := ⟨RX3, "nearer", "(II)I"⟩
abbrev cX3_cell : ByteArray := prog_5_method_51_code
def yX3_cell : MethodName := ⟨RX3, "cell", "(III)I"⟩
abbrev cX3_guard : ByteArray := prog_5_method_52_code
def yX3_guard : MethodName := ⟨RX3, "guard", "(III)I"⟩
abbrev cX3_wrongFixed : ByteArray := prog_5_method_53_code
def yX3_wrongFixed : MethodName := ⟨RX3, "wrongFixed", "(I)I"⟩
abbrev cX3_row : ByteArray := prog_5_method_54_code
def yX3_row : MethodName := ⟨RX3, "row", "(II)I"⟩
abbrev cX3_table : ByteArray := prog_5_method_55_code
def yX3_table : MethodName := ⟨RX3, "table", "(II)I"⟩
abbrev cX3_wrongIn : ByteArray := prog_5_method_56_code
def yX3_wrongIn : MethodName := ⟨RX3, "wrongIn", "(I)I"⟩
abbrev cX3_rightFor : ByteArray := prog_5_method_57_code
def yX3_rightFor : MethodName := ⟨RX3, "rightFor", "(I)I"⟩
abbrev cX3_lostBy : ByteArray := prog_5_method_58_code
def yX3_lostBy : MethodName := ⟨RX3, "lostBy", "(I)I"⟩
abbrev cX3_safeAge : ByteArray := prog_5_method_59_code
def yX3_safeAge : MethodName := ⟨RX3, "safeAge", "()I"⟩
abbrev cX3_worst : ByteArray := prog_5_method_60_code
def yX3_worst : MethodName := ⟨RX3, "worst", "(I)I"⟩
abbrev cX3_mean : ByteArray := prog_5_method_61_code
def yX3_mean : MethodName := ⟨RX3, "mean", "()I"⟩
abbrev cX3_share : ByteArray := prog_5_method_62_code
def yX3_share : MethodName := ⟨RX3, "share", "()I"⟩
abbrev cX3_wrongAll : ByteArray := prog_5_method_63_code
def yX3_wrongAll : MethodName := ⟨RX3, "wrongAll", "()I"⟩
abbrev cX3_isOf : ByteArray := prog_5_method_64_code
def yX3_isOf : MethodName := ⟨RX3, "isOf", "(II)Z"⟩
abbrev cX3_setOf : ByteArray := prog_5_method_65_code
def yX3_setOf : MethodName := ⟨RX3, "setOf", "(I)I"⟩
abbrev cX3_failed : ByteArray := prog_5_method_66_code
def yX3_failed : MethodName := ⟨RX3, "failed", "()I"⟩
abbrev cX3_pairs : ByteArray := prog_5_method_67_code
def yX3_pairs : MethodName := ⟨RX3, "pairs", "()I"⟩
abbrev cX3_ofLevel : ByteArray := prog_5_method_68_code
def yX3_ofLevel : MethodName := ⟨RX3, "ofLevel", "(I)I"⟩
abbrev cX3_count : ByteArray := prog_5_method_69_code
def yX3_count : MethodName := ⟨RX3, "count", "(I)I"⟩
abbrev cX3_type : ByteArray := prog_5_method_70_code
def yX3_type : MethodName := ⟨RX3, "type", "(I)I"⟩
abbrev cX3_clearText : ByteArray := prog_5_method_71_code
def yX3_clearText : MethodName := ⟨RX3, "clearText", "()I"⟩
abbrev cX3_here : ByteArray := prog_5_method_72_code
def yX3_here : MethodName := ⟨RX3, "here", "()I"⟩
abbrev cX3_takes : ByteArray := prog_5_method_73_code
def yX3_takes : MethodName := ⟨RX3, "takes", "(Z)V"⟩
abbrev cX3_takesNumber : ByteArray := prog_5_method_74_code
def yX3_takesNumber : MethodName := ⟨RX3, "takesNumber", "(I)V"⟩
abbrev cX3_takesOrder : ByteArray := prog_5_method_75_code
def yX3_takesOrder : MethodName := ⟨RX3, "takesOrder", "()V"⟩
abbrev cX3_errorOfOrder : ByteArray := prog_5_method_76_code
def yX3_errorOfOrder : MethodName := ⟨RX3, "errorOfOrder", "()I"⟩
abbrev cX3_doesOrder : ByteArray := prog_5_method_77_code
def yX3_doesOrder : MethodName := ⟨RX3, "doesOrder", "()V"⟩
abbrev cX3_doesAll : ByteArray := prog_5_method_78_code
def yX3_doesAll : MethodName := ⟨RX3, "doesAll", "()I"⟩
abbrev cX3_fault : ByteArray := prog_5_method_79_code
def yX3_fault : MethodName := ⟨RX3, "fault", "(I)I"⟩
abbrev cX3_play : ByteArray := prog_5_method_80_code
def yX3_play : MethodName := ⟨RX3, "play", "()I"⟩
def RJxf58ca : String := "java/lang/Float"
def TJxf58ca : u_T := fun k => match k with
  | _ => ("", "", "", false)
def tyJxf58ca : Nat → FieldType := fun k => match k with
  | _ => .int
abbrev wsJxf58ca0 : List Cond := u_ws RJxf58ca TJxf58ca 0
theorem nmJxf58ca : ∀ a, a < 0 → ∀ b, b < 0 → a ≠ b → (TJxf58ca a).2.1 ≠ (TJxf58ca b).2.1 := by decide +kernel
theorem tyJxf58ca_ok : ∀ k, k < 0 → parseFieldDescriptor (TJxf58ca k).2.2.1 = some (tyJxf58ca k) := by decide +kernel
abbrev cJxf58ca_isNaN_12338 : ByteArray := prog_6_method_6_code
def yJxf58ca_isNaN_12338 : MethodName := ⟨RJxf58ca, "isNaN", "(F)Z"⟩
abbrev cJxf58ca_floatToIntBits_5c35a : ByteArray := prog_6_method_24_code
def yJxf58ca_floatToIntBits_5c35a : MethodName := ⟨RJxf58ca, "floatToIntBits", "(F)I"⟩
def RJ9 : String := "java/lang/Math"
def TJ9 : u_T := fun k => match k with
  | _ => ("", "", "", false)
def tyJ9 : Nat → FieldType := fun k => match k with
  | _ => .int
abbrev wsJ90 : List Cond := u_ws RJ9 TJ9 0
theorem nmJ9 : ∀ a, a < 0 → ∀ b, b < 0 → a ≠ b → (TJ9 a).2.1 ≠ (TJ9 b).2.1 := by decide +kernel
theorem tyJ9_ok : ∀ k, k < 0 → parseFieldDescriptor (TJ9 k).2.2.1 = some (tyJ9 k) := by decide +kernel
abbrev cJ9_abs_0f7a4 : ByteArray := prog_7_method_59_code
def yJ9_abs_0f7a4 : MethodName := ⟨RJ9, "abs", "(I)I"⟩
abbrev cJ9_max_7cf53 : ByteArray := prog_7_method_65_code
def yJ9_max_7cf53 : MethodName := ⟨RJ9, "max", "(II)I"⟩
abbrev cJ9_min_7cf53 : ByteArray := prog_7_method_69_code
def yJ9_min_7cf53 : MethodName := ⟨RJ9, "min", "(II)I"⟩
def RJ10 : String := "java/lang/System"
def TJ10 : u_T := fun k => match k with
  | _ => ("", "", "", false)
def tyJ10 : Nat → FieldType := fun k => match k with
  | _ => .int
abbrev wsJ100 : List Cond := u_ws RJ10 TJ10 0
theorem nmJ10 : ∀ a, a < 0 → ∀ b, b < 0 → a ≠ b → (TJ10 a).2.1 ≠ (TJ10 b).2.1 := by decide +kernel
theorem tyJ10_ok : ∀ k, k < 0 → parseFieldDescriptor (TJ10 k).2.2.1 = some (tyJ10 k) := by decide +kernel
def RL : String := "DriftingLevelsLaw"
abbrev cL_law : ByteArray := code
def yL_law : MethodName := ⟨RL, "law", "([I)Z"⟩
abbrev vwCl : List vw_C := [(RX0, TX0, 13), (RX1, TX1, 5), (RX2, TX2, 10), (RX3, TX3, 14)]
end
section
/-! all the words that any method needs, in one list: every contract stands over its own code and these -/
def K0 : List Cond := [Cond.code yX0_aim cX0_aim 1 (some .int), Cond.fieldLink RX0 18 "DriftingLevels$Grid" "timesWritten" "[I", Cond.fieldLink RX0 9 "DriftingLevels$Grid" "level" "[I", Cond.fieldLink RX0 15 "DriftingLevels$Grid" "value" "[I", Cond.fieldLink RX0 21 "DriftingLevels$Grid" "dayWritten" "[I", Cond.fieldLink RX0 62 "DriftingLevels$Grid" "today" "I", Cond.methodLink RX0 154 yX0_aim, Cond.static yX0_aim, Cond.initialized RX0, Cond.code yX0_put cX0_put 4 none, Cond.fieldLink RX0 27 "DriftingLevels$Grid" "guardFailed" "[I", Cond.fieldLink RX0 24 "DriftingLevels$Grid" "guardValue" "[I", Cond.fieldLink RX0 33 "DriftingLevels$Grid" "dayOfGuards" "[I", Cond.code yX0_writeGuards cX0_writeGuards 4 none, Cond.methodLink RX0 3 objectInit, Cond.instanceMethod objectInit, Cond.code objectInit ⟨#[0xb1]⟩ 1 none, Cond.arrayClass .int, Cond.fieldLink RX0 30 "DriftingLevels$Grid" "rateOfRow" "[I", Cond.fieldLink RX0 36 "DriftingLevels$Grid" "levelsLost" "[I", Cond.fieldLink RX0 39 "DriftingLevels$Grid" "timesAnew" "[I", Cond.fieldLink RX0 42 "DriftingLevels$Grid" "toldAs" "[I", Cond.fieldLink RX0 45 "DriftingLevels$Grid" "setting" "[I", Cond.methodLink RX0 48 yX0_put, Cond.instanceMethod yX0_put, Cond.selects RX0 yX0_put yX0_put, Cond.methodLink RX0 52 yX0_writeGuards, Cond.instanceMethod yX0_writeGuards, Cond.selects RX0 yX0_writeGuards yX0_writeGuards, Cond.code yX0_init cX0_init 2 none, Cond.methodLink RX0 56 arraycopyName, Cond.native arraycopyName]
def K1 : List Cond := [Cond.static arraycopyName, Cond.initialized "java/lang/System", Cond.code yX0_copyFrom cX0_copyFrom 2 none, Cond.code yX2_isOutside cX2_isOutside 3 (some .boolean), Cond.static yX2_isOutside, Cond.initialized RX2, Cond.code yX0_isOutsideCell cX0_isOutsideCell 2 (some .boolean), Cond.constant RX0 74 (-1000001), Cond.methodLink RX0 66 yX0_isOutsideCell, Cond.static yX0_isOutsideCell, Cond.code yX0_writeLevel cX0_writeLevel 5 (some .int), Cond.code yX0_hasRightThresholds cX0_hasRightThresholds 3 (some .boolean), Cond.code yX0_ownThreshold cX0_ownThreshold 4 (some .int), Cond.methodLink RX0 115 yX0_hasRightThresholds, Cond.instanceMethod yX0_hasRightThresholds, Cond.selects RX0 yX0_hasRightThresholds yX0_hasRightThresholds, Cond.methodLink RX0 104 yX0_ownThreshold, Cond.instanceMethod yX0_ownThreshold, Cond.selects RX0 yX0_ownThreshold yX0_ownThreshold, Cond.code yX0_threshold cX0_threshold 5 (some .int), Cond.code yX0_tell cX0_tell 3 (some .int), Cond.methodLink RX0 79 yX0_threshold, Cond.instanceMethod yX0_threshold, Cond.selects RX0 yX0_threshold yX0_threshold, Cond.methodLink RX0 83 yX0_tell, Cond.static yX0_tell, Cond.code yX0_toldWord cX0_toldWord 6 (some .int), Cond.methodLink RX0 75 yX0_toldWord, Cond.instanceMethod yX0_toldWord, Cond.selects RX0 yX0_toldWord yX0_toldWord, Cond.code yX0_writeWord cX0_writeWord 6 (some .int), Cond.code yX0_writeAnew cX0_writeAnew 8 (some .int)]
def K2 : List Cond := [Cond.code yX0_askCell cX0_askCell 5 (some .int), Cond.code yX0_isOutsideGuard cX0_isOutsideGuard 2 (some .boolean), Cond.constant RX0 90 (-1000002), Cond.methodLink RX0 87 yX0_isOutsideGuard, Cond.static yX0_isOutsideGuard, Cond.code yX0_failGuard cX0_failGuard 6 (some .int), Cond.code yX0_mendGuard cX0_mendGuard 4 (some .int), Cond.code yX0_changeRate cX0_changeRate 4 (some .int), Cond.methodLink RX0 160 Lib.Math.max.name, Cond.static Lib.Math.max.name, Cond.initialized "java/lang/Math", Cond.code Lib.Math.max.name Lib.Math.max.code 2 (some .int), Cond.code yX0_nearer cX0_nearer 4 (some .int), Cond.methodLink RX0 157 yX0_nearer, Cond.instanceMethod yX0_nearer, Cond.selects RX0 yX0_nearer yX0_nearer, Cond.code yX0_drift cX0_drift 2 none, Cond.code yX0_age cX0_age 2 (some .int), Cond.constant RX0 91 (-1000003), Cond.methodLink RX0 92 yX0_drift, Cond.instanceMethod yX0_drift, Cond.selects RX0 yX0_drift yX0_drift, Cond.methodLink RX0 95 yX0_age, Cond.instanceMethod yX0_age, Cond.selects RX0 yX0_age yX0_age, Cond.methodLink RX0 98 yX0_writeAnew, Cond.instanceMethod yX0_writeAnew, Cond.selects RX0 yX0_writeAnew yX0_writeAnew, Cond.code yX0_passDays cX0_passDays 6 (some .int), Cond.code yX0_isOutsideSetting cX0_isOutsideSetting 2 (some .boolean), Cond.methodLink RX0 101 yX0_isOutsideSetting, Cond.static yX0_isOutsideSetting]
def K3 : List Cond := [Cond.code yX0_changeSetting cX0_changeSetting 4 (some .int), Cond.methodLink RX0 107 Lib.Math.abs.name, Cond.static Lib.Math.abs.name, Cond.code Lib.Math.abs.name Lib.Math.abs.code 1 (some .int), Cond.methodLink RX0 112 Lib.Math.min.name, Cond.static Lib.Math.min.name, Cond.code Lib.Math.min.name Lib.Math.min.code 2 (some .int), Cond.code yX0_numberOfCell cX0_numberOfCell 7 (some .int), Cond.code yX0_numberOfGuard cX0_numberOfGuard 5 (some .int), Cond.code yX0_source cX0_source 2 (some .int), Cond.code yX0_wrongBy cX0_wrongBy 7 (some .int), Cond.methodLink RX0 125 yX0_wrongBy, Cond.instanceMethod yX0_wrongBy, Cond.selects RX0 yX0_wrongBy yX0_wrongBy, Cond.code yX0_wrongCells cX0_wrongCells 2 (some .int), Cond.code yX0_levelWord cX0_levelWord 4 (some .int), Cond.methodLink RX0 119 yX0_source, Cond.instanceMethod yX0_source, Cond.selects RX0 yX0_source yX0_source, Cond.methodLink RX0 122 yX0_wrongCells, Cond.instanceMethod yX0_wrongCells, Cond.selects RX0 yX0_wrongCells yX0_wrongCells, Cond.methodLink RX0 128 yX0_levelWord, Cond.instanceMethod yX0_levelWord, Cond.selects RX0 yX0_levelWord yX0_levelWord, Cond.code yX0_numberOfRow cX0_numberOfRow 3 (some .int), Cond.code yX0_timesTold cX0_timesTold 3 (some .int), Cond.code yX0_allWrongCells cX0_allWrongCells 3 (some .int), Cond.code yX0_rowsWithWrongCells cX0_rowsWithWrongCells 3 (some .int), Cond.code yX0_rowsToldBy cX0_rowsToldBy 4 (some .int), Cond.code yX0_sum cX0_sum 3 (some .int), Cond.methodLink RX0 141 yX0_sum]
def K4 : List Cond := [Cond.static yX0_sum, Cond.code yX0_timesAsked cX0_timesAsked 1 (some .int), Cond.code yX0_pairsTold cX0_pairsTold 3 (some .int), Cond.code yX0_cellsOfLevel cX0_cellsOfLevel 4 (some .int), Cond.methodLink RX0 131 yX0_allWrongCells, Cond.instanceMethod yX0_allWrongCells, Cond.selects RX0 yX0_allWrongCells yX0_allWrongCells, Cond.methodLink RX0 135 yX0_rowsWithWrongCells, Cond.instanceMethod yX0_rowsWithWrongCells, Cond.selects RX0 yX0_rowsWithWrongCells yX0_rowsWithWrongCells, Cond.methodLink RX0 138 yX0_rowsToldBy, Cond.instanceMethod yX0_rowsToldBy, Cond.selects RX0 yX0_rowsToldBy yX0_rowsToldBy, Cond.methodLink RX0 145 yX0_timesAsked, Cond.instanceMethod yX0_timesAsked, Cond.selects RX0 yX0_timesAsked yX0_timesAsked, Cond.methodLink RX0 148 yX0_pairsTold, Cond.instanceMethod yX0_pairsTold, Cond.selects RX0 yX0_pairsTold yX0_pairsTold, Cond.methodLink RX0 151 yX0_cellsOfLevel, Cond.instanceMethod yX0_cellsOfLevel, Cond.selects RX0 yX0_cellsOfLevel yX0_cellsOfLevel, Cond.code yX0_tally cX0_tally 2 (some .int), Cond.code yX0_timesToldRight cX0_timesToldRight 3 (some .int), Cond.code yX0_distanceFromAims cX0_distanceFromAims 3 (some .int), Cond.code yX0_worstBut cX0_worstBut 6 (some .int), Cond.methodLink RX1 3 objectInit, Cond.arrayClass .char, Cond.fieldLink RX1 9 "DriftingLevels$OrderText" "signs" "[C", Cond.fieldLink RX1 15 "DriftingLevels$OrderText" "numbers" "[I", Cond.code yX1_init cX1_init 1 none, Cond.fieldLink RX1 19 "DriftingLevels$OrderText" "length" "I"]
def K5 : List Cond := [Cond.code yX1_size cX1_size 1 (some .int), Cond.constant RX1 27 (-1000001), Cond.constant RX1 28 (-1000003), Cond.code yX1_append cX1_append 2 (some .int), Cond.code yX1_empty cX1_empty 2 (some .int), Cond.fieldLink RX1 29 "DriftingLevels$OrderText" "reached" "I", Cond.code yX1_placeReached cX1_placeReached 1 (some .int), Cond.code yX1_signAt cX1_signAt 2 (some .char), Cond.code yX1_numbersOf cX1_numbersOf 1 (some .int), Cond.code yX1_isDigit cX1_isDigit 1 (some .boolean), Cond.methodLink RX1 32 yX1_signAt, Cond.instanceMethod yX1_signAt, Cond.selects RX1 yX1_signAt yX1_signAt, Cond.initialized RX1, Cond.methodLink RX1 71 yX1_isDigit, Cond.static yX1_isDigit, Cond.code yX1_readNumber cX1_readNumber 4 (some .boolean), Cond.fieldLink RX1 36 "DriftingLevels$OrderText" "kind" "C", Cond.methodLink RX1 40 yX1_numbersOf, Cond.static yX1_numbersOf, Cond.methodLink RX1 44 yX1_readNumber, Cond.instanceMethod yX1_readNumber, Cond.selects RX1 yX1_readNumber yX1_readNumber, Cond.code yX1_readOrder cX1_readOrder 5 (some .boolean), Cond.methodLink RX1 48 yX0_writeLevel, Cond.instanceMethod yX0_writeLevel, Cond.selects RX0 yX0_writeLevel yX0_writeLevel, Cond.methodLink RX1 54 yX0_writeAnew, Cond.methodLink RX1 58 yX0_failGuard, Cond.instanceMethod yX0_failGuard, Cond.selects RX0 yX0_failGuard yX0_failGuard, Cond.methodLink RX1 61 yX0_mendGuard]
def K6 : List Cond := [Cond.instanceMethod yX0_mendGuard, Cond.selects RX0 yX0_mendGuard yX0_mendGuard, Cond.methodLink RX1 65 yX0_changeRate, Cond.instanceMethod yX0_changeRate, Cond.selects RX0 yX0_changeRate yX0_changeRate, Cond.methodLink RX1 68 yX0_passDays, Cond.instanceMethod yX0_passDays, Cond.selects RX0 yX0_passDays yX0_passDays, Cond.code yX1_doOrder cX1_doOrder 2 (some .int), Cond.methodLink RX2 3 objectInit, Cond.classLink RX2 9 RX0, Cond.instantiable RX0 13, Cond.fieldLink RX2 12 "DriftingLevels" "grid" "LDriftingLevels$Grid;", Cond.fieldLink RX2 16 "DriftingLevels" "spare" "LDriftingLevels$Grid;", Cond.fieldLink RX2 19 "DriftingLevels" "trial" "LDriftingLevels$Grid;", Cond.fieldLink RX2 22 "DriftingLevels" "history" "[LDriftingLevels$Grid;", Cond.classLink RX2 26 RX1, Cond.instantiable RX1 5, Cond.fieldLink RX2 29 "DriftingLevels" "text" "LDriftingLevels$OrderText;", Cond.methodLink RX2 11 yX0_init, Cond.instanceMethod yX0_init, Cond.instanceMethod yX1_init, Cond.code yX2_init cX2_init 2 none, Cond.fieldLink RX2 117 "DriftingLevels" "states" "I", Cond.code yX2_dropOldest cX2_dropOldest 3 none, Cond.methodLink RX2 150 yX2_dropOldest, Cond.instanceMethod yX2_dropOldest, Cond.selects RX2 yX2_dropOldest yX2_dropOldest, Cond.code yX2_recorded cX2_recorded 3 (some .int), Cond.methodLink RX2 33 yX0_copyFrom, Cond.instanceMethod yX0_copyFrom, Cond.selects RX0 yX0_copyFrom yX0_copyFrom]
def K7 : List Cond := [Cond.methodLink RX2 37 yX0_writeLevel, Cond.methodLink RX2 41 yX2_recorded, Cond.instanceMethod yX2_recorded, Cond.selects RX2 yX2_recorded yX2_recorded, Cond.code yX2_write cX2_write 4 (some .int), Cond.methodLink RX2 45 yX0_writeWord, Cond.instanceMethod yX0_writeWord, Cond.selects RX0 yX0_writeWord yX0_writeWord, Cond.code yX2_fill cX2_fill 3 (some .int), Cond.methodLink RX2 49 yX0_writeAnew, Cond.code yX2_anew cX2_anew 2 (some .int), Cond.methodLink RX2 52 yX0_askCell, Cond.instanceMethod yX0_askCell, Cond.selects RX0 yX0_askCell yX0_askCell, Cond.code yX2_ask cX2_ask 3 (some .int), Cond.methodLink RX2 55 yX0_failGuard, Cond.code yX2_fail cX2_fail 4 (some .int), Cond.methodLink RX2 58 yX0_mendGuard, Cond.code yX2_mend cX2_mend 3 (some .int), Cond.methodLink RX2 61 yX0_changeRate, Cond.code yX2_rate cX2_rate 3 (some .int), Cond.methodLink RX2 64 yX0_passDays, Cond.code yX2_days cX2_days 2 (some .int), Cond.methodLink RX2 67 yX0_changeSetting, Cond.instanceMethod yX0_changeSetting, Cond.selects RX0 yX0_changeSetting yX0_changeSetting, Cond.code yX2_set cX2_set 3 (some .int), Cond.methodLink RX2 70 yX0_numberOfCell, Cond.instanceMethod yX0_numberOfCell, Cond.selects RX0 yX0_numberOfCell yX0_numberOfCell, Cond.code yX2_cell cX2_cell 4 (some .int), Cond.methodLink RX2 73 yX0_numberOfGuard]
def K8 : List Cond := [Cond.instanceMethod yX0_numberOfGuard, Cond.selects RX0 yX0_numberOfGuard yX0_numberOfGuard, Cond.code yX2_guard cX2_guard 4 (some .int), Cond.methodLink RX2 76 yX0_numberOfRow, Cond.instanceMethod yX0_numberOfRow, Cond.selects RX0 yX0_numberOfRow yX0_numberOfRow, Cond.code yX2_row cX2_row 3 (some .int), Cond.methodLink RX2 79 yX0_timesTold, Cond.instanceMethod yX0_timesTold, Cond.selects RX0 yX0_timesTold yX0_timesTold, Cond.code yX2_table cX2_table 3 (some .int), Cond.constant RX2 86 (-1000001), Cond.constant RX2 90 (1000000), Cond.constant RX2 91 (-1000004), Cond.methodLink RX2 82 yX2_isOutside, Cond.methodLink RX2 87 yX0_wrongCells, Cond.code yX2_wrongIn cX2_wrongIn 3 (some .int), Cond.methodLink RX2 92 yX0_hasRightThresholds, Cond.code yX2_rightFor cX2_rightFor 3 (some .int), Cond.code yX2_isSafe cX2_isSafe 3 (some .boolean), Cond.methodLink RX2 96 yX2_isSafe, Cond.instanceMethod yX2_isSafe, Cond.selects RX2 yX2_isSafe yX2_isSafe, Cond.code yX2_safeAge cX2_safeAge 2 (some .int), Cond.methodLink RX2 99 yX0_worstBut, Cond.instanceMethod yX0_worstBut, Cond.selects RX0 yX0_worstBut yX0_worstBut, Cond.code yX2_worst cX2_worst 5 (some .int), Cond.constantFloat RX2 166 (1258291200), Cond.code yX2_bitsOf cX2_bitsOf 4 (some .int), Cond.constantFloat RX2 106 (1111490560), Cond.methodLink RX2 102 yX0_distanceFromAims]
def K9 : List Cond := [Cond.instanceMethod yX0_distanceFromAims, Cond.selects RX0 yX0_distanceFromAims yX0_distanceFromAims, Cond.methodLink RX2 107 yX2_bitsOf, Cond.static yX2_bitsOf, Cond.code yX2_mean cX2_mean 1 (some .int), Cond.methodLink RX2 111 yX0_timesAsked, Cond.methodLink RX2 114 yX0_timesToldRight, Cond.instanceMethod yX0_timesToldRight, Cond.selects RX0 yX0_timesToldRight yX0_timesToldRight, Cond.code yX2_share cX2_share 2 (some .int), Cond.methodLink RX2 121 yX1_size, Cond.instanceMethod yX1_size, Cond.selects RX1 yX1_size yX1_size, Cond.methodLink RX2 124 yX0_tally, Cond.instanceMethod yX0_tally, Cond.selects RX0 yX0_tally yX0_tally, Cond.code yX2_count cX2_count 2 (some .int), Cond.constant RX2 127 (-1000002), Cond.code yX2_undo cX2_undo 2 (some .int), Cond.methodLink RX2 128 yX1_append, Cond.instanceMethod yX1_append, Cond.selects RX1 yX1_append yX1_append, Cond.code yX2_type cX2_type 2 (some .int), Cond.methodLink RX2 131 yX1_empty, Cond.instanceMethod yX1_empty, Cond.selects RX1 yX1_empty yX1_empty, Cond.code yX2_clearText cX2_clearText 1 (some .int), Cond.fieldLink RX2 138 "DriftingLevels" "faultPosition" "I", Cond.fieldLink RX2 141 "DriftingLevels" "faultReason" "I", Cond.fieldLink RX2 144 "DriftingLevels" "faultCause" "I", Cond.code yX2_noteFault cX2_noteFault 4 (some .boolean), Cond.fieldLink RX2 147 "DriftingLevels" "orders" "I"]
def K10 : List Cond := [Cond.methodLink RX2 153 yX1_readOrder, Cond.instanceMethod yX1_readOrder, Cond.selects RX1 yX1_readOrder yX1_readOrder, Cond.methodLink RX2 156 yX1_placeReached, Cond.instanceMethod yX1_placeReached, Cond.selects RX1 yX1_placeReached yX1_placeReached, Cond.methodLink RX2 159 yX2_noteFault, Cond.instanceMethod yX2_noteFault, Cond.selects RX2 yX2_noteFault yX2_noteFault, Cond.methodLink RX2 162 yX1_doOrder, Cond.instanceMethod yX1_doOrder, Cond.selects RX1 yX1_doOrder yX1_doOrder, Cond.code yX2_findFault cX2_findFault 3 (some .boolean), Cond.methodLink RX2 134 yX2_findFault, Cond.instanceMethod yX2_findFault, Cond.selects RX2 yX2_findFault yX2_findFault, Cond.code yX2_fault cX2_fault 2 (some .int), Cond.code yX2_play cX2_play 1 (some .int), Cond.fieldLink RX3 7 "DriftingLevelsModel" "s" "[I", Cond.code yX3_lays cX3_lays 4 none, Cond.code yX3_of cX3_of 3 (some .int), Cond.code yX3_aim cX3_aim 1 (some .int), Cond.methodLink RX3 52 yX3_of, Cond.instanceMethod yX3_of, Cond.selects RX3 yX3_of yX3_of, Cond.initialized RX3, Cond.methodLink RX3 63 yX3_aim, Cond.static yX3_aim, Cond.methodLink RX3 28 yX3_lays, Cond.instanceMethod yX3_lays, Cond.selects RX3 yX3_lays yX3_lays, Cond.code yX3_writesGuards cX3_writesGuards 3 none]
def K11 : List Cond := [Cond.code yX3_ofCell cX3_ofCell 4 (some .int), Cond.code yX3_laysCell cX3_laysCell 5 none, Cond.methodLink RX3 56 yX3_ofCell, Cond.instanceMethod yX3_ofCell, Cond.selects RX3 yX3_ofCell yX3_ofCell, Cond.methodLink RX3 59 yX3_laysCell, Cond.instanceMethod yX3_laysCell, Cond.selects RX3 yX3_laysCell yX3_laysCell, Cond.code yX3_writes cX3_writes 6 (some .int), Cond.methodLink RX3 1 objectInit, Cond.fieldLink RX3 13 "DriftingLevelsModel" "aside" "[I", Cond.fieldLink RX3 16 "DriftingLevelsModel" "before" "[I", Cond.fieldLink RX3 19 "DriftingLevelsModel" "past" "[I", Cond.fieldLink RX3 22 "DriftingLevelsModel" "text" "[I", Cond.fieldLink RX3 25 "DriftingLevelsModel" "tells" "[I", Cond.methodLink RX3 32 yX3_writesGuards, Cond.instanceMethod yX3_writesGuards, Cond.selects RX3 yX3_writesGuards yX3_writesGuards, Cond.methodLink RX3 36 yX3_writes, Cond.instanceMethod yX3_writes, Cond.selects RX3 yX3_writes yX3_writes, Cond.code yX3_init cX3_init 3 none, Cond.code yX3_in cX3_in 3 (some .boolean), Cond.code yX3_copies cX3_copies 5 none, Cond.fieldLink RX3 40 "DriftingLevelsModel" "known" "I", Cond.methodLink RX3 44 yX3_copies, Cond.static yX3_copies, Cond.code yX3_records cX3_records 2 none, Cond.methodLink RX3 48 yX3_in, Cond.static yX3_in, Cond.code yX3_isRow cX3_isRow 1 (some .boolean), Cond.code yX3_isCell cX3_isCell 1 (some .boolean)]
def K12 : List Cond := [Cond.code yX3_isThree cX3_isThree 1 (some .boolean), Cond.code yX3_size cX3_size 1 (some .int), Cond.code yX3_own cX3_own 3 (some .int), Cond.code yX3_isRight cX3_isRight 2 (some .boolean), Cond.methodLink RX3 67 yX3_isRow, Cond.static yX3_isRow, Cond.methodLink RX3 71 yX3_isRight, Cond.instanceMethod yX3_isRight, Cond.selects RX3 yX3_isRight yX3_isRight, Cond.code yX3_helps cX3_helps 2 (some .boolean), Cond.methodLink RX3 74 yX3_helps, Cond.instanceMethod yX3_helps, Cond.selects RX3 yX3_helps yX3_helps, Cond.code yX3_source cX3_source 2 (some .int), Cond.methodLink RX3 77 yX3_own, Cond.instanceMethod yX3_own, Cond.selects RX3 yX3_own yX3_own, Cond.code yX3_threshold cX3_threshold 5 (some .int), Cond.code yX3_by cX3_by 3 (some .int), Cond.methodLink RX3 80 yX3_threshold, Cond.instanceMethod yX3_threshold, Cond.selects RX3 yX3_threshold yX3_threshold, Cond.methodLink RX3 83 yX3_by, Cond.static yX3_by, Cond.code yX3_told cX3_told 3 (some .int), Cond.methodLink RX3 86 yX3_told, Cond.instanceMethod yX3_told, Cond.selects RX3 yX3_told yX3_told, Cond.code yX3_wrong cX3_wrong 4 (some .int), Cond.code yX3_wordTold cX3_wordTold 4 (some .int), Cond.code yX3_wordOf cX3_wordOf 4 (some .int), Cond.code yX3_writesWord cX3_writesWord 6 none]
def K13 : List Cond := [Cond.methodLink RX3 89 yX3_wrong, Cond.instanceMethod yX3_wrong, Cond.selects RX3 yX3_wrong yX3_wrong, Cond.methodLink RX3 92 yX3_wordTold, Cond.instanceMethod yX3_wordTold, Cond.selects RX3 yX3_wordTold yX3_wordTold, Cond.methodLink RX3 95 yX3_writesWord, Cond.instanceMethod yX3_writesWord, Cond.selects RX3 yX3_writesWord yX3_writesWord, Cond.code yX3_writesAnew cX3_writesAnew 3 (some .int), Cond.methodLink RX3 99 yX3_size, Cond.static yX3_size, Cond.code yX3_drifted cX3_drifted 5 (some .int), Cond.methodLink RX3 102 yX3_drifted, Cond.instanceMethod yX3_drifted, Cond.selects RX3 yX3_drifted yX3_drifted, Cond.code yX3_drifts cX3_drifts 3 none, Cond.code yX3_ageOf cX3_ageOf 2 (some .int), Cond.methodLink RX3 105 yX3_drifts, Cond.instanceMethod yX3_drifts, Cond.selects RX3 yX3_drifts yX3_drifts, Cond.methodLink RX3 108 yX3_ageOf, Cond.instanceMethod yX3_ageOf, Cond.selects RX3 yX3_ageOf yX3_ageOf, Cond.methodLink RX3 111 yX3_writesAnew, Cond.instanceMethod yX3_writesAnew, Cond.selects RX3 yX3_writesAnew yX3_writesAnew, Cond.code yX3_endsDay cX3_endsDay 3 (some .int), Cond.methodLink RX3 114 yX3_endsDay, Cond.instanceMethod yX3_endsDay, Cond.selects RX3 yX3_endsDay yX3_endsDay, Cond.code yX3_endsDays cX3_endsDays 4 (some .int)]
def K14 : List Cond := [Cond.constant RX3 124 (-1000001), Cond.methodLink RX3 118 yX3_isCell, Cond.static yX3_isCell, Cond.methodLink RX3 121 yX3_isThree, Cond.static yX3_isThree, Cond.code yX3_errorWrite cX3_errorWrite 3 (some .int), Cond.constant RX3 125 (-1000002), Cond.code yX3_errorFail cX3_errorFail 4 (some .int), Cond.code yX3_errorMend cX3_errorMend 3 (some .int), Cond.code yX3_errorRate cX3_errorRate 2 (some .int), Cond.constant RX3 126 (-1000003), Cond.code yX3_errorDays cX3_errorDays 2 (some .int), Cond.code yX3_goFail cX3_goFail 4 none, Cond.methodLink RX3 127 yX3_errorWrite, Cond.static yX3_errorWrite, Cond.methodLink RX3 130 yX3_records, Cond.instanceMethod yX3_records, Cond.selects RX3 yX3_records yX3_records, Cond.code yX3_write cX3_write 5 (some .int), Cond.code yX3_fill cX3_fill 4 (some .int), Cond.code yX3_anew cX3_anew 2 (some .int), Cond.code yX3_ask cX3_ask 4 (some .int), Cond.methodLink RX3 133 yX3_errorFail, Cond.instanceMethod yX3_errorFail, Cond.selects RX3 yX3_errorFail yX3_errorFail, Cond.methodLink RX3 136 yX3_goFail, Cond.instanceMethod yX3_goFail, Cond.selects RX3 yX3_goFail yX3_goFail, Cond.code yX3_fail cX3_fail 6 (some .int), Cond.methodLink RX3 139 yX3_errorMend, Cond.instanceMethod yX3_errorMend, Cond.selects RX3 yX3_errorMend yX3_errorMend]
def K15 : List Cond := [Cond.code yX3_mend cX3_mend 4 (some .int), Cond.methodLink RX3 142 yX3_errorRate, Cond.static yX3_errorRate, Cond.code yX3_rate cX3_rate 5 (some .int), Cond.methodLink RX3 145 yX3_errorDays, Cond.instanceMethod yX3_errorDays, Cond.selects RX3 yX3_errorDays yX3_errorDays, Cond.methodLink RX3 148 yX3_endsDays, Cond.instanceMethod yX3_endsDays, Cond.selects RX3 yX3_endsDays yX3_endsDays, Cond.code yX3_days cX3_days 3 (some .int), Cond.code yX3_set cX3_set 4 (some .int), Cond.code yX3_undo cX3_undo 1 (some .int), Cond.code yX3_nearer cX3_nearer 5 (some .int), Cond.methodLink RX3 151 yX3_nearer, Cond.instanceMethod yX3_nearer, Cond.selects RX3 yX3_nearer yX3_nearer, Cond.code yX3_cell cX3_cell 5 (some .int), Cond.code yX3_guard cX3_guard 4 (some .int), Cond.code yX3_wrongFixed cX3_wrongFixed 4 (some .int), Cond.methodLink RX3 154 yX3_source, Cond.instanceMethod yX3_source, Cond.selects RX3 yX3_source yX3_source, Cond.methodLink RX3 157 yX3_wrongFixed, Cond.instanceMethod yX3_wrongFixed, Cond.selects RX3 yX3_wrongFixed yX3_wrongFixed, Cond.methodLink RX3 160 yX3_wordOf, Cond.instanceMethod yX3_wordOf, Cond.selects RX3 yX3_wordOf yX3_wordOf, Cond.code yX3_row cX3_row 3 (some .int), Cond.code yX3_table cX3_table 3 (some .int), Cond.constant RX3 163 (-1000004)]
def K16 : List Cond := [Cond.code yX3_wrongIn cX3_wrongIn 4 (some .int), Cond.code yX3_rightFor cX3_rightFor 3 (some .int), Cond.code yX3_lostBy cX3_lostBy 4 (some .int), Cond.methodLink RX3 164 yX3_lostBy, Cond.instanceMethod yX3_lostBy, Cond.selects RX3 yX3_lostBy yX3_lostBy, Cond.code yX3_safeAge cX3_safeAge 2 (some .int), Cond.code yX3_worst cX3_worst 6 (some .int), Cond.constantFloat RX3 167 (1111490560), Cond.methodLink RX3 168 yJxf58ca_floatToIntBits_5c35a, Cond.static yJxf58ca_floatToIntBits_5c35a, Cond.initialized RJxf58ca, Cond.code yJxf58ca_floatToIntBits_5c35a cJxf58ca_floatToIntBits_5c35a 1 (some .int), Cond.methodLink RJxf58ca 74 ⟨"java/lang/Float", "floatToRawIntBits", "(F)I"⟩, Cond.native ⟨"java/lang/Float", "floatToRawIntBits", "(F)I"⟩, Cond.static ⟨"java/lang/Float", "floatToRawIntBits", "(F)I"⟩, Cond.initialized "java/lang/Float", Cond.constant RJxf58ca 77 (2143289344), Cond.methodLink RJxf58ca 59 yJxf58ca_isNaN_12338, Cond.static yJxf58ca_isNaN_12338, Cond.code yJxf58ca_isNaN_12338 cJxf58ca_isNaN_12338 1 (some .boolean), Cond.code yX3_mean cX3_mean 3 (some .int), Cond.code yX3_share cX3_share 2 (some .int), Cond.code yX3_wrongAll cX3_wrongAll 3 (some .int), Cond.code yX3_isOf cX3_isOf 3 (some .boolean), Cond.methodLink RX3 174 yX3_isOf, Cond.instanceMethod yX3_isOf, Cond.selects RX3 yX3_isOf yX3_isOf, Cond.code yX3_setOf cX3_setOf 4 (some .int), Cond.code yX3_failed cX3_failed 3 (some .int), Cond.code yX3_pairs cX3_pairs 3 (some .int), Cond.code yX3_ofLevel cX3_ofLevel 4 (some .int)]
def K17 : List Cond := [Cond.fieldLink RX3 193 "DriftingLevelsModel" "length" "I", Cond.methodLink RX3 178 yX3_wrongAll, Cond.instanceMethod yX3_wrongAll, Cond.selects RX3 yX3_wrongAll yX3_wrongAll, Cond.methodLink RX3 181 yX3_setOf, Cond.instanceMethod yX3_setOf, Cond.selects RX3 yX3_setOf yX3_setOf, Cond.methodLink RX3 184 yX3_failed, Cond.instanceMethod yX3_failed, Cond.selects RX3 yX3_failed yX3_failed, Cond.methodLink RX3 187 yX3_pairs, Cond.instanceMethod yX3_pairs, Cond.selects RX3 yX3_pairs yX3_pairs, Cond.methodLink RX3 190 yX3_ofLevel, Cond.instanceMethod yX3_ofLevel, Cond.selects RX3 yX3_ofLevel yX3_ofLevel, Cond.code yX3_count cX3_count 2 (some .int), Cond.code yX3_type cX3_type 2 (some .int), Cond.code yX3_clearText cX3_clearText 2 (some .int), Cond.fieldLink RX3 196 "DriftingLevelsModel" "spot" "I", Cond.code yX3_here cX3_here 1 (some .int), Cond.fieldLink RX3 199 "DriftingLevelsModel" "isForm" "Z", Cond.code yX3_takes cX3_takes 2 none, Cond.methodLink RX3 203 yX3_here, Cond.instanceMethod yX3_here, Cond.selects RX3 yX3_here yX3_here, Cond.code yX3_takesNumber cX3_takesNumber 4 none, Cond.fieldLink RX3 206 "DriftingLevelsModel" "begin" "I", Cond.fieldLink RX3 209 "DriftingLevelsModel" "letter" "I", Cond.methodLink RX3 212 yX3_takes, Cond.instanceMethod yX3_takes, Cond.selects RX3 yX3_takes yX3_takes]
def K18 : List Cond := [Cond.methodLink RX3 216 yX3_takesNumber, Cond.instanceMethod yX3_takesNumber, Cond.selects RX3 yX3_takesNumber yX3_takesNumber, Cond.code yX3_takesOrder cX3_takesOrder 3 none, Cond.code yX3_errorOfOrder cX3_errorOfOrder 1 (some .int), Cond.code yX3_doesOrder cX3_doesOrder 2 none, Cond.fieldLink RX3 219 "DriftingLevelsModel" "faultReason" "I", Cond.fieldLink RX3 228 "DriftingLevelsModel" "faultCause" "I", Cond.methodLink RX3 222 yX3_takesOrder, Cond.instanceMethod yX3_takesOrder, Cond.selects RX3 yX3_takesOrder yX3_takesOrder, Cond.methodLink RX3 225 yX3_errorOfOrder, Cond.instanceMethod yX3_errorOfOrder, Cond.selects RX3 yX3_errorOfOrder yX3_errorOfOrder, Cond.methodLink RX3 231 yX3_doesOrder, Cond.instanceMethod yX3_doesOrder, Cond.selects RX3 yX3_doesOrder yX3_doesOrder, Cond.code yX3_doesAll cX3_doesAll 3 (some .int), Cond.methodLink RX3 234 yX3_doesAll, Cond.instanceMethod yX3_doesAll, Cond.selects RX3 yX3_doesAll yX3_doesAll, Cond.code yX3_fault cX3_fault 3 (some .int), Cond.code yX3_play cX3_play 2 (some .int), Cond.classLink RL 7 RX2, Cond.instantiable RX2 10, Cond.classLink RL 10 RX3, Cond.instantiable RX3 14, Cond.methodLink RL 9 yX2_init, Cond.instanceMethod yX2_init, Cond.methodLink RL 12 yX3_init, Cond.instanceMethod yX3_init, Cond.methodLink RL 13 yX2_write]
def K19 : List Cond := [Cond.instanceMethod yX2_write, Cond.selects RX2 yX2_write yX2_write, Cond.methodLink RL 17 yX3_write, Cond.instanceMethod yX3_write, Cond.selects RX3 yX3_write yX3_write, Cond.methodLink RL 18 yX2_fill, Cond.instanceMethod yX2_fill, Cond.selects RX2 yX2_fill yX2_fill, Cond.methodLink RL 22 yX3_fill, Cond.instanceMethod yX3_fill, Cond.selects RX3 yX3_fill yX3_fill, Cond.methodLink RL 23 yX2_anew, Cond.instanceMethod yX2_anew, Cond.selects RX2 yX2_anew yX2_anew, Cond.methodLink RL 27 yX3_anew, Cond.instanceMethod yX3_anew, Cond.selects RX3 yX3_anew yX3_anew, Cond.methodLink RL 28 yX2_ask, Cond.instanceMethod yX2_ask, Cond.selects RX2 yX2_ask yX2_ask, Cond.methodLink RL 31 yX3_ask, Cond.instanceMethod yX3_ask, Cond.selects RX3 yX3_ask yX3_ask, Cond.methodLink RL 32 yX2_fail, Cond.instanceMethod yX2_fail, Cond.selects RX2 yX2_fail yX2_fail, Cond.methodLink RL 35 yX3_fail, Cond.instanceMethod yX3_fail, Cond.selects RX3 yX3_fail yX3_fail, Cond.methodLink RL 36 yX2_mend, Cond.instanceMethod yX2_mend, Cond.selects RX2 yX2_mend yX2_mend]
def K20 : List Cond := [Cond.methodLink RL 39 yX3_mend, Cond.instanceMethod yX3_mend, Cond.selects RX3 yX3_mend yX3_mend, Cond.methodLink RL 40 yX2_rate, Cond.instanceMethod yX2_rate, Cond.selects RX2 yX2_rate yX2_rate, Cond.methodLink RL 43 yX3_rate, Cond.instanceMethod yX3_rate, Cond.selects RX3 yX3_rate yX3_rate, Cond.methodLink RL 44 yX2_days, Cond.instanceMethod yX2_days, Cond.selects RX2 yX2_days yX2_days, Cond.methodLink RL 47 yX3_days, Cond.instanceMethod yX3_days, Cond.selects RX3 yX3_days yX3_days, Cond.methodLink RL 48 yX2_set, Cond.instanceMethod yX2_set, Cond.selects RX2 yX2_set yX2_set, Cond.methodLink RL 51 yX3_set, Cond.instanceMethod yX3_set, Cond.selects RX3 yX3_set yX3_set, Cond.methodLink RL 52 yX2_cell, Cond.instanceMethod yX2_cell, Cond.selects RX2 yX2_cell yX2_cell, Cond.methodLink RL 55 yX3_cell, Cond.instanceMethod yX3_cell, Cond.selects RX3 yX3_cell yX3_cell, Cond.methodLink RL 56 yX2_guard, Cond.instanceMethod yX2_guard, Cond.selects RX2 yX2_guard yX2_guard, Cond.methodLink RL 59 yX3_guard, Cond.instanceMethod yX3_guard]
def K21 : List Cond := [Cond.selects RX3 yX3_guard yX3_guard, Cond.methodLink RL 60 yX2_row, Cond.instanceMethod yX2_row, Cond.selects RX2 yX2_row yX2_row, Cond.methodLink RL 63 yX3_row, Cond.instanceMethod yX3_row, Cond.selects RX3 yX3_row yX3_row, Cond.methodLink RL 64 yX2_table, Cond.instanceMethod yX2_table, Cond.selects RX2 yX2_table yX2_table, Cond.methodLink RL 67 yX3_table, Cond.instanceMethod yX3_table, Cond.selects RX3 yX3_table yX3_table, Cond.methodLink RL 68 yX2_wrongIn, Cond.instanceMethod yX2_wrongIn, Cond.selects RX2 yX2_wrongIn yX2_wrongIn, Cond.methodLink RL 71 yX3_wrongIn, Cond.instanceMethod yX3_wrongIn, Cond.selects RX3 yX3_wrongIn yX3_wrongIn, Cond.methodLink RL 72 yX2_rightFor, Cond.instanceMethod yX2_rightFor, Cond.selects RX2 yX2_rightFor yX2_rightFor, Cond.methodLink RL 75 yX3_rightFor, Cond.instanceMethod yX3_rightFor, Cond.selects RX3 yX3_rightFor yX3_rightFor, Cond.methodLink RL 76 yX2_safeAge, Cond.instanceMethod yX2_safeAge, Cond.selects RX2 yX2_safeAge yX2_safeAge, Cond.methodLink RL 80 yX3_safeAge, Cond.instanceMethod yX3_safeAge, Cond.selects RX3 yX3_safeAge yX3_safeAge, Cond.methodLink RL 81 yX2_worst]
def K22 : List Cond := [Cond.instanceMethod yX2_worst, Cond.selects RX2 yX2_worst yX2_worst, Cond.methodLink RL 84 yX3_worst, Cond.instanceMethod yX3_worst, Cond.selects RX3 yX3_worst yX3_worst, Cond.methodLink RL 85 yX2_mean, Cond.instanceMethod yX2_mean, Cond.selects RX2 yX2_mean yX2_mean, Cond.methodLink RL 88 yX3_mean, Cond.instanceMethod yX3_mean, Cond.selects RX3 yX3_mean yX3_mean, Cond.methodLink RL 89 yX2_share, Cond.instanceMethod yX2_share, Cond.selects RX2 yX2_share yX2_share, Cond.methodLink RL 92 yX3_share, Cond.instanceMethod yX3_share, Cond.selects RX3 yX3_share yX3_share, Cond.methodLink RL 93 yX2_count, Cond.instanceMethod yX2_count, Cond.selects RX2 yX2_count yX2_count, Cond.methodLink RL 96 yX3_count, Cond.instanceMethod yX3_count, Cond.selects RX3 yX3_count yX3_count, Cond.methodLink RL 97 yX2_undo, Cond.instanceMethod yX2_undo, Cond.selects RX2 yX2_undo yX2_undo, Cond.methodLink RL 100 yX3_undo, Cond.instanceMethod yX3_undo, Cond.selects RX3 yX3_undo yX3_undo, Cond.methodLink RL 101 yX2_type, Cond.instanceMethod yX2_type, Cond.selects RX2 yX2_type yX2_type]
def K23 : List Cond := [Cond.methodLink RL 104 yX3_type, Cond.instanceMethod yX3_type, Cond.selects RX3 yX3_type yX3_type, Cond.methodLink RL 105 yX2_clearText, Cond.instanceMethod yX2_clearText, Cond.selects RX2 yX2_clearText yX2_clearText, Cond.methodLink RL 108 yX3_clearText, Cond.instanceMethod yX3_clearText, Cond.selects RX3 yX3_clearText yX3_clearText, Cond.methodLink RL 109 yX2_fault, Cond.instanceMethod yX2_fault, Cond.selects RX2 yX2_fault yX2_fault, Cond.methodLink RL 112 yX3_fault, Cond.instanceMethod yX3_fault, Cond.selects RX3 yX3_fault yX3_fault, Cond.methodLink RL 113 yX2_play, Cond.instanceMethod yX2_play, Cond.selects RX2 yX2_play yX2_play, Cond.methodLink RL 116 yX3_play, Cond.instanceMethod yX3_play, Cond.selects RX3 yX3_play yX3_play]
def ALL : List Cond := K0 ++ (K1 ++ (K2 ++ (K3 ++ (K4 ++ (K5 ++ (K6 ++ (K7 ++ (K8 ++ (K9 ++ (K10 ++ (K11 ++ (K12 ++ (K13 ++ (K14 ++ (K15 ++ (K16 ++ (K17 ++ (K18 ++ (K19 ++ (K20 ++ (K21 ++ (K22 ++ (K23 ++ (wsX00 ++ (wsX10 ++ (wsX20 ++ wsX30))))))))))))))))))))))))))
def AT0 : List Cond := wsX00 ++ (wsX10 ++ (wsX20 ++ wsX30))
theorem kT0 : ∀ w ∈ (K0 ++ (K1 ++ (K2 ++ (K3 ++ (K4 ++ (K5 ++ (K6 ++ (K7 ++ (K8 ++ (K9 ++ (K10 ++ (K11 ++ (K12 ++ (K13 ++ (K14 ++ (K15 ++ (K16 ++ (K17 ++ (K18 ++ (K19 ++ (K20 ++ (K21 ++ (K22 ++ (K23 ++ (wsX00 ++ (wsX10 ++ (wsX20 ++ wsX30))))))))))))))))))))))))))), w ∈ ALL := fun _ h => h
theorem kC0 : ∀ w ∈ K0, w ∈ ALL := fun w h => kT0 w (List.mem_append_left _ h)
theorem kT1 : ∀ w ∈ (K1 ++ (K2 ++ (K3 ++ (K4 ++ (K5 ++ (K6 ++ (K7 ++ (K8 ++ (K9 ++ (K10 ++ (K11 ++ (K12 ++ (K13 ++ (K14 ++ (K15 ++ (K16 ++ (K17 ++ (K18 ++ (K19 ++ (K20 ++ (K21 ++ (K22 ++ (K23 ++ (wsX00 ++ (wsX10 ++ (wsX20 ++ wsX30)))))))))))))))))))))))))), w ∈ ALL := fun w h => kT0 w (List.mem_append_right _ h)
theorem kC1 : ∀ w ∈ K1, w ∈ ALL := fun w h => kT1 w (List.mem_append_left _ h)
theorem kT2 : ∀ w ∈ (K2 ++ (K3 ++ (K4 ++ (K5 ++ (K6 ++ (K7 ++ (K8 ++ (K9 ++ (K10 ++ (K11 ++ (K12 ++ (K13 ++ (K14 ++ (K15 ++ (K16 ++ (K17 ++ (K18 ++ (K19 ++ (K20 ++ (K21 ++ (K22 ++ (K23 ++ (wsX00 ++ (wsX10 ++ (wsX20 ++ wsX30))))))))))))))))))))))))), w ∈ ALL := fun w h => kT1 w (List.mem_append_right _ h)
theorem kC2 : ∀ w ∈ K2, w ∈ ALL := fun w h => kT2 w (List.mem_append_left _ h)
theorem kT3 : ∀ w ∈ (K3 ++ (K4 ++ (K5 ++ (K6 ++ (K7 ++ (K8 ++ (K9 ++ (K10 ++ (K11 ++ (K12 ++ (K13 ++ (K14 ++ (K15 ++ (K16 ++ (K17 ++ (K18 ++ (K19 ++ (K20 ++ (K21 ++ (K22 ++ (K23 ++ (wsX00 ++ (wsX10 ++ (wsX20 ++ wsX30)))))))))))))))))))))))), w ∈ ALL := fun w h => kT2 w (List.mem_append_right _ h)
theorem kC3 : ∀ w ∈ K3, w ∈ ALL := fun w h => kT3 w (List.mem_append_left _ h)
theorem kT4 : ∀ w ∈ (K4 ++ (K5 ++ (K6 ++ (K7 ++ (K8 ++ (K9 ++ (K10 ++ (K11 ++ (K12 ++ (K13 ++ (K14 ++ (K15 ++ (K16 ++ (K17 ++ (K18 ++ (K19 ++ (K20 ++ (K21 ++ (K22 ++ (K23 ++ (wsX00 ++ (wsX10 ++ (wsX20 ++ wsX30))))))))))))))))))))))), w ∈ ALL := fun w h => kT3 w (List.mem_append_right _ h)
theorem kC4 : ∀ w ∈ K4, w ∈ ALL := fun w h => kT4 w (List.mem_append_left _ h)
theorem kT5 : ∀ w ∈ (K5 ++ (K6 ++ (K7 ++ (K8 ++ (K9 ++ (K10 ++ (K11 ++ (K12 ++ (K13 ++ (K14 ++ (K15 ++ (K16 ++ (K17 ++ (K18 ++ (K19 ++ (K20 ++ (K21 ++ (K22 ++ (K23 ++ (wsX00 ++ (wsX10 ++ (wsX20 ++ wsX30)))))))))))))))))))))), w ∈ ALL := fun w h => kT4 w (List.mem_append_right _ h)
theorem kC5 : ∀ w ∈ K5, w ∈ ALL := fun w h => kT5 w (List.mem_append_left _ h)
theorem kT6 : ∀ w ∈ (K6 ++ (K7 ++ (K8 ++ (K9 ++ (K10 ++ (K11 ++ (K12 ++ (K13 ++ (K14 ++ (K15 ++ (K16 ++ (K17 ++ (K18 ++ (K19 ++ (K20 ++ (K21 ++ (K22 ++ (K23 ++ (wsX00 ++ (wsX10 ++ (wsX20 ++ wsX30))))))))))))))))))))), w ∈ ALL := fun w h => kT5 w (List.mem_append_right _ h)
theorem kC6 : ∀ w ∈ K6, w ∈ ALL := fun w h => kT6 w (List.mem_append_left _ h)
theorem kT7 : ∀ w ∈ (K7 ++ (K8 ++ (K9 ++ (K10 ++ (K11 ++ (K12 ++ (K13 ++ (K14 ++ (K15 ++ (K16 ++ (K17 ++ (K18 ++ (K19 ++ (K20 ++ (K21 ++ (K22 ++ (K23 ++ (wsX00 ++ (wsX10 ++ (wsX20 ++ wsX30)))))))))))))))))))), w ∈ ALL := fun w h => kT6 w (List.mem_append_right _ h)
theorem kC7 : ∀ w ∈ K7, w ∈ ALL := fun w h => kT7 w (List.mem_append_left _ h)
theorem kT8 : ∀ w ∈ (K8 ++ (K9 ++ (K10 ++ (K11 ++ (K12 ++ (K13 ++ (K14 ++ (K15 ++ (K16 ++ (K17 ++ (K18 ++ (K19 ++ (K20 ++ (K21 ++ (K22 ++ (K23 ++ (wsX00 ++ (wsX10 ++ (wsX20 ++ wsX30))))))))))))))))))), w ∈ ALL := fun w h => kT7 w (List.mem_append_right _ h)
theorem kC8 : ∀ w ∈ K8, w ∈ ALL := fun w h => kT8 w (List.mem_append_left _ h)
theorem kT9 : ∀ w ∈ (K9 ++ (K10 ++ (K11 ++ (K12 ++ (K13 ++ (K14 ++ (K15 ++ (K16 ++ (K17 ++ (K18 ++ (K19 ++ (K20 ++ (K21 ++ (K22 ++ (K23 ++ (wsX00 ++ (wsX10 ++ (wsX20 ++ wsX30)))))))))))))))))), w ∈ ALL := fun w h => kT8 w (List.mem_append_right _ h)
theorem kC9 : ∀ w ∈ K9, w ∈ ALL := fun w h => kT9 w (List.mem_append_left _ h)
theorem kT10 : ∀ w ∈ (K10 ++ (K11 ++ (K12 ++ (K13 ++ (K14 ++ (K15 ++ (K16 ++ (K17 ++ (K18 ++ (K19 ++ (K20 ++ (K21 ++ (K22 ++ (K23 ++ (wsX00 ++ (wsX10 ++ (wsX20 ++ wsX30))))))))))))))))), w ∈ ALL := fun w h => kT9 w (List.mem_append_right _ h)
theorem kC10 : ∀ w ∈ K10, w ∈ ALL := fun w h => kT10 w (List.mem_append_left _ h)
theorem kT11 : ∀ w ∈ (K11 ++ (K12 ++ (K13 ++ (K14 ++ (K15 ++ (K16 ++ (K17 ++ (K18 ++ (K19 ++ (K20 ++ (K21 ++ (K22 ++ (K23 ++ (wsX00 ++ (wsX10 ++ (wsX20 ++ wsX30)))))))))))))))), w ∈ ALL := fun w h => kT10 w (List.mem_append_right _ h)
theorem kC11 : ∀ w ∈ K11, w ∈ ALL := fun w h => kT11 w (List.mem_append_left _ h)
theorem kT12 : ∀ w ∈ (K12 ++ (K13 ++ (K14 ++ (K15 ++ (K16 ++ (K17 ++ (K18 ++ (K19 ++ (K20 ++ (K21 ++ (K22 ++ (K23 ++ (wsX00 ++ (wsX10 ++ (wsX20 ++ wsX30))))))))))))))), w ∈ ALL := fun w h => kT11 w (List.mem_append_right _ h)
theorem kC12 : ∀ w ∈ K12, w ∈ ALL := fun w h => kT12 w (List.mem_append_left _ h)
theorem kT13 : ∀ w ∈ (K13 ++ (K14 ++ (K15 ++ (K16 ++ (K17 ++ (K18 ++ (K19 ++ (K20 ++ (K21 ++ (K22 ++ (K23 ++ (wsX00 ++ (wsX10 ++ (wsX20 ++ wsX30)))))))))))))), w ∈ ALL := fun w h => kT12 w (List.mem_append_right _ h)
theorem kC13 : ∀ w ∈ K13, w ∈ ALL := fun w h => kT13 w (List.mem_append_left _ h)
theorem kT14 : ∀ w ∈ (K14 ++ (K15 ++ (K16 ++ (K17 ++ (K18 ++ (K19 ++ (K20 ++ (K21 ++ (K22 ++ (K23 ++ (wsX00 ++ (wsX10 ++ (wsX20 ++ wsX30))))))))))))), w ∈ ALL := fun w h => kT13 w (List.mem_append_right _ h)
theorem kC14 : ∀ w ∈ K14, w ∈ ALL := fun w h => kT14 w (List.mem_append_left _ h)
theorem kT15 : ∀ w ∈ (K15 ++ (K16 ++ (K17 ++ (K18 ++ (K19 ++ (K20 ++ (K21 ++ (K22 ++ (K23 ++ (wsX00 ++ (wsX10 ++ (wsX20 ++ wsX30)))))))))))), w ∈ ALL := fun w h => kT14 w (List.mem_append_right _ h)
theorem kC15 : ∀ w ∈ K15, w ∈ ALL := fun w h => kT15 w (List.mem_append_left _ h)
theorem kT16 : ∀ w ∈ (K16 ++ (K17 ++ (K18 ++ (K19 ++ (K20 ++ (K21 ++ (K22 ++ (K23 ++ (wsX00 ++ (wsX10 ++ (wsX20 ++ wsX30))))))))))), w ∈ ALL := fun w h => kT15 w (List.mem_append_right _ h)
theorem kC16 : ∀ w ∈ K16, w ∈ ALL := fun w h => kT16 w (List.mem_append_left _ h)
theorem kT17 : ∀ w ∈ (K17 ++ (K18 ++ (K19 ++ (K20 ++ (K21 ++ (K22 ++ (K23 ++ (wsX00 ++ (wsX10 ++ (wsX20 ++ wsX30)))))))))), w ∈ ALL := fun w h => kT16 w (List.mem_append_right _ h)
theorem kC17 : ∀ w ∈ K17, w ∈ ALL := fun w h => kT17 w (List.mem_append_left _ h)
theorem kT18 : ∀ w ∈ (K18 ++ (K19 ++ (K20 ++ (K21 ++ (K22 ++ (K23 ++ (wsX00 ++ (wsX10 ++ (wsX20 ++ wsX30))))))))), w ∈ ALL := fun w h => kT17 w (List.mem_append_right _ h)
theorem kC18 : ∀ w ∈ K18, w ∈ ALL := fun w h => kT18 w (List.mem_append_left _ h)
theorem kT19 : ∀ w ∈ (K19 ++ (K20 ++ (K21 ++ (K22 ++ (K23 ++ (wsX00 ++ (wsX10 ++ (wsX20 ++ wsX30)))))))), w ∈ ALL := fun w h => kT18 w (List.mem_append_right _ h)
theorem kC19 : ∀ w ∈ K19, w ∈ ALL := fun w h => kT19 w (List.mem_append_left _ h)
theorem kT20 : ∀ w ∈ (K20 ++ (K21 ++ (K22 ++ (K23 ++ (wsX00 ++ (wsX10 ++ (wsX20 ++ wsX30))))))), w ∈ ALL := fun w h => kT19 w (List.mem_append_right _ h)
theorem kC20 : ∀ w ∈ K20, w ∈ ALL := fun w h => kT20 w (List.mem_append_left _ h)
theorem kT21 : ∀ w ∈ (K21 ++ (K22 ++ (K23 ++ (wsX00 ++ (wsX10 ++ (wsX20 ++ wsX30)))))), w ∈ ALL := fun w h => kT20 w (List.mem_append_right _ h)
theorem kC21 : ∀ w ∈ K21, w ∈ ALL := fun w h => kT21 w (List.mem_append_left _ h)
theorem kT22 : ∀ w ∈ (K22 ++ (K23 ++ (wsX00 ++ (wsX10 ++ (wsX20 ++ wsX30))))), w ∈ ALL := fun w h => kT21 w (List.mem_append_right _ h)
theorem kC22 : ∀ w ∈ K22, w ∈ ALL := fun w h => kT22 w (List.mem_append_left _ h)
theorem kT23 : ∀ w ∈ (K23 ++ (wsX00 ++ (wsX10 ++ (wsX20 ++ wsX30)))), w ∈ ALL := fun w h => kT22 w (List.mem_append_right _ h)
theorem kC23 : ∀ w ∈ K23, w ∈ ALL := fun w h => kT23 w (List.mem_append_left _ h)
theorem kTX : ∀ w ∈ (wsX00 ++ (wsX10 ++ (wsX20 ++ wsX30))), w ∈ ALL := fun w h => kT23 w (List.mem_append_right _ h)
theorem inA0 : ∀ w ∈ wsX00, w ∈ ALL := fun w h => kTX w (List.mem_append_left _ h)
theorem inA1 : ∀ w ∈ wsX10, w ∈ ALL := fun w h => kTX w (List.mem_append_right _ (List.mem_append_left _ h))
theorem inA2 : ∀ w ∈ wsX20, w ∈ ALL := fun w h => kTX w (List.mem_append_right _ (List.mem_append_right _ (List.mem_append_left _ h)))
theorem inA3 : ∀ w ∈ wsX30, w ∈ ALL := fun w h => kTX w (List.mem_append_right _ (List.mem_append_right _ (List.mem_append_right _ h)))
theorem gK0 : K0.all goodWord = true := by decide +kernel
theorem gK1 : K1.all goodWord = true := by decide +kernel
theorem gK2 : K2.all goodWord = true := by decide +kernel
theorem gK3 : K3.all goodWord = true := by decide +kernel
theorem gK4 : K4.all goodWord = true := by decide +kernel
theorem gK5 : K5.all goodWord = true := by decide +kernel
theorem gK6 : K6.all goodWord = true := by decide +kernel
theorem gK7 : K7.all goodWord = true := by decide +kernel
theorem gK8 : K8.all goodWord = true := by decide +kernel
theorem gK9 : K9.all goodWord = true := by decide +kernel
theorem gK10 : K10.all goodWord = true := by decide +kernel
theorem gK11 : K11.all goodWord = true := by decide +kernel
theorem gK12 : K12.all goodWord = true := by decide +kernel
theorem gK13 : K13.all goodWord = true := by decide +kernel
theorem gK14 : K14.all goodWord = true := by decide +kernel
theorem gK15 : K15.all goodWord = true := by decide +kernel
theorem gK16 : K16.all goodWord = true := by decide +kernel
theorem gK17 : K17.all goodWord = true := by decide +kernel
theorem gK18 : K18.all goodWord = true := by decide +kernel
theorem gK19 : K19.all goodWord = true := by decide +kernel
theorem gK20 : K20.all goodWord = true := by decide +kernel
theorem gK21 : K21.all goodWord = true := by decide +kernel
theorem gK22 : K22.all goodWord = true := by decide +kernel
theorem gK23 : K23.all goodWord = true := by decide +kernel
theorem gX0 : wsX00.all goodWord = true := by decide +kernel
theorem gX1 : wsX10.all goodWord = true := by decide +kernel
theorem gX2 : wsX20.all goodWord = true := by decide +kernel
theorem gX3 : wsX30.all goodWord = true := by decide +kernel
theorem gd_app {a b : List Cond} (h1 : a.all goodWord = true) (h2 : b.all goodWord = true) : (a ++ b).all goodWord = true := by rw [List.all_append, h1, h2]; rfl
theorem gALL : ALL.all goodWord = true := gd_app gK0 (gd_app gK1 (gd_app gK2 (gd_app gK3 (gd_app gK4 (gd_app gK5 (gd_app gK6 (gd_app gK7 (gd_app gK8 (gd_app gK9 (gd_app gK10 (gd_app gK11 (gd_app gK12 (gd_app gK13 (gd_app gK14 (gd_app gK15 (gd_app gK16 (gd_app gK17 (gd_app gK18 (gd_app gK19 (gd_app gK20 (gd_app gK21 (gd_app gK22 (gd_app gK23 (gd_app gX0 (gd_app gX1 (gd_app gX2 gX3))))))))))))))))))))))))))
theorem q_0 : Cond.code yX0_aim cX0_aim 1 (some .int) ∈ ALL := kC0 _ (List.mem_of_getElem? (i := 0) rfl)
theorem q_1 : Cond.fieldLink RX0 18 "DriftingLevels$Grid" "timesWritten" "[I" ∈ ALL := kC0 _ (List.mem_of_getElem? (i := 1) rfl)
theorem q_2 : Cond.fieldLink RX0 9 "DriftingLevels$Grid" "level" "[I" ∈ ALL := kC0 _ (List.mem_of_getElem? (i := 2) rfl)
theorem q_3 : Cond.fieldLink RX0 15 "DriftingLevels$Grid" "value" "[I" ∈ ALL := kC0 _ (List.mem_of_getElem? (i := 3) rfl)
theorem q_4 : Cond.fieldLink RX0 21 "DriftingLevels$Grid" "dayWritten" "[I" ∈ ALL := kC0 _ (List.mem_of_getElem? (i := 4) rfl)
theorem q_5 : Cond.fieldLink RX0 62 "DriftingLevels$Grid" "today" "I" ∈ ALL := kC0 _ (List.mem_of_getElem? (i := 5) rfl)
theorem q_6 : Cond.methodLink RX0 154 yX0_aim ∈ ALL := kC0 _ (List.mem_of_getElem? (i := 6) rfl)
theorem q_7 : Cond.static yX0_aim ∈ ALL := kC0 _ (List.mem_of_getElem? (i := 7) rfl)
theorem q_8 : Cond.initialized RX0 ∈ ALL := kC0 _ (List.mem_of_getElem? (i := 8) rfl)
theorem q_9 : Cond.code yX0_put cX0_put 4 none ∈ ALL := kC0 _ (List.mem_of_getElem? (i := 9) rfl)
theorem q_10 : Cond.fieldLink RX0 27 "DriftingLevels$Grid" "guardFailed" "[I" ∈ ALL := kC0 _ (List.mem_of_getElem? (i := 10) rfl)
theorem q_11 : Cond.fieldLink RX0 24 "DriftingLevels$Grid" "guardValue" "[I" ∈ ALL := kC0 _ (List.mem_of_getElem? (i := 11) rfl)
theorem q_12 : Cond.fieldLink RX0 33 "DriftingLevels$Grid" "dayOfGuards" "[I" ∈ ALL := kC0 _ (List.mem_of_getElem? (i := 12) rfl)
theorem q_13 : Cond.code yX0_writeGuards cX0_writeGuards 4 none ∈ ALL := kC0 _ (List.mem_of_getElem? (i := 13) rfl)
theorem q_14 : Cond.methodLink RX0 3 objectInit ∈ ALL := kC0 _ (List.mem_of_getElem? (i := 14) rfl)
theorem q_15 : Cond.instanceMethod objectInit ∈ ALL := kC0 _ (List.mem_of_getElem? (i := 15) rfl)
theorem q_16 : Cond.code objectInit ⟨#[0xb1]⟩ 1 none ∈ ALL := kC0 _ (List.mem_of_getElem? (i := 16) rfl)
theorem q_17 : Cond.arrayClass .int ∈ ALL := kC0 _ (List.mem_of_getElem? (i := 17) rfl)
theorem q_18 : Cond.fieldLink RX0 30 "DriftingLevels$Grid" "rateOfRow" "[I" ∈ ALL := kC0 _ (List.mem_of_getElem? (i := 18) rfl)
theorem q_19 : Cond.fieldLink RX0 36 "DriftingLevels$Grid" "levelsLost" "[I" ∈ ALL := kC0 _ (List.mem_of_getElem? (i := 19) rfl)
theorem q_20 : Cond.fieldLink RX0 39 "DriftingLevels$Grid" "timesAnew" "[I" ∈ ALL := kC0 _ (List.mem_of_getElem? (i := 20) rfl)
theorem q_21 : Cond.fieldLink RX0 42 "DriftingLevels$Grid" "toldAs" "[I" ∈ ALL := kC0 _ (List.mem_of_getElem? (i := 21) rfl)
theorem q_22 : Cond.fieldLink RX0 45 "DriftingLevels$Grid" "setting" "[I" ∈ ALL := kC0 _ (List.mem_of_getElem? (i := 22) rfl)
theorem q_23 : Cond.methodLink RX0 48 yX0_put ∈ ALL := kC0 _ (List.mem_of_getElem? (i := 23) rfl)
theorem q_24 : Cond.instanceMethod yX0_put ∈ ALL := kC0 _ (List.mem_of_getElem? (i := 24) rfl)
theorem q_25 : Cond.selects RX0 yX0_put yX0_put ∈ ALL := kC0 _ (List.mem_of_getElem? (i := 25) rfl)
theorem q_26 : Cond.methodLink RX0 52 yX0_writeGuards ∈ ALL := kC0 _ (List.mem_of_getElem? (i := 26) rfl)
theorem q_27 : Cond.instanceMethod yX0_writeGuards ∈ ALL := kC0 _ (List.mem_of_getElem? (i := 27) rfl)
theorem q_28 : Cond.selects RX0 yX0_writeGuards yX0_writeGuards ∈ ALL := kC0 _ (List.mem_of_getElem? (i := 28) rfl)
theorem q_29 : Cond.code yX0_init cX0_init 2 none ∈ ALL := kC0 _ (List.mem_of_getElem? (i := 29) rfl)
theorem q_30 : Cond.methodLink RX0 56 arraycopyName ∈ ALL := kC0 _ (List.mem_of_getElem? (i := 30) rfl)
theorem q_31 : Cond.native arraycopyName ∈ ALL := kC0 _ (List.mem_of_getElem? (i := 31) rfl)
theorem q_32 : Cond.static arraycopyName ∈ ALL := kC1 _ (List.mem_of_getElem? (i := 0) rfl)
theorem q_33 : Cond.initialized "java/lang/System" ∈ ALL := kC1 _ (List.mem_of_getElem? (i := 1) rfl)
theorem q_34 : Cond.code yX0_copyFrom cX0_copyFrom 2 none ∈ ALL := kC1 _ (List.mem_of_getElem? (i := 2) rfl)
theorem q_35 : Cond.code yX2_isOutside cX2_isOutside 3 (some .boolean) ∈ ALL := kC1 _ (List.mem_of_getElem? (i := 3) rfl)
theorem q_36 : Cond.static yX2_isOutside ∈ ALL := kC1 _ (List.mem_of_getElem? (i := 4) rfl)
theorem q_37 : Cond.initialized RX2 ∈ ALL := kC1 _ (List.mem_of_getElem? (i := 5) rfl)
theorem q_38 : Cond.code yX0_isOutsideCell cX0_isOutsideCell 2 (some .boolean) ∈ ALL := kC1 _ (List.mem_of_getElem? (i := 6) rfl)
theorem q_39 : Cond.constant RX0 74 (-1000001) ∈ ALL := kC1 _ (List.mem_of_getElem? (i := 7) rfl)
theorem q_40 : Cond.methodLink RX0 66 yX0_isOutsideCell ∈ ALL := kC1 _ (List.mem_of_getElem? (i := 8) rfl)
theorem q_41 : Cond.static yX0_isOutsideCell ∈ ALL := kC1 _ (List.mem_of_getElem? (i := 9) rfl)
theorem q_42 : Cond.code yX0_writeLevel cX0_writeLevel 5 (some .int) ∈ ALL := kC1 _ (List.mem_of_getElem? (i := 10) rfl)
theorem q_43 : Cond.code yX0_hasRightThresholds cX0_hasRightThresholds 3 (some .boolean) ∈ ALL := kC1 _ (List.mem_of_getElem? (i := 11) rfl)
theorem q_44 : Cond.code yX0_ownThreshold cX0_ownThreshold 4 (some .int) ∈ ALL := kC1 _ (List.mem_of_getElem? (i := 12) rfl)
theorem q_45 : Cond.methodLink RX0 115 yX0_hasRightThresholds ∈ ALL := kC1 _ (List.mem_of_getElem? (i := 13) rfl)
theorem q_46 : Cond.instanceMethod yX0_hasRightThresholds ∈ ALL := kC1 _ (List.mem_of_getElem? (i := 14) rfl)
theorem q_47 : Cond.selects RX0 yX0_hasRightThresholds yX0_hasRightThresholds ∈ ALL := kC1 _ (List.mem_of_getElem? (i := 15) rfl)
theorem q_48 : Cond.methodLink RX0 104 yX0_ownThreshold ∈ ALL := kC1 _ (List.mem_of_getElem? (i := 16) rfl)
theorem q_49 : Cond.instanceMethod yX0_ownThreshold ∈ ALL := kC1 _ (List.mem_of_getElem? (i := 17) rfl)
theorem q_50 : Cond.selects RX0 yX0_ownThreshold yX0_ownThreshold ∈ ALL := kC1 _ (List.mem_of_getElem? (i := 18) rfl)
theorem q_51 : Cond.code yX0_threshold cX0_threshold 5 (some .int) ∈ ALL := kC1 _ (List.mem_of_getElem? (i := 19) rfl)
theorem q_52 : Cond.code yX0_tell cX0_tell 3 (some .int) ∈ ALL := kC1 _ (List.mem_of_getElem? (i := 20) rfl)
theorem q_53 : Cond.methodLink RX0 79 yX0_threshold ∈ ALL := kC1 _ (List.mem_of_getElem? (i := 21) rfl)
theorem q_54 : Cond.instanceMethod yX0_threshold ∈ ALL := kC1 _ (List.mem_of_getElem? (i := 22) rfl)
theorem q_55 : Cond.selects RX0 yX0_threshold yX0_threshold ∈ ALL := kC1 _ (List.mem_of_getElem? (i := 23) rfl)
theorem q_56 : Cond.methodLink RX0 83 yX0_tell ∈ ALL := kC1 _ (List.mem_of_getElem? (i := 24) rfl)
theorem q_57 : Cond.static yX0_tell ∈ ALL := kC1 _ (List.mem_of_getElem? (i := 25) rfl)
theorem q_58 : Cond.code yX0_toldWord cX0_toldWord 6 (some .int) ∈ ALL := kC1 _ (List.mem_of_getElem? (i := 26) rfl)
theorem q_59 : Cond.methodLink RX0 75 yX0_toldWord ∈ ALL := kC1 _ (List.mem_of_getElem? (i := 27) rfl)
theorem q_60 : Cond.instanceMethod yX0_toldWord ∈ ALL := kC1 _ (List.mem_of_getElem? (i := 28) rfl)
theorem q_61 : Cond.selects RX0 yX0_toldWord yX0_toldWord ∈ ALL := kC1 _ (List.mem_of_getElem? (i := 29) rfl)
theorem q_62 : Cond.code yX0_writeWord cX0_writeWord 6 (some .int) ∈ ALL := kC1 _ (List.mem_of_getElem? (i := 30) rfl)
theorem q_63 : Cond.code yX0_writeAnew cX0_writeAnew 8 (some .int) ∈ ALL := kC1 _ (List.mem_of_getElem? (i := 31) rfl)
theorem q_64 : Cond.code yX0_askCell cX0_askCell 5 (some .int) ∈ ALL := kC2 _ (List.mem_of_getElem? (i := 0) rfl)
theorem q_65 : Cond.code yX0_isOutsideGuard cX0_isOutsideGuard 2 (some .boolean) ∈ ALL := kC2 _ (List.mem_of_getElem? (i := 1) rfl)
theorem q_66 : Cond.constant RX0 90 (-1000002) ∈ ALL := kC2 _ (List.mem_of_getElem? (i := 2) rfl)
theorem q_67 : Cond.methodLink RX0 87 yX0_isOutsideGuard ∈ ALL := kC2 _ (List.mem_of_getElem? (i := 3) rfl)
theorem q_68 : Cond.static yX0_isOutsideGuard ∈ ALL := kC2 _ (List.mem_of_getElem? (i := 4) rfl)
theorem q_69 : Cond.code yX0_failGuard cX0_failGuard 6 (some .int) ∈ ALL := kC2 _ (List.mem_of_getElem? (i := 5) rfl)
theorem q_70 : Cond.code yX0_mendGuard cX0_mendGuard 4 (some .int) ∈ ALL := kC2 _ (List.mem_of_getElem? (i := 6) rfl)
theorem q_71 : Cond.code yX0_changeRate cX0_changeRate 4 (some .int) ∈ ALL := kC2 _ (List.mem_of_getElem? (i := 7) rfl)
theorem q_72 : Cond.methodLink RX0 160 Lib.Math.max.name ∈ ALL := kC2 _ (List.mem_of_getElem? (i := 8) rfl)
theorem q_73 : Cond.static Lib.Math.max.name ∈ ALL := kC2 _ (List.mem_of_getElem? (i := 9) rfl)
theorem q_74 : Cond.initialized "java/lang/Math" ∈ ALL := kC2 _ (List.mem_of_getElem? (i := 10) rfl)
theorem q_75 : Cond.code Lib.Math.max.name Lib.Math.max.code 2 (some .int) ∈ ALL := kC2 _ (List.mem_of_getElem? (i := 11) rfl)
theorem q_76 : Cond.code yX0_nearer cX0_nearer 4 (some .int) ∈ ALL := kC2 _ (List.mem_of_getElem? (i := 12) rfl)
theorem q_77 : Cond.methodLink RX0 157 yX0_nearer ∈ ALL := kC2 _ (List.mem_of_getElem? (i := 13) rfl)
theorem q_78 : Cond.instanceMethod yX0_nearer ∈ ALL := kC2 _ (List.mem_of_getElem? (i := 14) rfl)
theorem q_79 : Cond.selects RX0 yX0_nearer yX0_nearer ∈ ALL := kC2 _ (List.mem_of_getElem? (i := 15) rfl)
theorem q_80 : Cond.code yX0_drift cX0_drift 2 none ∈ ALL := kC2 _ (List.mem_of_getElem? (i := 16) rfl)
theorem q_81 : Cond.code yX0_age cX0_age 2 (some .int) ∈ ALL := kC2 _ (List.mem_of_getElem? (i := 17) rfl)
theorem q_82 : Cond.constant RX0 91 (-1000003) ∈ ALL := kC2 _ (List.mem_of_getElem? (i := 18) rfl)
theorem q_83 : Cond.methodLink RX0 92 yX0_drift ∈ ALL := kC2 _ (List.mem_of_getElem? (i := 19) rfl)
theorem q_84 : Cond.instanceMethod yX0_drift ∈ ALL := kC2 _ (List.mem_of_getElem? (i := 20) rfl)
theorem q_85 : Cond.selects RX0 yX0_drift yX0_drift ∈ ALL := kC2 _ (List.mem_of_getElem? (i := 21) rfl)
theorem q_86 : Cond.methodLink RX0 95 yX0_age ∈ ALL := kC2 _ (List.mem_of_getElem? (i := 22) rfl)
theorem q_87 : Cond.instanceMethod yX0_age ∈ ALL := kC2 _ (List.mem_of_getElem? (i := 23) rfl)
theorem q_88 : Cond.selects RX0 yX0_age yX0_age ∈ ALL := kC2 _ (List.mem_of_getElem? (i := 24) rfl)
theorem q_89 : Cond.methodLink RX0 98 yX0_writeAnew ∈ ALL := kC2 _ (List.mem_of_getElem? (i := 25) rfl)
theorem q_90 : Cond.instanceMethod yX0_writeAnew ∈ ALL := kC2 _ (List.mem_of_getElem? (i := 26) rfl)
theorem q_91 : Cond.selects RX0 yX0_writeAnew yX0_writeAnew ∈ ALL := kC2 _ (List.mem_of_getElem? (i := 27) rfl)
theorem q_92 : Cond.code yX0_passDays cX0_passDays 6 (some .int) ∈ ALL := kC2 _ (List.mem_of_getElem? (i := 28) rfl)
theorem q_93 : Cond.code yX0_isOutsideSetting cX0_isOutsideSetting 2 (some .boolean) ∈ ALL := kC2 _ (List.mem_of_getElem? (i := 29) rfl)
theorem q_94 : Cond.methodLink RX0 101 yX0_isOutsideSetting ∈ ALL := kC2 _ (List.mem_of_getElem? (i := 30) rfl)
theorem q_95 : Cond.static yX0_isOutsideSetting ∈ ALL := kC2 _ (List.mem_of_getElem? (i := 31) rfl)
theorem q_96 : Cond.code yX0_changeSetting cX0_changeSetting 4 (some .int) ∈ ALL := kC3 _ (List.mem_of_getElem? (i := 0) rfl)
theorem q_97 : Cond.methodLink RX0 107 Lib.Math.abs.name ∈ ALL := kC3 _ (List.mem_of_getElem? (i := 1) rfl)
theorem q_98 : Cond.static Lib.Math.abs.name ∈ ALL := kC3 _ (List.mem_of_getElem? (i := 2) rfl)
theorem q_99 : Cond.code Lib.Math.abs.name Lib.Math.abs.code 1 (some .int) ∈ ALL := kC3 _ (List.mem_of_getElem? (i := 3) rfl)
theorem q_100 : Cond.methodLink RX0 112 Lib.Math.min.name ∈ ALL := kC3 _ (List.mem_of_getElem? (i := 4) rfl)
theorem q_101 : Cond.static Lib.Math.min.name ∈ ALL := kC3 _ (List.mem_of_getElem? (i := 5) rfl)
theorem q_102 : Cond.code Lib.Math.min.name Lib.Math.min.code 2 (some .int) ∈ ALL := kC3 _ (List.mem_of_getElem? (i := 6) rfl)
theorem q_103 : Cond.code yX0_numberOfCell cX0_numberOfCell 7 (some .int) ∈ ALL := kC3 _ (List.mem_of_getElem? (i := 7) rfl)
theorem q_104 : Cond.code yX0_numberOfGuard cX0_numberOfGuard 5 (some .int) ∈ ALL := kC3 _ (List.mem_of_getElem? (i := 8) rfl)
theorem q_105 : Cond.code yX0_source cX0_source 2 (some .int) ∈ ALL := kC3 _ (List.mem_of_getElem? (i := 9) rfl)
theorem q_106 : Cond.code yX0_wrongBy cX0_wrongBy 7 (some .int) ∈ ALL := kC3 _ (List.mem_of_getElem? (i := 10) rfl)
theorem q_107 : Cond.methodLink RX0 125 yX0_wrongBy ∈ ALL := kC3 _ (List.mem_of_getElem? (i := 11) rfl)
theorem q_108 : Cond.instanceMethod yX0_wrongBy ∈ ALL := kC3 _ (List.mem_of_getElem? (i := 12) rfl)
theorem q_109 : Cond.selects RX0 yX0_wrongBy yX0_wrongBy ∈ ALL := kC3 _ (List.mem_of_getElem? (i := 13) rfl)
theorem q_110 : Cond.code yX0_wrongCells cX0_wrongCells 2 (some .int) ∈ ALL := kC3 _ (List.mem_of_getElem? (i := 14) rfl)
theorem q_111 : Cond.code yX0_levelWord cX0_levelWord 4 (some .int) ∈ ALL := kC3 _ (List.mem_of_getElem? (i := 15) rfl)
theorem q_112 : Cond.methodLink RX0 119 yX0_source ∈ ALL := kC3 _ (List.mem_of_getElem? (i := 16) rfl)
theorem q_113 : Cond.instanceMethod yX0_source ∈ ALL := kC3 _ (List.mem_of_getElem? (i := 17) rfl)
theorem q_114 : Cond.selects RX0 yX0_source yX0_source ∈ ALL := kC3 _ (List.mem_of_getElem? (i := 18) rfl)
theorem q_115 : Cond.methodLink RX0 122 yX0_wrongCells ∈ ALL := kC3 _ (List.mem_of_getElem? (i := 19) rfl)
theorem q_116 : Cond.instanceMethod yX0_wrongCells ∈ ALL := kC3 _ (List.mem_of_getElem? (i := 20) rfl)
theorem q_117 : Cond.selects RX0 yX0_wrongCells yX0_wrongCells ∈ ALL := kC3 _ (List.mem_of_getElem? (i := 21) rfl)
theorem q_118 : Cond.methodLink RX0 128 yX0_levelWord ∈ ALL := kC3 _ (List.mem_of_getElem? (i := 22) rfl)
theorem q_119 : Cond.instanceMethod yX0_levelWord ∈ ALL := kC3 _ (List.mem_of_getElem? (i := 23) rfl)
theorem q_120 : Cond.selects RX0 yX0_levelWord yX0_levelWord ∈ ALL := kC3 _ (List.mem_of_getElem? (i := 24) rfl)
theorem q_121 : Cond.code yX0_numberOfRow cX0_numberOfRow 3 (some .int) ∈ ALL := kC3 _ (List.mem_of_getElem? (i := 25) rfl)
theorem q_122 : Cond.code yX0_timesTold cX0_timesTold 3 (some .int) ∈ ALL := kC3 _ (List.mem_of_getElem? (i := 26) rfl)
theorem q_123 : Cond.code yX0_allWrongCells cX0_allWrongCells 3 (some .int) ∈ ALL := kC3 _ (List.mem_of_getElem? (i := 27) rfl)
theorem q_124 : Cond.code yX0_rowsWithWrongCells cX0_rowsWithWrongCells 3 (some .int) ∈ ALL := kC3 _ (List.mem_of_getElem? (i := 28) rfl)
theorem q_125 : Cond.code yX0_rowsToldBy cX0_rowsToldBy 4 (some .int) ∈ ALL := kC3 _ (List.mem_of_getElem? (i := 29) rfl)
theorem q_126 : Cond.code yX0_sum cX0_sum 3 (some .int) ∈ ALL := kC3 _ (List.mem_of_getElem? (i := 30) rfl)
theorem q_127 : Cond.methodLink RX0 141 yX0_sum ∈ ALL := kC3 _ (List.mem_of_getElem? (i := 31) rfl)
theorem q_128 : Cond.static yX0_sum ∈ ALL := kC4 _ (List.mem_of_getElem? (i := 0) rfl)
theorem q_129 : Cond.code yX0_timesAsked cX0_timesAsked 1 (some .int) ∈ ALL := kC4 _ (List.mem_of_getElem? (i := 1) rfl)
theorem q_130 : Cond.code yX0_pairsTold cX0_pairsTold 3 (some .int) ∈ ALL := kC4 _ (List.mem_of_getElem? (i := 2) rfl)
theorem q_131 : Cond.code yX0_cellsOfLevel cX0_cellsOfLevel 4 (some .int) ∈ ALL := kC4 _ (List.mem_of_getElem? (i := 3) rfl)
theorem q_132 : Cond.methodLink RX0 131 yX0_allWrongCells ∈ ALL := kC4 _ (List.mem_of_getElem? (i := 4) rfl)
theorem q_133 : Cond.instanceMethod yX0_allWrongCells ∈ ALL := kC4 _ (List.mem_of_getElem? (i := 5) rfl)
theorem q_134 : Cond.selects RX0 yX0_allWrongCells yX0_allWrongCells ∈ ALL := kC4 _ (List.mem_of_getElem? (i := 6) rfl)
theorem q_135 : Cond.methodLink RX0 135 yX0_rowsWithWrongCells ∈ ALL := kC4 _ (List.mem_of_getElem? (i := 7) rfl)
theorem q_136 : Cond.instanceMethod yX0_rowsWithWrongCells ∈ ALL := kC4 _ (List.mem_of_getElem? (i := 8) rfl)
theorem q_137 : Cond.selects RX0 yX0_rowsWithWrongCells yX0_rowsWithWrongCells ∈ ALL := kC4 _ (List.mem_of_getElem? (i := 9) rfl)
theorem q_138 : Cond.methodLink RX0 138 yX0_rowsToldBy ∈ ALL := kC4 _ (List.mem_of_getElem? (i := 10) rfl)
theorem q_139 : Cond.instanceMethod yX0_rowsToldBy ∈ ALL := kC4 _ (List.mem_of_getElem? (i := 11) rfl)
theorem q_140 : Cond.selects RX0 yX0_rowsToldBy yX0_rowsToldBy ∈ ALL := kC4 _ (List.mem_of_getElem? (i := 12) rfl)
theorem q_141 : Cond.methodLink RX0 145 yX0_timesAsked ∈ ALL := kC4 _ (List.mem_of_getElem? (i := 13) rfl)
theorem q_142 : Cond.instanceMethod yX0_timesAsked ∈ ALL := kC4 _ (List.mem_of_getElem? (i := 14) rfl)
theorem q_143 : Cond.selects RX0 yX0_timesAsked yX0_timesAsked ∈ ALL := kC4 _ (List.mem_of_getElem? (i := 15) rfl)
theorem q_144 : Cond.methodLink RX0 148 yX0_pairsTold ∈ ALL := kC4 _ (List.mem_of_getElem? (i := 16) rfl)
theorem q_145 : Cond.instanceMethod yX0_pairsTold ∈ ALL := kC4 _ (List.mem_of_getElem? (i := 17) rfl)
theorem q_146 : Cond.selects RX0 yX0_pairsTold yX0_pairsTold ∈ ALL := kC4 _ (List.mem_of_getElem? (i := 18) rfl)
theorem q_147 : Cond.methodLink RX0 151 yX0_cellsOfLevel ∈ ALL := kC4 _ (List.mem_of_getElem? (i := 19) rfl)
theorem q_148 : Cond.instanceMethod yX0_cellsOfLevel ∈ ALL := kC4 _ (List.mem_of_getElem? (i := 20) rfl)
theorem q_149 : Cond.selects RX0 yX0_cellsOfLevel yX0_cellsOfLevel ∈ ALL := kC4 _ (List.mem_of_getElem? (i := 21) rfl)
theorem q_150 : Cond.code yX0_tally cX0_tally 2 (some .int) ∈ ALL := kC4 _ (List.mem_of_getElem? (i := 22) rfl)
theorem q_151 : Cond.code yX0_timesToldRight cX0_timesToldRight 3 (some .int) ∈ ALL := kC4 _ (List.mem_of_getElem? (i := 23) rfl)
theorem q_152 : Cond.code yX0_distanceFromAims cX0_distanceFromAims 3 (some .int) ∈ ALL := kC4 _ (List.mem_of_getElem? (i := 24) rfl)
theorem q_153 : Cond.code yX0_worstBut cX0_worstBut 6 (some .int) ∈ ALL := kC4 _ (List.mem_of_getElem? (i := 25) rfl)
theorem q_154 : Cond.methodLink RX1 3 objectInit ∈ ALL := kC4 _ (List.mem_of_getElem? (i := 26) rfl)
theorem q_155 : Cond.arrayClass .char ∈ ALL := kC4 _ (List.mem_of_getElem? (i := 27) rfl)
theorem q_156 : Cond.fieldLink RX1 9 "DriftingLevels$OrderText" "signs" "[C" ∈ ALL := kC4 _ (List.mem_of_getElem? (i := 28) rfl)
theorem q_157 : Cond.fieldLink RX1 15 "DriftingLevels$OrderText" "numbers" "[I" ∈ ALL := kC4 _ (List.mem_of_getElem? (i := 29) rfl)
theorem q_158 : Cond.code yX1_init cX1_init 1 none ∈ ALL := kC4 _ (List.mem_of_getElem? (i := 30) rfl)
theorem q_159 : Cond.fieldLink RX1 19 "DriftingLevels$OrderText" "length" "I" ∈ ALL := kC4 _ (List.mem_of_getElem? (i := 31) rfl)
theorem q_160 : Cond.code yX1_size cX1_size 1 (some .int) ∈ ALL := kC5 _ (List.mem_of_getElem? (i := 0) rfl)
theorem q_161 : Cond.constant RX1 27 (-1000001) ∈ ALL := kC5 _ (List.mem_of_getElem? (i := 1) rfl)
theorem q_162 : Cond.constant RX1 28 (-1000003) ∈ ALL := kC5 _ (List.mem_of_getElem? (i := 2) rfl)
theorem q_163 : Cond.code yX1_append cX1_append 2 (some .int) ∈ ALL := kC5 _ (List.mem_of_getElem? (i := 3) rfl)
theorem q_164 : Cond.code yX1_empty cX1_empty 2 (some .int) ∈ ALL := kC5 _ (List.mem_of_getElem? (i := 4) rfl)
theorem q_165 : Cond.fieldLink RX1 29 "DriftingLevels$OrderText" "reached" "I" ∈ ALL := kC5 _ (List.mem_of_getElem? (i := 5) rfl)
theorem q_166 : Cond.code yX1_placeReached cX1_placeReached 1 (some .int) ∈ ALL := kC5 _ (List.mem_of_getElem? (i := 6) rfl)
theorem q_167 : Cond.code yX1_signAt cX1_signAt 2 (some .char) ∈ ALL := kC5 _ (List.mem_of_getElem? (i := 7) rfl)
theorem q_168 : Cond.code yX1_numbersOf cX1_numbersOf 1 (some .int) ∈ ALL := kC5 _ (List.mem_of_getElem? (i := 8) rfl)
theorem q_169 : Cond.code yX1_isDigit cX1_isDigit 1 (some .boolean) ∈ ALL := kC5 _ (List.mem_of_getElem? (i := 9) rfl)
theorem q_170 : Cond.methodLink RX1 32 yX1_signAt ∈ ALL := kC5 _ (List.mem_of_getElem? (i := 10) rfl)
theorem q_171 : Cond.instanceMethod yX1_signAt ∈ ALL := kC5 _ (List.mem_of_getElem? (i := 11) rfl)
theorem q_172 : Cond.selects RX1 yX1_signAt yX1_signAt ∈ ALL := kC5 _ (List.mem_of_getElem? (i := 12) rfl)
theorem q_173 : Cond.initialized RX1 ∈ ALL := kC5 _ (List.mem_of_getElem? (i := 13) rfl)
theorem q_174 : Cond.methodLink RX1 71 yX1_isDigit ∈ ALL := kC5 _ (List.mem_of_getElem? (i := 14) rfl)
theorem q_175 : Cond.static yX1_isDigit ∈ ALL := kC5 _ (List.mem_of_getElem? (i := 15) rfl)
theorem q_176 : Cond.code yX1_readNumber cX1_readNumber 4 (some .boolean) ∈ ALL := kC5 _ (List.mem_of_getElem? (i := 16) rfl)
theorem q_177 : Cond.fieldLink RX1 36 "DriftingLevels$OrderText" "kind" "C" ∈ ALL := kC5 _ (List.mem_of_getElem? (i := 17) rfl)
theorem q_178 : Cond.methodLink RX1 40 yX1_numbersOf ∈ ALL := kC5 _ (List.mem_of_getElem? (i := 18) rfl)
theorem q_179 : Cond.static yX1_numbersOf ∈ ALL := kC5 _ (List.mem_of_getElem? (i := 19) rfl)
theorem q_180 : Cond.methodLink RX1 44 yX1_readNumber ∈ ALL := kC5 _ (List.mem_of_getElem? (i := 20) rfl)
theorem q_181 : Cond.instanceMethod yX1_readNumber ∈ ALL := kC5 _ (List.mem_of_getElem? (i := 21) rfl)
theorem q_182 : Cond.selects RX1 yX1_readNumber yX1_readNumber ∈ ALL := kC5 _ (List.mem_of_getElem? (i := 22) rfl)
theorem q_183 : Cond.code yX1_readOrder cX1_readOrder 5 (some .boolean) ∈ ALL := kC5 _ (List.mem_of_getElem? (i := 23) rfl)
theorem q_184 : Cond.methodLink RX1 48 yX0_writeLevel ∈ ALL := kC5 _ (List.mem_of_getElem? (i := 24) rfl)
theorem q_185 : Cond.instanceMethod yX0_writeLevel ∈ ALL := kC5 _ (List.mem_of_getElem? (i := 25) rfl)
theorem q_186 : Cond.selects RX0 yX0_writeLevel yX0_writeLevel ∈ ALL := kC5 _ (List.mem_of_getElem? (i := 26) rfl)
theorem q_187 : Cond.methodLink RX1 54 yX0_writeAnew ∈ ALL := kC5 _ (List.mem_of_getElem? (i := 27) rfl)
theorem q_188 : Cond.methodLink RX1 58 yX0_failGuard ∈ ALL := kC5 _ (List.mem_of_getElem? (i := 28) rfl)
theorem q_189 : Cond.instanceMethod yX0_failGuard ∈ ALL := kC5 _ (List.mem_of_getElem? (i := 29) rfl)
theorem q_190 : Cond.selects RX0 yX0_failGuard yX0_failGuard ∈ ALL := kC5 _ (List.mem_of_getElem? (i := 30) rfl)
theorem q_191 : Cond.methodLink RX1 61 yX0_mendGuard ∈ ALL := kC5 _ (List.mem_of_getElem? (i := 31) rfl)
theorem q_192 : Cond.instanceMethod yX0_mendGuard ∈ ALL := kC6 _ (List.mem_of_getElem? (i := 0) rfl)
theorem q_193 : Cond.selects RX0 yX0_mendGuard yX0_mendGuard ∈ ALL := kC6 _ (List.mem_of_getElem? (i := 1) rfl)
theorem q_194 : Cond.methodLink RX1 65 yX0_changeRate ∈ ALL := kC6 _ (List.mem_of_getElem? (i := 2) rfl)
theorem q_195 : Cond.instanceMethod yX0_changeRate ∈ ALL := kC6 _ (List.mem_of_getElem? (i := 3) rfl)
theorem q_196 : Cond.selects RX0 yX0_changeRate yX0_changeRate ∈ ALL := kC6 _ (List.mem_of_getElem? (i := 4) rfl)
theorem q_197 : Cond.methodLink RX1 68 yX0_passDays ∈ ALL := kC6 _ (List.mem_of_getElem? (i := 5) rfl)
theorem q_198 : Cond.instanceMethod yX0_passDays ∈ ALL := kC6 _ (List.mem_of_getElem? (i := 6) rfl)
theorem q_199 : Cond.selects RX0 yX0_passDays yX0_passDays ∈ ALL := kC6 _ (List.mem_of_getElem? (i := 7) rfl)
theorem q_200 : Cond.code yX1_doOrder cX1_doOrder 2 (some .int) ∈ ALL := kC6 _ (List.mem_of_getElem? (i := 8) rfl)
theorem q_201 : Cond.methodLink RX2 3 objectInit ∈ ALL := kC6 _ (List.mem_of_getElem? (i := 9) rfl)
theorem q_202 : Cond.classLink RX2 9 RX0 ∈ ALL := kC6 _ (List.mem_of_getElem? (i := 10) rfl)
theorem q_203 : Cond.instantiable RX0 13 ∈ ALL := kC6 _ (List.mem_of_getElem? (i := 11) rfl)
theorem q_204 : Cond.fieldLink RX2 12 "DriftingLevels" "grid" "LDriftingLevels$Grid;" ∈ ALL := kC6 _ (List.mem_of_getElem? (i := 12) rfl)
theorem q_205 : Cond.fieldLink RX2 16 "DriftingLevels" "spare" "LDriftingLevels$Grid;" ∈ ALL := kC6 _ (List.mem_of_getElem? (i := 13) rfl)
theorem q_206 : Cond.fieldLink RX2 19 "DriftingLevels" "trial" "LDriftingLevels$Grid;" ∈ ALL := kC6 _ (List.mem_of_getElem? (i := 14) rfl)
theorem q_207 : Cond.fieldLink RX2 22 "DriftingLevels" "history" "[LDriftingLevels$Grid;" ∈ ALL := kC6 _ (List.mem_of_getElem? (i := 15) rfl)
theorem q_208 : Cond.classLink RX2 26 RX1 ∈ ALL := kC6 _ (List.mem_of_getElem? (i := 16) rfl)
theorem q_209 : Cond.instantiable RX1 5 ∈ ALL := kC6 _ (List.mem_of_getElem? (i := 17) rfl)
theorem q_210 : Cond.fieldLink RX2 29 "DriftingLevels" "text" "LDriftingLevels$OrderText;" ∈ ALL := kC6 _ (List.mem_of_getElem? (i := 18) rfl)
theorem q_211 : Cond.methodLink RX2 11 yX0_init ∈ ALL := kC6 _ (List.mem_of_getElem? (i := 19) rfl)
theorem q_212 : Cond.instanceMethod yX0_init ∈ ALL := kC6 _ (List.mem_of_getElem? (i := 20) rfl)
theorem q_213 : Cond.instanceMethod yX1_init ∈ ALL := kC6 _ (List.mem_of_getElem? (i := 21) rfl)
theorem q_214 : Cond.code yX2_init cX2_init 2 none ∈ ALL := kC6 _ (List.mem_of_getElem? (i := 22) rfl)
theorem q_215 : Cond.fieldLink RX2 117 "DriftingLevels" "states" "I" ∈ ALL := kC6 _ (List.mem_of_getElem? (i := 23) rfl)
theorem q_216 : Cond.code yX2_dropOldest cX2_dropOldest 3 none ∈ ALL := kC6 _ (List.mem_of_getElem? (i := 24) rfl)
theorem q_217 : Cond.methodLink RX2 150 yX2_dropOldest ∈ ALL := kC6 _ (List.mem_of_getElem? (i := 25) rfl)
theorem q_218 : Cond.instanceMethod yX2_dropOldest ∈ ALL := kC6 _ (List.mem_of_getElem? (i := 26) rfl)
theorem q_219 : Cond.selects RX2 yX2_dropOldest yX2_dropOldest ∈ ALL := kC6 _ (List.mem_of_getElem? (i := 27) rfl)
theorem q_220 : Cond.code yX2_recorded cX2_recorded 3 (some .int) ∈ ALL := kC6 _ (List.mem_of_getElem? (i := 28) rfl)
theorem q_221 : Cond.methodLink RX2 33 yX0_copyFrom ∈ ALL := kC6 _ (List.mem_of_getElem? (i := 29) rfl)
theorem q_222 : Cond.instanceMethod yX0_copyFrom ∈ ALL := kC6 _ (List.mem_of_getElem? (i := 30) rfl)
theorem q_223 : Cond.selects RX0 yX0_copyFrom yX0_copyFrom ∈ ALL := kC6 _ (List.mem_of_getElem? (i := 31) rfl)
theorem q_224 : Cond.methodLink RX2 37 yX0_writeLevel ∈ ALL := kC7 _ (List.mem_of_getElem? (i := 0) rfl)
theorem q_225 : Cond.methodLink RX2 41 yX2_recorded ∈ ALL := kC7 _ (List.mem_of_getElem? (i := 1) rfl)
theorem q_226 : Cond.instanceMethod yX2_recorded ∈ ALL := kC7 _ (List.mem_of_getElem? (i := 2) rfl)
theorem q_227 : Cond.selects RX2 yX2_recorded yX2_recorded ∈ ALL := kC7 _ (List.mem_of_getElem? (i := 3) rfl)
theorem q_228 : Cond.code yX2_write cX2_write 4 (some .int) ∈ ALL := kC7 _ (List.mem_of_getElem? (i := 4) rfl)
theorem q_229 : Cond.methodLink RX2 45 yX0_writeWord ∈ ALL := kC7 _ (List.mem_of_getElem? (i := 5) rfl)
theorem q_230 : Cond.instanceMethod yX0_writeWord ∈ ALL := kC7 _ (List.mem_of_getElem? (i := 6) rfl)
theorem q_231 : Cond.selects RX0 yX0_writeWord yX0_writeWord ∈ ALL := kC7 _ (List.mem_of_getElem? (i := 7) rfl)
theorem q_232 : Cond.code yX2_fill cX2_fill 3 (some .int) ∈ ALL := kC7 _ (List.mem_of_getElem? (i := 8) rfl)
theorem q_233 : Cond.methodLink RX2 49 yX0_writeAnew ∈ ALL := kC7 _ (List.mem_of_getElem? (i := 9) rfl)
theorem q_234 : Cond.code yX2_anew cX2_anew 2 (some .int) ∈ ALL := kC7 _ (List.mem_of_getElem? (i := 10) rfl)
theorem q_235 : Cond.methodLink RX2 52 yX0_askCell ∈ ALL := kC7 _ (List.mem_of_getElem? (i := 11) rfl)
theorem q_236 : Cond.instanceMethod yX0_askCell ∈ ALL := kC7 _ (List.mem_of_getElem? (i := 12) rfl)
theorem q_237 : Cond.selects RX0 yX0_askCell yX0_askCell ∈ ALL := kC7 _ (List.mem_of_getElem? (i := 13) rfl)
theorem q_238 : Cond.code yX2_ask cX2_ask 3 (some .int) ∈ ALL := kC7 _ (List.mem_of_getElem? (i := 14) rfl)
theorem q_239 : Cond.methodLink RX2 55 yX0_failGuard ∈ ALL := kC7 _ (List.mem_of_getElem? (i := 15) rfl)
theorem q_240 : Cond.code yX2_fail cX2_fail 4 (some .int) ∈ ALL := kC7 _ (List.mem_of_getElem? (i := 16) rfl)
theorem q_241 : Cond.methodLink RX2 58 yX0_mendGuard ∈ ALL := kC7 _ (List.mem_of_getElem? (i := 17) rfl)
theorem q_242 : Cond.code yX2_mend cX2_mend 3 (some .int) ∈ ALL := kC7 _ (List.mem_of_getElem? (i := 18) rfl)
theorem q_243 : Cond.methodLink RX2 61 yX0_changeRate ∈ ALL := kC7 _ (List.mem_of_getElem? (i := 19) rfl)
theorem q_244 : Cond.code yX2_rate cX2_rate 3 (some .int) ∈ ALL := kC7 _ (List.mem_of_getElem? (i := 20) rfl)
theorem q_245 : Cond.methodLink RX2 64 yX0_passDays ∈ ALL := kC7 _ (List.mem_of_getElem? (i := 21) rfl)
theorem q_246 : Cond.code yX2_days cX2_days 2 (some .int) ∈ ALL := kC7 _ (List.mem_of_getElem? (i := 22) rfl)
theorem q_247 : Cond.methodLink RX2 67 yX0_changeSetting ∈ ALL := kC7 _ (List.mem_of_getElem? (i := 23) rfl)
theorem q_248 : Cond.instanceMethod yX0_changeSetting ∈ ALL := kC7 _ (List.mem_of_getElem? (i := 24) rfl)
theorem q_249 : Cond.selects RX0 yX0_changeSetting yX0_changeSetting ∈ ALL := kC7 _ (List.mem_of_getElem? (i := 25) rfl)
theorem q_250 : Cond.code yX2_set cX2_set 3 (some .int) ∈ ALL := kC7 _ (List.mem_of_getElem? (i := 26) rfl)
theorem q_251 : Cond.methodLink RX2 70 yX0_numberOfCell ∈ ALL := kC7 _ (List.mem_of_getElem? (i := 27) rfl)
theorem q_252 : Cond.instanceMethod yX0_numberOfCell ∈ ALL := kC7 _ (List.mem_of_getElem? (i := 28) rfl)
theorem q_253 : Cond.selects RX0 yX0_numberOfCell yX0_numberOfCell ∈ ALL := kC7 _ (List.mem_of_getElem? (i := 29) rfl)
theorem q_254 : Cond.code yX2_cell cX2_cell 4 (some .int) ∈ ALL := kC7 _ (List.mem_of_getElem? (i := 30) rfl)
theorem q_255 : Cond.methodLink RX2 73 yX0_numberOfGuard ∈ ALL := kC7 _ (List.mem_of_getElem? (i := 31) rfl)
theorem q_256 : Cond.instanceMethod yX0_numberOfGuard ∈ ALL := kC8 _ (List.mem_of_getElem? (i := 0) rfl)
theorem q_257 : Cond.selects RX0 yX0_numberOfGuard yX0_numberOfGuard ∈ ALL := kC8 _ (List.mem_of_getElem? (i := 1) rfl)
theorem q_258 : Cond.code yX2_guard cX2_guard 4 (some .int) ∈ ALL := kC8 _ (List.mem_of_getElem? (i := 2) rfl)
theorem q_259 : Cond.methodLink RX2 76 yX0_numberOfRow ∈ ALL := kC8 _ (List.mem_of_getElem? (i := 3) rfl)
theorem q_260 : Cond.instanceMethod yX0_numberOfRow ∈ ALL := kC8 _ (List.mem_of_getElem? (i := 4) rfl)
theorem q_261 : Cond.selects RX0 yX0_numberOfRow yX0_numberOfRow ∈ ALL := kC8 _ (List.mem_of_getElem? (i := 5) rfl)
theorem q_262 : Cond.code yX2_row cX2_row 3 (some .int) ∈ ALL := kC8 _ (List.mem_of_getElem? (i := 6) rfl)
theorem q_263 : Cond.methodLink RX2 79 yX0_timesTold ∈ ALL := kC8 _ (List.mem_of_getElem? (i := 7) rfl)
theorem q_264 : Cond.instanceMethod yX0_timesTold ∈ ALL := kC8 _ (List.mem_of_getElem? (i := 8) rfl)
theorem q_265 : Cond.selects RX0 yX0_timesTold yX0_timesTold ∈ ALL := kC8 _ (List.mem_of_getElem? (i := 9) rfl)
theorem q_266 : Cond.code yX2_table cX2_table 3 (some .int) ∈ ALL := kC8 _ (List.mem_of_getElem? (i := 10) rfl)
theorem q_267 : Cond.constant RX2 86 (-1000001) ∈ ALL := kC8 _ (List.mem_of_getElem? (i := 11) rfl)
theorem q_268 : Cond.constant RX2 90 (1000000) ∈ ALL := kC8 _ (List.mem_of_getElem? (i := 12) rfl)
theorem q_269 : Cond.constant RX2 91 (-1000004) ∈ ALL := kC8 _ (List.mem_of_getElem? (i := 13) rfl)
theorem q_270 : Cond.methodLink RX2 82 yX2_isOutside ∈ ALL := kC8 _ (List.mem_of_getElem? (i := 14) rfl)
theorem q_271 : Cond.methodLink RX2 87 yX0_wrongCells ∈ ALL := kC8 _ (List.mem_of_getElem? (i := 15) rfl)
theorem q_272 : Cond.code yX2_wrongIn cX2_wrongIn 3 (some .int) ∈ ALL := kC8 _ (List.mem_of_getElem? (i := 16) rfl)
theorem q_273 : Cond.methodLink RX2 92 yX0_hasRightThresholds ∈ ALL := kC8 _ (List.mem_of_getElem? (i := 17) rfl)
theorem q_274 : Cond.code yX2_rightFor cX2_rightFor 3 (some .int) ∈ ALL := kC8 _ (List.mem_of_getElem? (i := 18) rfl)
theorem q_275 : Cond.code yX2_isSafe cX2_isSafe 3 (some .boolean) ∈ ALL := kC8 _ (List.mem_of_getElem? (i := 19) rfl)
theorem q_276 : Cond.methodLink RX2 96 yX2_isSafe ∈ ALL := kC8 _ (List.mem_of_getElem? (i := 20) rfl)
theorem q_277 : Cond.instanceMethod yX2_isSafe ∈ ALL := kC8 _ (List.mem_of_getElem? (i := 21) rfl)
theorem q_278 : Cond.selects RX2 yX2_isSafe yX2_isSafe ∈ ALL := kC8 _ (List.mem_of_getElem? (i := 22) rfl)
theorem q_279 : Cond.code yX2_safeAge cX2_safeAge 2 (some .int) ∈ ALL := kC8 _ (List.mem_of_getElem? (i := 23) rfl)
theorem q_280 : Cond.methodLink RX2 99 yX0_worstBut ∈ ALL := kC8 _ (List.mem_of_getElem? (i := 24) rfl)
theorem q_281 : Cond.instanceMethod yX0_worstBut ∈ ALL := kC8 _ (List.mem_of_getElem? (i := 25) rfl)
theorem q_282 : Cond.selects RX0 yX0_worstBut yX0_worstBut ∈ ALL := kC8 _ (List.mem_of_getElem? (i := 26) rfl)
theorem q_283 : Cond.code yX2_worst cX2_worst 5 (some .int) ∈ ALL := kC8 _ (List.mem_of_getElem? (i := 27) rfl)
theorem q_284 : Cond.constantFloat RX2 166 (1258291200) ∈ ALL := kC8 _ (List.mem_of_getElem? (i := 28) rfl)
theorem q_285 : Cond.code yX2_bitsOf cX2_bitsOf 4 (some .int) ∈ ALL := kC8 _ (List.mem_of_getElem? (i := 29) rfl)
theorem q_286 : Cond.constantFloat RX2 106 (1111490560) ∈ ALL := kC8 _ (List.mem_of_getElem? (i := 30) rfl)
theorem q_287 : Cond.methodLink RX2 102 yX0_distanceFromAims ∈ ALL := kC8 _ (List.mem_of_getElem? (i := 31) rfl)
theorem q_288 : Cond.instanceMethod yX0_distanceFromAims ∈ ALL := kC9 _ (List.mem_of_getElem? (i := 0) rfl)
theorem q_289 : Cond.selects RX0 yX0_distanceFromAims yX0_distanceFromAims ∈ ALL := kC9 _ (List.mem_of_getElem? (i := 1) rfl)
theorem q_290 : Cond.methodLink RX2 107 yX2_bitsOf ∈ ALL := kC9 _ (List.mem_of_getElem? (i := 2) rfl)
theorem q_291 : Cond.static yX2_bitsOf ∈ ALL := kC9 _ (List.mem_of_getElem? (i := 3) rfl)
theorem q_292 : Cond.code yX2_mean cX2_mean 1 (some .int) ∈ ALL := kC9 _ (List.mem_of_getElem? (i := 4) rfl)
theorem q_293 : Cond.methodLink RX2 111 yX0_timesAsked ∈ ALL := kC9 _ (List.mem_of_getElem? (i := 5) rfl)
theorem q_294 : Cond.methodLink RX2 114 yX0_timesToldRight ∈ ALL := kC9 _ (List.mem_of_getElem? (i := 6) rfl)
theorem q_295 : Cond.instanceMethod yX0_timesToldRight ∈ ALL := kC9 _ (List.mem_of_getElem? (i := 7) rfl)
theorem q_296 : Cond.selects RX0 yX0_timesToldRight yX0_timesToldRight ∈ ALL := kC9 _ (List.mem_of_getElem? (i := 8) rfl)
theorem q_297 : Cond.code yX2_share cX2_share 2 (some .int) ∈ ALL := kC9 _ (List.mem_of_getElem? (i := 9) rfl)
theorem q_298 : Cond.methodLink RX2 121 yX1_size ∈ ALL := kC9 _ (List.mem_of_getElem? (i := 10) rfl)
theorem q_299 : Cond.instanceMethod yX1_size ∈ ALL := kC9 _ (List.mem_of_getElem? (i := 11) rfl)
theorem q_300 : Cond.selects RX1 yX1_size yX1_size ∈ ALL := kC9 _ (List.mem_of_getElem? (i := 12) rfl)
theorem q_301 : Cond.methodLink RX2 124 yX0_tally ∈ ALL := kC9 _ (List.mem_of_getElem? (i := 13) rfl)
theorem q_302 : Cond.instanceMethod yX0_tally ∈ ALL := kC9 _ (List.mem_of_getElem? (i := 14) rfl)
theorem q_303 : Cond.selects RX0 yX0_tally yX0_tally ∈ ALL := kC9 _ (List.mem_of_getElem? (i := 15) rfl)
theorem q_304 : Cond.code yX2_count cX2_count 2 (some .int) ∈ ALL := kC9 _ (List.mem_of_getElem? (i := 16) rfl)
theorem q_305 : Cond.constant RX2 127 (-1000002) ∈ ALL := kC9 _ (List.mem_of_getElem? (i := 17) rfl)
theorem q_306 : Cond.code yX2_undo cX2_undo 2 (some .int) ∈ ALL := kC9 _ (List.mem_of_getElem? (i := 18) rfl)
theorem q_307 : Cond.methodLink RX2 128 yX1_append ∈ ALL := kC9 _ (List.mem_of_getElem? (i := 19) rfl)
theorem q_308 : Cond.instanceMethod yX1_append ∈ ALL := kC9 _ (List.mem_of_getElem? (i := 20) rfl)
theorem q_309 : Cond.selects RX1 yX1_append yX1_append ∈ ALL := kC9 _ (List.mem_of_getElem? (i := 21) rfl)
theorem q_310 : Cond.code yX2_type cX2_type 2 (some .int) ∈ ALL := kC9 _ (List.mem_of_getElem? (i := 22) rfl)
theorem q_311 : Cond.methodLink RX2 131 yX1_empty ∈ ALL := kC9 _ (List.mem_of_getElem? (i := 23) rfl)
theorem q_312 : Cond.instanceMethod yX1_empty ∈ ALL := kC9 _ (List.mem_of_getElem? (i := 24) rfl)
theorem q_313 : Cond.selects RX1 yX1_empty yX1_empty ∈ ALL := kC9 _ (List.mem_of_getElem? (i := 25) rfl)
theorem q_314 : Cond.code yX2_clearText cX2_clearText 1 (some .int) ∈ ALL := kC9 _ (List.mem_of_getElem? (i := 26) rfl)
theorem q_315 : Cond.fieldLink RX2 138 "DriftingLevels" "faultPosition" "I" ∈ ALL := kC9 _ (List.mem_of_getElem? (i := 27) rfl)
theorem q_316 : Cond.fieldLink RX2 141 "DriftingLevels" "faultReason" "I" ∈ ALL := kC9 _ (List.mem_of_getElem? (i := 28) rfl)
theorem q_317 : Cond.fieldLink RX2 144 "DriftingLevels" "faultCause" "I" ∈ ALL := kC9 _ (List.mem_of_getElem? (i := 29) rfl)
theorem q_318 : Cond.code yX2_noteFault cX2_noteFault 4 (some .boolean) ∈ ALL := kC9 _ (List.mem_of_getElem? (i := 30) rfl)
theorem q_319 : Cond.fieldLink RX2 147 "DriftingLevels" "orders" "I" ∈ ALL := kC9 _ (List.mem_of_getElem? (i := 31) rfl)
theorem q_320 : Cond.methodLink RX2 153 yX1_readOrder ∈ ALL := kC10 _ (List.mem_of_getElem? (i := 0) rfl)
theorem q_321 : Cond.instanceMethod yX1_readOrder ∈ ALL := kC10 _ (List.mem_of_getElem? (i := 1) rfl)
theorem q_322 : Cond.selects RX1 yX1_readOrder yX1_readOrder ∈ ALL := kC10 _ (List.mem_of_getElem? (i := 2) rfl)
theorem q_323 : Cond.methodLink RX2 156 yX1_placeReached ∈ ALL := kC10 _ (List.mem_of_getElem? (i := 3) rfl)
theorem q_324 : Cond.instanceMethod yX1_placeReached ∈ ALL := kC10 _ (List.mem_of_getElem? (i := 4) rfl)
theorem q_325 : Cond.selects RX1 yX1_placeReached yX1_placeReached ∈ ALL := kC10 _ (List.mem_of_getElem? (i := 5) rfl)
theorem q_326 : Cond.methodLink RX2 159 yX2_noteFault ∈ ALL := kC10 _ (List.mem_of_getElem? (i := 6) rfl)
theorem q_327 : Cond.instanceMethod yX2_noteFault ∈ ALL := kC10 _ (List.mem_of_getElem? (i := 7) rfl)
theorem q_328 : Cond.selects RX2 yX2_noteFault yX2_noteFault ∈ ALL := kC10 _ (List.mem_of_getElem? (i := 8) rfl)
theorem q_329 : Cond.methodLink RX2 162 yX1_doOrder ∈ ALL := kC10 _ (List.mem_of_getElem? (i := 9) rfl)
theorem q_330 : Cond.instanceMethod yX1_doOrder ∈ ALL := kC10 _ (List.mem_of_getElem? (i := 10) rfl)
theorem q_331 : Cond.selects RX1 yX1_doOrder yX1_doOrder ∈ ALL := kC10 _ (List.mem_of_getElem? (i := 11) rfl)
theorem q_332 : Cond.code yX2_findFault cX2_findFault 3 (some .boolean) ∈ ALL := kC10 _ (List.mem_of_getElem? (i := 12) rfl)
theorem q_333 : Cond.methodLink RX2 134 yX2_findFault ∈ ALL := kC10 _ (List.mem_of_getElem? (i := 13) rfl)
theorem q_334 : Cond.instanceMethod yX2_findFault ∈ ALL := kC10 _ (List.mem_of_getElem? (i := 14) rfl)
theorem q_335 : Cond.selects RX2 yX2_findFault yX2_findFault ∈ ALL := kC10 _ (List.mem_of_getElem? (i := 15) rfl)
theorem q_336 : Cond.code yX2_fault cX2_fault 2 (some .int) ∈ ALL := kC10 _ (List.mem_of_getElem? (i := 16) rfl)
theorem q_337 : Cond.code yX2_play cX2_play 1 (some .int) ∈ ALL := kC10 _ (List.mem_of_getElem? (i := 17) rfl)
theorem q_338 : Cond.fieldLink RX3 7 "DriftingLevelsModel" "s" "[I" ∈ ALL := kC10 _ (List.mem_of_getElem? (i := 18) rfl)
theorem q_339 : Cond.code yX3_lays cX3_lays 4 none ∈ ALL := kC10 _ (List.mem_of_getElem? (i := 19) rfl)
theorem q_340 : Cond.code yX3_of cX3_of 3 (some .int) ∈ ALL := kC10 _ (List.mem_of_getElem? (i := 20) rfl)
theorem q_341 : Cond.code yX3_aim cX3_aim 1 (some .int) ∈ ALL := kC10 _ (List.mem_of_getElem? (i := 21) rfl)
theorem q_342 : Cond.methodLink RX3 52 yX3_of ∈ ALL := kC10 _ (List.mem_of_getElem? (i := 22) rfl)
theorem q_343 : Cond.instanceMethod yX3_of ∈ ALL := kC10 _ (List.mem_of_getElem? (i := 23) rfl)
theorem q_344 : Cond.selects RX3 yX3_of yX3_of ∈ ALL := kC10 _ (List.mem_of_getElem? (i := 24) rfl)
theorem q_345 : Cond.initialized RX3 ∈ ALL := kC10 _ (List.mem_of_getElem? (i := 25) rfl)
theorem q_346 : Cond.methodLink RX3 63 yX3_aim ∈ ALL := kC10 _ (List.mem_of_getElem? (i := 26) rfl)
theorem q_347 : Cond.static yX3_aim ∈ ALL := kC10 _ (List.mem_of_getElem? (i := 27) rfl)
theorem q_348 : Cond.methodLink RX3 28 yX3_lays ∈ ALL := kC10 _ (List.mem_of_getElem? (i := 28) rfl)
theorem q_349 : Cond.instanceMethod yX3_lays ∈ ALL := kC10 _ (List.mem_of_getElem? (i := 29) rfl)
theorem q_350 : Cond.selects RX3 yX3_lays yX3_lays ∈ ALL := kC10 _ (List.mem_of_getElem? (i := 30) rfl)
theorem q_351 : Cond.code yX3_writesGuards cX3_writesGuards 3 none ∈ ALL := kC10 _ (List.mem_of_getElem? (i := 31) rfl)
theorem q_352 : Cond.code yX3_ofCell cX3_ofCell 4 (some .int) ∈ ALL := kC11 _ (List.mem_of_getElem? (i := 0) rfl)
theorem q_353 : Cond.code yX3_laysCell cX3_laysCell 5 none ∈ ALL := kC11 _ (List.mem_of_getElem? (i := 1) rfl)
theorem q_354 : Cond.methodLink RX3 56 yX3_ofCell ∈ ALL := kC11 _ (List.mem_of_getElem? (i := 2) rfl)
theorem q_355 : Cond.instanceMethod yX3_ofCell ∈ ALL := kC11 _ (List.mem_of_getElem? (i := 3) rfl)
theorem q_356 : Cond.selects RX3 yX3_ofCell yX3_ofCell ∈ ALL := kC11 _ (List.mem_of_getElem? (i := 4) rfl)
theorem q_357 : Cond.methodLink RX3 59 yX3_laysCell ∈ ALL := kC11 _ (List.mem_of_getElem? (i := 5) rfl)
theorem q_358 : Cond.instanceMethod yX3_laysCell ∈ ALL := kC11 _ (List.mem_of_getElem? (i := 6) rfl)
theorem q_359 : Cond.selects RX3 yX3_laysCell yX3_laysCell ∈ ALL := kC11 _ (List.mem_of_getElem? (i := 7) rfl)
theorem q_360 : Cond.code yX3_writes cX3_writes 6 (some .int) ∈ ALL := kC11 _ (List.mem_of_getElem? (i := 8) rfl)
theorem q_361 : Cond.methodLink RX3 1 objectInit ∈ ALL := kC11 _ (List.mem_of_getElem? (i := 9) rfl)
theorem q_362 : Cond.fieldLink RX3 13 "DriftingLevelsModel" "aside" "[I" ∈ ALL := kC11 _ (List.mem_of_getElem? (i := 10) rfl)
theorem q_363 : Cond.fieldLink RX3 16 "DriftingLevelsModel" "before" "[I" ∈ ALL := kC11 _ (List.mem_of_getElem? (i := 11) rfl)
theorem q_364 : Cond.fieldLink RX3 19 "DriftingLevelsModel" "past" "[I" ∈ ALL := kC11 _ (List.mem_of_getElem? (i := 12) rfl)
theorem q_365 : Cond.fieldLink RX3 22 "DriftingLevelsModel" "text" "[I" ∈ ALL := kC11 _ (List.mem_of_getElem? (i := 13) rfl)
theorem q_366 : Cond.fieldLink RX3 25 "DriftingLevelsModel" "tells" "[I" ∈ ALL := kC11 _ (List.mem_of_getElem? (i := 14) rfl)
theorem q_367 : Cond.methodLink RX3 32 yX3_writesGuards ∈ ALL := kC11 _ (List.mem_of_getElem? (i := 15) rfl)
theorem q_368 : Cond.instanceMethod yX3_writesGuards ∈ ALL := kC11 _ (List.mem_of_getElem? (i := 16) rfl)
theorem q_369 : Cond.selects RX3 yX3_writesGuards yX3_writesGuards ∈ ALL := kC11 _ (List.mem_of_getElem? (i := 17) rfl)
theorem q_370 : Cond.methodLink RX3 36 yX3_writes ∈ ALL := kC11 _ (List.mem_of_getElem? (i := 18) rfl)
theorem q_371 : Cond.instanceMethod yX3_writes ∈ ALL := kC11 _ (List.mem_of_getElem? (i := 19) rfl)
theorem q_372 : Cond.selects RX3 yX3_writes yX3_writes ∈ ALL := kC11 _ (List.mem_of_getElem? (i := 20) rfl)
theorem q_373 : Cond.code yX3_init cX3_init 3 none ∈ ALL := kC11 _ (List.mem_of_getElem? (i := 21) rfl)
theorem q_374 : Cond.code yX3_in cX3_in 3 (some .boolean) ∈ ALL := kC11 _ (List.mem_of_getElem? (i := 22) rfl)
theorem q_375 : Cond.code yX3_copies cX3_copies 5 none ∈ ALL := kC11 _ (List.mem_of_getElem? (i := 23) rfl)
theorem q_376 : Cond.fieldLink RX3 40 "DriftingLevelsModel" "known" "I" ∈ ALL := kC11 _ (List.mem_of_getElem? (i := 24) rfl)
theorem q_377 : Cond.methodLink RX3 44 yX3_copies ∈ ALL := kC11 _ (List.mem_of_getElem? (i := 25) rfl)
theorem q_378 : Cond.static yX3_copies ∈ ALL := kC11 _ (List.mem_of_getElem? (i := 26) rfl)
theorem q_379 : Cond.code yX3_records cX3_records 2 none ∈ ALL := kC11 _ (List.mem_of_getElem? (i := 27) rfl)
theorem q_380 : Cond.methodLink RX3 48 yX3_in ∈ ALL := kC11 _ (List.mem_of_getElem? (i := 28) rfl)
theorem q_381 : Cond.static yX3_in ∈ ALL := kC11 _ (List.mem_of_getElem? (i := 29) rfl)
theorem q_382 : Cond.code yX3_isRow cX3_isRow 1 (some .boolean) ∈ ALL := kC11 _ (List.mem_of_getElem? (i := 30) rfl)
theorem q_383 : Cond.code yX3_isCell cX3_isCell 1 (some .boolean) ∈ ALL := kC11 _ (List.mem_of_getElem? (i := 31) rfl)
theorem q_384 : Cond.code yX3_isThree cX3_isThree 1 (some .boolean) ∈ ALL := kC12 _ (List.mem_of_getElem? (i := 0) rfl)
theorem q_385 : Cond.code yX3_size cX3_size 1 (some .int) ∈ ALL := kC12 _ (List.mem_of_getElem? (i := 1) rfl)
theorem q_386 : Cond.code yX3_own cX3_own 3 (some .int) ∈ ALL := kC12 _ (List.mem_of_getElem? (i := 2) rfl)
theorem q_387 : Cond.code yX3_isRight cX3_isRight 2 (some .boolean) ∈ ALL := kC12 _ (List.mem_of_getElem? (i := 3) rfl)
theorem q_388 : Cond.methodLink RX3 67 yX3_isRow ∈ ALL := kC12 _ (List.mem_of_getElem? (i := 4) rfl)
theorem q_389 : Cond.static yX3_isRow ∈ ALL := kC12 _ (List.mem_of_getElem? (i := 5) rfl)
theorem q_390 : Cond.methodLink RX3 71 yX3_isRight ∈ ALL := kC12 _ (List.mem_of_getElem? (i := 6) rfl)
theorem q_391 : Cond.instanceMethod yX3_isRight ∈ ALL := kC12 _ (List.mem_of_getElem? (i := 7) rfl)
theorem q_392 : Cond.selects RX3 yX3_isRight yX3_isRight ∈ ALL := kC12 _ (List.mem_of_getElem? (i := 8) rfl)
theorem q_393 : Cond.code yX3_helps cX3_helps 2 (some .boolean) ∈ ALL := kC12 _ (List.mem_of_getElem? (i := 9) rfl)
theorem q_394 : Cond.methodLink RX3 74 yX3_helps ∈ ALL := kC12 _ (List.mem_of_getElem? (i := 10) rfl)
theorem q_395 : Cond.instanceMethod yX3_helps ∈ ALL := kC12 _ (List.mem_of_getElem? (i := 11) rfl)
theorem q_396 : Cond.selects RX3 yX3_helps yX3_helps ∈ ALL := kC12 _ (List.mem_of_getElem? (i := 12) rfl)
theorem q_397 : Cond.code yX3_source cX3_source 2 (some .int) ∈ ALL := kC12 _ (List.mem_of_getElem? (i := 13) rfl)
theorem q_398 : Cond.methodLink RX3 77 yX3_own ∈ ALL := kC12 _ (List.mem_of_getElem? (i := 14) rfl)
theorem q_399 : Cond.instanceMethod yX3_own ∈ ALL := kC12 _ (List.mem_of_getElem? (i := 15) rfl)
theorem q_400 : Cond.selects RX3 yX3_own yX3_own ∈ ALL := kC12 _ (List.mem_of_getElem? (i := 16) rfl)
theorem q_401 : Cond.code yX3_threshold cX3_threshold 5 (some .int) ∈ ALL := kC12 _ (List.mem_of_getElem? (i := 17) rfl)
theorem q_402 : Cond.code yX3_by cX3_by 3 (some .int) ∈ ALL := kC12 _ (List.mem_of_getElem? (i := 18) rfl)
theorem q_403 : Cond.methodLink RX3 80 yX3_threshold ∈ ALL := kC12 _ (List.mem_of_getElem? (i := 19) rfl)
theorem q_404 : Cond.instanceMethod yX3_threshold ∈ ALL := kC12 _ (List.mem_of_getElem? (i := 20) rfl)
theorem q_405 : Cond.selects RX3 yX3_threshold yX3_threshold ∈ ALL := kC12 _ (List.mem_of_getElem? (i := 21) rfl)
theorem q_406 : Cond.methodLink RX3 83 yX3_by ∈ ALL := kC12 _ (List.mem_of_getElem? (i := 22) rfl)
theorem q_407 : Cond.static yX3_by ∈ ALL := kC12 _ (List.mem_of_getElem? (i := 23) rfl)
theorem q_408 : Cond.code yX3_told cX3_told 3 (some .int) ∈ ALL := kC12 _ (List.mem_of_getElem? (i := 24) rfl)
theorem q_409 : Cond.methodLink RX3 86 yX3_told ∈ ALL := kC12 _ (List.mem_of_getElem? (i := 25) rfl)
theorem q_410 : Cond.instanceMethod yX3_told ∈ ALL := kC12 _ (List.mem_of_getElem? (i := 26) rfl)
theorem q_411 : Cond.selects RX3 yX3_told yX3_told ∈ ALL := kC12 _ (List.mem_of_getElem? (i := 27) rfl)
theorem q_412 : Cond.code yX3_wrong cX3_wrong 4 (some .int) ∈ ALL := kC12 _ (List.mem_of_getElem? (i := 28) rfl)
theorem q_413 : Cond.code yX3_wordTold cX3_wordTold 4 (some .int) ∈ ALL := kC12 _ (List.mem_of_getElem? (i := 29) rfl)
theorem q_414 : Cond.code yX3_wordOf cX3_wordOf 4 (some .int) ∈ ALL := kC12 _ (List.mem_of_getElem? (i := 30) rfl)
theorem q_415 : Cond.code yX3_writesWord cX3_writesWord 6 none ∈ ALL := kC12 _ (List.mem_of_getElem? (i := 31) rfl)
theorem q_416 : Cond.methodLink RX3 89 yX3_wrong ∈ ALL := kC13 _ (List.mem_of_getElem? (i := 0) rfl)
theorem q_417 : Cond.instanceMethod yX3_wrong ∈ ALL := kC13 _ (List.mem_of_getElem? (i := 1) rfl)
theorem q_418 : Cond.selects RX3 yX3_wrong yX3_wrong ∈ ALL := kC13 _ (List.mem_of_getElem? (i := 2) rfl)
theorem q_419 : Cond.methodLink RX3 92 yX3_wordTold ∈ ALL := kC13 _ (List.mem_of_getElem? (i := 3) rfl)
theorem q_420 : Cond.instanceMethod yX3_wordTold ∈ ALL := kC13 _ (List.mem_of_getElem? (i := 4) rfl)
theorem q_421 : Cond.selects RX3 yX3_wordTold yX3_wordTold ∈ ALL := kC13 _ (List.mem_of_getElem? (i := 5) rfl)
theorem q_422 : Cond.methodLink RX3 95 yX3_writesWord ∈ ALL := kC13 _ (List.mem_of_getElem? (i := 6) rfl)
theorem q_423 : Cond.instanceMethod yX3_writesWord ∈ ALL := kC13 _ (List.mem_of_getElem? (i := 7) rfl)
theorem q_424 : Cond.selects RX3 yX3_writesWord yX3_writesWord ∈ ALL := kC13 _ (List.mem_of_getElem? (i := 8) rfl)
theorem q_425 : Cond.code yX3_writesAnew cX3_writesAnew 3 (some .int) ∈ ALL := kC13 _ (List.mem_of_getElem? (i := 9) rfl)
theorem q_426 : Cond.methodLink RX3 99 yX3_size ∈ ALL := kC13 _ (List.mem_of_getElem? (i := 10) rfl)
theorem q_427 : Cond.static yX3_size ∈ ALL := kC13 _ (List.mem_of_getElem? (i := 11) rfl)
theorem q_428 : Cond.code yX3_drifted cX3_drifted 5 (some .int) ∈ ALL := kC13 _ (List.mem_of_getElem? (i := 12) rfl)
theorem q_429 : Cond.methodLink RX3 102 yX3_drifted ∈ ALL := kC13 _ (List.mem_of_getElem? (i := 13) rfl)
theorem q_430 : Cond.instanceMethod yX3_drifted ∈ ALL := kC13 _ (List.mem_of_getElem? (i := 14) rfl)
theorem q_431 : Cond.selects RX3 yX3_drifted yX3_drifted ∈ ALL := kC13 _ (List.mem_of_getElem? (i := 15) rfl)
theorem q_432 : Cond.code yX3_drifts cX3_drifts 3 none ∈ ALL := kC13 _ (List.mem_of_getElem? (i := 16) rfl)
theorem q_433 : Cond.code yX3_ageOf cX3_ageOf 2 (some .int) ∈ ALL := kC13 _ (List.mem_of_getElem? (i := 17) rfl)
theorem q_434 : Cond.methodLink RX3 105 yX3_drifts ∈ ALL := kC13 _ (List.mem_of_getElem? (i := 18) rfl)
theorem q_435 : Cond.instanceMethod yX3_drifts ∈ ALL := kC13 _ (List.mem_of_getElem? (i := 19) rfl)
theorem q_436 : Cond.selects RX3 yX3_drifts yX3_drifts ∈ ALL := kC13 _ (List.mem_of_getElem? (i := 20) rfl)
theorem q_437 : Cond.methodLink RX3 108 yX3_ageOf ∈ ALL := kC13 _ (List.mem_of_getElem? (i := 21) rfl)
theorem q_438 : Cond.instanceMethod yX3_ageOf ∈ ALL := kC13 _ (List.mem_of_getElem? (i := 22) rfl)
theorem q_439 : Cond.selects RX3 yX3_ageOf yX3_ageOf ∈ ALL := kC13 _ (List.mem_of_getElem? (i := 23) rfl)
theorem q_440 : Cond.methodLink RX3 111 yX3_writesAnew ∈ ALL := kC13 _ (List.mem_of_getElem? (i := 24) rfl)
theorem q_441 : Cond.instanceMethod yX3_writesAnew ∈ ALL := kC13 _ (List.mem_of_getElem? (i := 25) rfl)
theorem q_442 : Cond.selects RX3 yX3_writesAnew yX3_writesAnew ∈ ALL := kC13 _ (List.mem_of_getElem? (i := 26) rfl)
theorem q_443 : Cond.code yX3_endsDay cX3_endsDay 3 (some .int) ∈ ALL := kC13 _ (List.mem_of_getElem? (i := 27) rfl)
theorem q_444 : Cond.methodLink RX3 114 yX3_endsDay ∈ ALL := kC13 _ (List.mem_of_getElem? (i := 28) rfl)
theorem q_445 : Cond.instanceMethod yX3_endsDay ∈ ALL := kC13 _ (List.mem_of_getElem? (i := 29) rfl)
theorem q_446 : Cond.selects RX3 yX3_endsDay yX3_endsDay ∈ ALL := kC13 _ (List.mem_of_getElem? (i := 30) rfl)
theorem q_447 : Cond.code yX3_endsDays cX3_endsDays 4 (some .int) ∈ ALL := kC13 _ (List.mem_of_getElem? (i := 31) rfl)
theorem q_448 : Cond.constant RX3 124 (-1000001) ∈ ALL := kC14 _ (List.mem_of_getElem? (i := 0) rfl)
theorem q_449 : Cond.methodLink RX3 118 yX3_isCell ∈ ALL := kC14 _ (List.mem_of_getElem? (i := 1) rfl)
theorem q_450 : Cond.static yX3_isCell ∈ ALL := kC14 _ (List.mem_of_getElem? (i := 2) rfl)
theorem q_451 : Cond.methodLink RX3 121 yX3_isThree ∈ ALL := kC14 _ (List.mem_of_getElem? (i := 3) rfl)
theorem q_452 : Cond.static yX3_isThree ∈ ALL := kC14 _ (List.mem_of_getElem? (i := 4) rfl)
theorem q_453 : Cond.code yX3_errorWrite cX3_errorWrite 3 (some .int) ∈ ALL := kC14 _ (List.mem_of_getElem? (i := 5) rfl)
theorem q_454 : Cond.constant RX3 125 (-1000002) ∈ ALL := kC14 _ (List.mem_of_getElem? (i := 6) rfl)
theorem q_455 : Cond.code yX3_errorFail cX3_errorFail 4 (some .int) ∈ ALL := kC14 _ (List.mem_of_getElem? (i := 7) rfl)
theorem q_456 : Cond.code yX3_errorMend cX3_errorMend 3 (some .int) ∈ ALL := kC14 _ (List.mem_of_getElem? (i := 8) rfl)
theorem q_457 : Cond.code yX3_errorRate cX3_errorRate 2 (some .int) ∈ ALL := kC14 _ (List.mem_of_getElem? (i := 9) rfl)
theorem q_458 : Cond.constant RX3 126 (-1000003) ∈ ALL := kC14 _ (List.mem_of_getElem? (i := 10) rfl)
theorem q_459 : Cond.code yX3_errorDays cX3_errorDays 2 (some .int) ∈ ALL := kC14 _ (List.mem_of_getElem? (i := 11) rfl)
theorem q_460 : Cond.code yX3_goFail cX3_goFail 4 none ∈ ALL := kC14 _ (List.mem_of_getElem? (i := 12) rfl)
theorem q_461 : Cond.methodLink RX3 127 yX3_errorWrite ∈ ALL := kC14 _ (List.mem_of_getElem? (i := 13) rfl)
theorem q_462 : Cond.static yX3_errorWrite ∈ ALL := kC14 _ (List.mem_of_getElem? (i := 14) rfl)
theorem q_463 : Cond.methodLink RX3 130 yX3_records ∈ ALL := kC14 _ (List.mem_of_getElem? (i := 15) rfl)
theorem q_464 : Cond.instanceMethod yX3_records ∈ ALL := kC14 _ (List.mem_of_getElem? (i := 16) rfl)
theorem q_465 : Cond.selects RX3 yX3_records yX3_records ∈ ALL := kC14 _ (List.mem_of_getElem? (i := 17) rfl)
theorem q_466 : Cond.code yX3_write cX3_write 5 (some .int) ∈ ALL := kC14 _ (List.mem_of_getElem? (i := 18) rfl)
theorem q_467 : Cond.code yX3_fill cX3_fill 4 (some .int) ∈ ALL := kC14 _ (List.mem_of_getElem? (i := 19) rfl)
theorem q_468 : Cond.code yX3_anew cX3_anew 2 (some .int) ∈ ALL := kC14 _ (List.mem_of_getElem? (i := 20) rfl)
theorem q_469 : Cond.code yX3_ask cX3_ask 4 (some .int) ∈ ALL := kC14 _ (List.mem_of_getElem? (i := 21) rfl)
theorem q_470 : Cond.methodLink RX3 133 yX3_errorFail ∈ ALL := kC14 _ (List.mem_of_getElem? (i := 22) rfl)
theorem q_471 : Cond.instanceMethod yX3_errorFail ∈ ALL := kC14 _ (List.mem_of_getElem? (i := 23) rfl)
theorem q_472 : Cond.selects RX3 yX3_errorFail yX3_errorFail ∈ ALL := kC14 _ (List.mem_of_getElem? (i := 24) rfl)
theorem q_473 : Cond.methodLink RX3 136 yX3_goFail ∈ ALL := kC14 _ (List.mem_of_getElem? (i := 25) rfl)
theorem q_474 : Cond.instanceMethod yX3_goFail ∈ ALL := kC14 _ (List.mem_of_getElem? (i := 26) rfl)
theorem q_475 : Cond.selects RX3 yX3_goFail yX3_goFail ∈ ALL := kC14 _ (List.mem_of_getElem? (i := 27) rfl)
theorem q_476 : Cond.code yX3_fail cX3_fail 6 (some .int) ∈ ALL := kC14 _ (List.mem_of_getElem? (i := 28) rfl)
theorem q_477 : Cond.methodLink RX3 139 yX3_errorMend ∈ ALL := kC14 _ (List.mem_of_getElem? (i := 29) rfl)
theorem q_478 : Cond.instanceMethod yX3_errorMend ∈ ALL := kC14 _ (List.mem_of_getElem? (i := 30) rfl)
theorem q_479 : Cond.selects RX3 yX3_errorMend yX3_errorMend ∈ ALL := kC14 _ (List.mem_of_getElem? (i := 31) rfl)
theorem q_480 : Cond.code yX3_mend cX3_mend 4 (some .int) ∈ ALL := kC15 _ (List.mem_of_getElem? (i := 0) rfl)
theorem q_481 : Cond.methodLink RX3 142 yX3_errorRate ∈ ALL := kC15 _ (List.mem_of_getElem? (i := 1) rfl)
theorem q_482 : Cond.static yX3_errorRate ∈ ALL := kC15 _ (List.mem_of_getElem? (i := 2) rfl)
theorem q_483 : Cond.code yX3_rate cX3_rate 5 (some .int) ∈ ALL := kC15 _ (List.mem_of_getElem? (i := 3) rfl)
theorem q_484 : Cond.methodLink RX3 145 yX3_errorDays ∈ ALL := kC15 _ (List.mem_of_getElem? (i := 4) rfl)
theorem q_485 : Cond.instanceMethod yX3_errorDays ∈ ALL := kC15 _ (List.mem_of_getElem? (i := 5) rfl)
theorem q_486 : Cond.selects RX3 yX3_errorDays yX3_errorDays ∈ ALL := kC15 _ (List.mem_of_getElem? (i := 6) rfl)
theorem q_487 : Cond.methodLink RX3 148 yX3_endsDays ∈ ALL := kC15 _ (List.mem_of_getElem? (i := 7) rfl)
theorem q_488 : Cond.instanceMethod yX3_endsDays ∈ ALL := kC15 _ (List.mem_of_getElem? (i := 8) rfl)
theorem q_489 : Cond.selects RX3 yX3_endsDays yX3_endsDays ∈ ALL := kC15 _ (List.mem_of_getElem? (i := 9) rfl)
theorem q_490 : Cond.code yX3_days cX3_days 3 (some .int) ∈ ALL := kC15 _ (List.mem_of_getElem? (i := 10) rfl)
theorem q_491 : Cond.code yX3_set cX3_set 4 (some .int) ∈ ALL := kC15 _ (List.mem_of_getElem? (i := 11) rfl)
theorem q_492 : Cond.code yX3_undo cX3_undo 1 (some .int) ∈ ALL := kC15 _ (List.mem_of_getElem? (i := 12) rfl)
theorem q_493 : Cond.code yX3_nearer cX3_nearer 5 (some .int) ∈ ALL := kC15 _ (List.mem_of_getElem? (i := 13) rfl)
theorem q_494 : Cond.methodLink RX3 151 yX3_nearer ∈ ALL := kC15 _ (List.mem_of_getElem? (i := 14) rfl)
theorem q_495 : Cond.instanceMethod yX3_nearer ∈ ALL := kC15 _ (List.mem_of_getElem? (i := 15) rfl)
theorem q_496 : Cond.selects RX3 yX3_nearer yX3_nearer ∈ ALL := kC15 _ (List.mem_of_getElem? (i := 16) rfl)
theorem q_497 : Cond.code yX3_cell cX3_cell 5 (some .int) ∈ ALL := kC15 _ (List.mem_of_getElem? (i := 17) rfl)
theorem q_498 : Cond.code yX3_guard cX3_guard 4 (some .int) ∈ ALL := kC15 _ (List.mem_of_getElem? (i := 18) rfl)
theorem q_499 : Cond.code yX3_wrongFixed cX3_wrongFixed 4 (some .int) ∈ ALL := kC15 _ (List.mem_of_getElem? (i := 19) rfl)
theorem q_500 : Cond.methodLink RX3 154 yX3_source ∈ ALL := kC15 _ (List.mem_of_getElem? (i := 20) rfl)
theorem q_501 : Cond.instanceMethod yX3_source ∈ ALL := kC15 _ (List.mem_of_getElem? (i := 21) rfl)
theorem q_502 : Cond.selects RX3 yX3_source yX3_source ∈ ALL := kC15 _ (List.mem_of_getElem? (i := 22) rfl)
theorem q_503 : Cond.methodLink RX3 157 yX3_wrongFixed ∈ ALL := kC15 _ (List.mem_of_getElem? (i := 23) rfl)
theorem q_504 : Cond.instanceMethod yX3_wrongFixed ∈ ALL := kC15 _ (List.mem_of_getElem? (i := 24) rfl)
theorem q_505 : Cond.selects RX3 yX3_wrongFixed yX3_wrongFixed ∈ ALL := kC15 _ (List.mem_of_getElem? (i := 25) rfl)
theorem q_506 : Cond.methodLink RX3 160 yX3_wordOf ∈ ALL := kC15 _ (List.mem_of_getElem? (i := 26) rfl)
theorem q_507 : Cond.instanceMethod yX3_wordOf ∈ ALL := kC15 _ (List.mem_of_getElem? (i := 27) rfl)
theorem q_508 : Cond.selects RX3 yX3_wordOf yX3_wordOf ∈ ALL := kC15 _ (List.mem_of_getElem? (i := 28) rfl)
theorem q_509 : Cond.code yX3_row cX3_row 3 (some .int) ∈ ALL := kC15 _ (List.mem_of_getElem? (i := 29) rfl)
theorem q_510 : Cond.code yX3_table cX3_table 3 (some .int) ∈ ALL := kC15 _ (List.mem_of_getElem? (i := 30) rfl)
theorem q_511 : Cond.constant RX3 163 (-1000004) ∈ ALL := kC15 _ (List.mem_of_getElem? (i := 31) rfl)
theorem q_512 : Cond.code yX3_wrongIn cX3_wrongIn 4 (some .int) ∈ ALL := kC16 _ (List.mem_of_getElem? (i := 0) rfl)
theorem q_513 : Cond.code yX3_rightFor cX3_rightFor 3 (some .int) ∈ ALL := kC16 _ (List.mem_of_getElem? (i := 1) rfl)
theorem q_514 : Cond.code yX3_lostBy cX3_lostBy 4 (some .int) ∈ ALL := kC16 _ (List.mem_of_getElem? (i := 2) rfl)
theorem q_515 : Cond.methodLink RX3 164 yX3_lostBy ∈ ALL := kC16 _ (List.mem_of_getElem? (i := 3) rfl)
theorem q_516 : Cond.instanceMethod yX3_lostBy ∈ ALL := kC16 _ (List.mem_of_getElem? (i := 4) rfl)
theorem q_517 : Cond.selects RX3 yX3_lostBy yX3_lostBy ∈ ALL := kC16 _ (List.mem_of_getElem? (i := 5) rfl)
theorem q_518 : Cond.code yX3_safeAge cX3_safeAge 2 (some .int) ∈ ALL := kC16 _ (List.mem_of_getElem? (i := 6) rfl)
theorem q_519 : Cond.code yX3_worst cX3_worst 6 (some .int) ∈ ALL := kC16 _ (List.mem_of_getElem? (i := 7) rfl)
theorem q_520 : Cond.constantFloat RX3 167 (1111490560) ∈ ALL := kC16 _ (List.mem_of_getElem? (i := 8) rfl)
theorem q_521 : Cond.methodLink RX3 168 yJxf58ca_floatToIntBits_5c35a ∈ ALL := kC16 _ (List.mem_of_getElem? (i := 9) rfl)
theorem q_522 : Cond.static yJxf58ca_floatToIntBits_5c35a ∈ ALL := kC16 _ (List.mem_of_getElem? (i := 10) rfl)
theorem q_523 : Cond.initialized RJxf58ca ∈ ALL := kC16 _ (List.mem_of_getElem? (i := 11) rfl)
theorem q_524 : Cond.code yJxf58ca_floatToIntBits_5c35a cJxf58ca_floatToIntBits_5c35a 1 (some .int) ∈ ALL := kC16 _ (List.mem_of_getElem? (i := 12) rfl)
theorem q_525 : Cond.methodLink RJxf58ca 74 ⟨"java/lang/Float", "floatToRawIntBits", "(F)I"⟩ ∈ ALL := kC16 _ (List.mem_of_getElem? (i := 13) rfl)
theorem q_526 : Cond.native ⟨"java/lang/Float", "floatToRawIntBits", "(F)I"⟩ ∈ ALL := kC16 _ (List.mem_of_getElem? (i := 14) rfl)
theorem q_527 : Cond.static ⟨"java/lang/Float", "floatToRawIntBits", "(F)I"⟩ ∈ ALL := kC16 _ (List.mem_of_getElem? (i := 15) rfl)
theorem q_528 : Cond.initialized "java/lang/Float" ∈ ALL := kC16 _ (List.mem_of_getElem? (i := 16) rfl)
theorem q_529 : Cond.constant RJxf58ca 77 (2143289344) ∈ ALL := kC16 _ (List.mem_of_getElem? (i := 17) rfl)
theorem q_530 : Cond.methodLink RJxf58ca 59 yJxf58ca_isNaN_12338 ∈ ALL := kC16 _ (List.mem_of_getElem? (i := 18) rfl)
theorem q_531 : Cond.static yJxf58ca_isNaN_12338 ∈ ALL := kC16 _ (List.mem_of_getElem? (i := 19) rfl)
theorem q_532 : Cond.code yJxf58ca_isNaN_12338 cJxf58ca_isNaN_12338 1 (some .boolean) ∈ ALL := kC16 _ (List.mem_of_getElem? (i := 20) rfl)
theorem q_533 : Cond.code yX3_mean cX3_mean 3 (some .int) ∈ ALL := kC16 _ (List.mem_of_getElem? (i := 21) rfl)
theorem q_534 : Cond.code yX3_share cX3_share 2 (some .int) ∈ ALL := kC16 _ (List.mem_of_getElem? (i := 22) rfl)
theorem q_535 : Cond.code yX3_wrongAll cX3_wrongAll 3 (some .int) ∈ ALL := kC16 _ (List.mem_of_getElem? (i := 23) rfl)
theorem q_536 : Cond.code yX3_isOf cX3_isOf 3 (some .boolean) ∈ ALL := kC16 _ (List.mem_of_getElem? (i := 24) rfl)
theorem q_537 : Cond.methodLink RX3 174 yX3_isOf ∈ ALL := kC16 _ (List.mem_of_getElem? (i := 25) rfl)
theorem q_538 : Cond.instanceMethod yX3_isOf ∈ ALL := kC16 _ (List.mem_of_getElem? (i := 26) rfl)
theorem q_539 : Cond.selects RX3 yX3_isOf yX3_isOf ∈ ALL := kC16 _ (List.mem_of_getElem? (i := 27) rfl)
theorem q_540 : Cond.code yX3_setOf cX3_setOf 4 (some .int) ∈ ALL := kC16 _ (List.mem_of_getElem? (i := 28) rfl)
theorem q_541 : Cond.code yX3_failed cX3_failed 3 (some .int) ∈ ALL := kC16 _ (List.mem_of_getElem? (i := 29) rfl)
theorem q_542 : Cond.code yX3_pairs cX3_pairs 3 (some .int) ∈ ALL := kC16 _ (List.mem_of_getElem? (i := 30) rfl)
theorem q_543 : Cond.code yX3_ofLevel cX3_ofLevel 4 (some .int) ∈ ALL := kC16 _ (List.mem_of_getElem? (i := 31) rfl)
theorem q_544 : Cond.fieldLink RX3 193 "DriftingLevelsModel" "length" "I" ∈ ALL := kC17 _ (List.mem_of_getElem? (i := 0) rfl)
theorem q_545 : Cond.methodLink RX3 178 yX3_wrongAll ∈ ALL := kC17 _ (List.mem_of_getElem? (i := 1) rfl)
theorem q_546 : Cond.instanceMethod yX3_wrongAll ∈ ALL := kC17 _ (List.mem_of_getElem? (i := 2) rfl)
theorem q_547 : Cond.selects RX3 yX3_wrongAll yX3_wrongAll ∈ ALL := kC17 _ (List.mem_of_getElem? (i := 3) rfl)
theorem q_548 : Cond.methodLink RX3 181 yX3_setOf ∈ ALL := kC17 _ (List.mem_of_getElem? (i := 4) rfl)
theorem q_549 : Cond.instanceMethod yX3_setOf ∈ ALL := kC17 _ (List.mem_of_getElem? (i := 5) rfl)
theorem q_550 : Cond.selects RX3 yX3_setOf yX3_setOf ∈ ALL := kC17 _ (List.mem_of_getElem? (i := 6) rfl)
theorem q_551 : Cond.methodLink RX3 184 yX3_failed ∈ ALL := kC17 _ (List.mem_of_getElem? (i := 7) rfl)
theorem q_552 : Cond.instanceMethod yX3_failed ∈ ALL := kC17 _ (List.mem_of_getElem? (i := 8) rfl)
theorem q_553 : Cond.selects RX3 yX3_failed yX3_failed ∈ ALL := kC17 _ (List.mem_of_getElem? (i := 9) rfl)
theorem q_554 : Cond.methodLink RX3 187 yX3_pairs ∈ ALL := kC17 _ (List.mem_of_getElem? (i := 10) rfl)
theorem q_555 : Cond.instanceMethod yX3_pairs ∈ ALL := kC17 _ (List.mem_of_getElem? (i := 11) rfl)
theorem q_556 : Cond.selects RX3 yX3_pairs yX3_pairs ∈ ALL := kC17 _ (List.mem_of_getElem? (i := 12) rfl)
theorem q_557 : Cond.methodLink RX3 190 yX3_ofLevel ∈ ALL := kC17 _ (List.mem_of_getElem? (i := 13) rfl)
theorem q_558 : Cond.instanceMethod yX3_ofLevel ∈ ALL := kC17 _ (List.mem_of_getElem? (i := 14) rfl)
theorem q_559 : Cond.selects RX3 yX3_ofLevel yX3_ofLevel ∈ ALL := kC17 _ (List.mem_of_getElem? (i := 15) rfl)
theorem q_560 : Cond.code yX3_count cX3_count 2 (some .int) ∈ ALL := kC17 _ (List.mem_of_getElem? (i := 16) rfl)
theorem q_561 : Cond.code yX3_type cX3_type 2 (some .int) ∈ ALL := kC17 _ (List.mem_of_getElem? (i := 17) rfl)
theorem q_562 : Cond.code yX3_clearText cX3_clearText 2 (some .int) ∈ ALL := kC17 _ (List.mem_of_getElem? (i := 18) rfl)
theorem q_563 : Cond.fieldLink RX3 196 "DriftingLevelsModel" "spot" "I" ∈ ALL := kC17 _ (List.mem_of_getElem? (i := 19) rfl)
theorem q_564 : Cond.code yX3_here cX3_here 1 (some .int) ∈ ALL := kC17 _ (List.mem_of_getElem? (i := 20) rfl)
theorem q_565 : Cond.fieldLink RX3 199 "DriftingLevelsModel" "isForm" "Z" ∈ ALL := kC17 _ (List.mem_of_getElem? (i := 21) rfl)
theorem q_566 : Cond.code yX3_takes cX3_takes 2 none ∈ ALL := kC17 _ (List.mem_of_getElem? (i := 22) rfl)
theorem q_567 : Cond.methodLink RX3 203 yX3_here ∈ ALL := kC17 _ (List.mem_of_getElem? (i := 23) rfl)
theorem q_568 : Cond.instanceMethod yX3_here ∈ ALL := kC17 _ (List.mem_of_getElem? (i := 24) rfl)
theorem q_569 : Cond.selects RX3 yX3_here yX3_here ∈ ALL := kC17 _ (List.mem_of_getElem? (i := 25) rfl)
theorem q_570 : Cond.code yX3_takesNumber cX3_takesNumber 4 none ∈ ALL := kC17 _ (List.mem_of_getElem? (i := 26) rfl)
theorem q_571 : Cond.fieldLink RX3 206 "DriftingLevelsModel" "begin" "I" ∈ ALL := kC17 _ (List.mem_of_getElem? (i := 27) rfl)
theorem q_572 : Cond.fieldLink RX3 209 "DriftingLevelsModel" "letter" "I" ∈ ALL := kC17 _ (List.mem_of_getElem? (i := 28) rfl)
theorem q_573 : Cond.methodLink RX3 212 yX3_takes ∈ ALL := kC17 _ (List.mem_of_getElem? (i := 29) rfl)
theorem q_574 : Cond.instanceMethod yX3_takes ∈ ALL := kC17 _ (List.mem_of_getElem? (i := 30) rfl)
theorem q_575 : Cond.selects RX3 yX3_takes yX3_takes ∈ ALL := kC17 _ (List.mem_of_getElem? (i := 31) rfl)
theorem q_576 : Cond.methodLink RX3 216 yX3_takesNumber ∈ ALL := kC18 _ (List.mem_of_getElem? (i := 0) rfl)
theorem q_577 : Cond.instanceMethod yX3_takesNumber ∈ ALL := kC18 _ (List.mem_of_getElem? (i := 1) rfl)
theorem q_578 : Cond.selects RX3 yX3_takesNumber yX3_takesNumber ∈ ALL := kC18 _ (List.mem_of_getElem? (i := 2) rfl)
theorem q_579 : Cond.code yX3_takesOrder cX3_takesOrder 3 none ∈ ALL := kC18 _ (List.mem_of_getElem? (i := 3) rfl)
theorem q_580 : Cond.code yX3_errorOfOrder cX3_errorOfOrder 1 (some .int) ∈ ALL := kC18 _ (List.mem_of_getElem? (i := 4) rfl)
theorem q_581 : Cond.code yX3_doesOrder cX3_doesOrder 2 none ∈ ALL := kC18 _ (List.mem_of_getElem? (i := 5) rfl)
theorem q_582 : Cond.fieldLink RX3 219 "DriftingLevelsModel" "faultReason" "I" ∈ ALL := kC18 _ (List.mem_of_getElem? (i := 6) rfl)
theorem q_583 : Cond.fieldLink RX3 228 "DriftingLevelsModel" "faultCause" "I" ∈ ALL := kC18 _ (List.mem_of_getElem? (i := 7) rfl)
theorem q_584 : Cond.methodLink RX3 222 yX3_takesOrder ∈ ALL := kC18 _ (List.mem_of_getElem? (i := 8) rfl)
theorem q_585 : Cond.instanceMethod yX3_takesOrder ∈ ALL := kC18 _ (List.mem_of_getElem? (i := 9) rfl)
theorem q_586 : Cond.selects RX3 yX3_takesOrder yX3_takesOrder ∈ ALL := kC18 _ (List.mem_of_getElem? (i := 10) rfl)
theorem q_587 : Cond.methodLink RX3 225 yX3_errorOfOrder ∈ ALL := kC18 _ (List.mem_of_getElem? (i := 11) rfl)
theorem q_588 : Cond.instanceMethod yX3_errorOfOrder ∈ ALL := kC18 _ (List.mem_of_getElem? (i := 12) rfl)
theorem q_589 : Cond.selects RX3 yX3_errorOfOrder yX3_errorOfOrder ∈ ALL := kC18 _ (List.mem_of_getElem? (i := 13) rfl)
theorem q_590 : Cond.methodLink RX3 231 yX3_doesOrder ∈ ALL := kC18 _ (List.mem_of_getElem? (i := 14) rfl)
theorem q_591 : Cond.instanceMethod yX3_doesOrder ∈ ALL := kC18 _ (List.mem_of_getElem? (i := 15) rfl)
theorem q_592 : Cond.selects RX3 yX3_doesOrder yX3_doesOrder ∈ ALL := kC18 _ (List.mem_of_getElem? (i := 16) rfl)
theorem q_593 : Cond.code yX3_doesAll cX3_doesAll 3 (some .int) ∈ ALL := kC18 _ (List.mem_of_getElem? (i := 17) rfl)
theorem q_594 : Cond.methodLink RX3 234 yX3_doesAll ∈ ALL := kC18 _ (List.mem_of_getElem? (i := 18) rfl)
theorem q_595 : Cond.instanceMethod yX3_doesAll ∈ ALL := kC18 _ (List.mem_of_getElem? (i := 19) rfl)
theorem q_596 : Cond.selects RX3 yX3_doesAll yX3_doesAll ∈ ALL := kC18 _ (List.mem_of_getElem? (i := 20) rfl)
theorem q_597 : Cond.code yX3_fault cX3_fault 3 (some .int) ∈ ALL := kC18 _ (List.mem_of_getElem? (i := 21) rfl)
theorem q_598 : Cond.code yX3_play cX3_play 2 (some .int) ∈ ALL := kC18 _ (List.mem_of_getElem? (i := 22) rfl)
theorem q_599 : Cond.classLink RL 7 RX2 ∈ ALL := kC18 _ (List.mem_of_getElem? (i := 23) rfl)
theorem q_600 : Cond.instantiable RX2 10 ∈ ALL := kC18 _ (List.mem_of_getElem? (i := 24) rfl)
theorem q_601 : Cond.classLink RL 10 RX3 ∈ ALL := kC18 _ (List.mem_of_getElem? (i := 25) rfl)
theorem q_602 : Cond.instantiable RX3 14 ∈ ALL := kC18 _ (List.mem_of_getElem? (i := 26) rfl)
theorem q_603 : Cond.methodLink RL 9 yX2_init ∈ ALL := kC18 _ (List.mem_of_getElem? (i := 27) rfl)
theorem q_604 : Cond.instanceMethod yX2_init ∈ ALL := kC18 _ (List.mem_of_getElem? (i := 28) rfl)
theorem q_605 : Cond.methodLink RL 12 yX3_init ∈ ALL := kC18 _ (List.mem_of_getElem? (i := 29) rfl)
theorem q_606 : Cond.instanceMethod yX3_init ∈ ALL := kC18 _ (List.mem_of_getElem? (i := 30) rfl)
theorem q_607 : Cond.methodLink RL 13 yX2_write ∈ ALL := kC18 _ (List.mem_of_getElem? (i := 31) rfl)
theorem q_608 : Cond.instanceMethod yX2_write ∈ ALL := kC19 _ (List.mem_of_getElem? (i := 0) rfl)
theorem q_609 : Cond.selects RX2 yX2_write yX2_write ∈ ALL := kC19 _ (List.mem_of_getElem? (i := 1) rfl)
theorem q_610 : Cond.methodLink RL 17 yX3_write ∈ ALL := kC19 _ (List.mem_of_getElem? (i := 2) rfl)
theorem q_611 : Cond.instanceMethod yX3_write ∈ ALL := kC19 _ (List.mem_of_getElem? (i := 3) rfl)
theorem q_612 : Cond.selects RX3 yX3_write yX3_write ∈ ALL := kC19 _ (List.mem_of_getElem? (i := 4) rfl)
theorem q_613 : Cond.methodLink RL 18 yX2_fill ∈ ALL := kC19 _ (List.mem_of_getElem? (i := 5) rfl)
theorem q_614 : Cond.instanceMethod yX2_fill ∈ ALL := kC19 _ (List.mem_of_getElem? (i := 6) rfl)
theorem q_615 : Cond.selects RX2 yX2_fill yX2_fill ∈ ALL := kC19 _ (List.mem_of_getElem? (i := 7) rfl)
theorem q_616 : Cond.methodLink RL 22 yX3_fill ∈ ALL := kC19 _ (List.mem_of_getElem? (i := 8) rfl)
theorem q_617 : Cond.instanceMethod yX3_fill ∈ ALL := kC19 _ (List.mem_of_getElem? (i := 9) rfl)
theorem q_618 : Cond.selects RX3 yX3_fill yX3_fill ∈ ALL := kC19 _ (List.mem_of_getElem? (i := 10) rfl)
theorem q_619 : Cond.methodLink RL 23 yX2_anew ∈ ALL := kC19 _ (List.mem_of_getElem? (i := 11) rfl)
theorem q_620 : Cond.instanceMethod yX2_anew ∈ ALL := kC19 _ (List.mem_of_getElem? (i := 12) rfl)
theorem q_621 : Cond.selects RX2 yX2_anew yX2_anew ∈ ALL := kC19 _ (List.mem_of_getElem? (i := 13) rfl)
theorem q_622 : Cond.methodLink RL 27 yX3_anew ∈ ALL := kC19 _ (List.mem_of_getElem? (i := 14) rfl)
theorem q_623 : Cond.instanceMethod yX3_anew ∈ ALL := kC19 _ (List.mem_of_getElem? (i := 15) rfl)
theorem q_624 : Cond.selects RX3 yX3_anew yX3_anew ∈ ALL := kC19 _ (List.mem_of_getElem? (i := 16) rfl)
theorem q_625 : Cond.methodLink RL 28 yX2_ask ∈ ALL := kC19 _ (List.mem_of_getElem? (i := 17) rfl)
theorem q_626 : Cond.instanceMethod yX2_ask ∈ ALL := kC19 _ (List.mem_of_getElem? (i := 18) rfl)
theorem q_627 : Cond.selects RX2 yX2_ask yX2_ask ∈ ALL := kC19 _ (List.mem_of_getElem? (i := 19) rfl)
theorem q_628 : Cond.methodLink RL 31 yX3_ask ∈ ALL := kC19 _ (List.mem_of_getElem? (i := 20) rfl)
theorem q_629 : Cond.instanceMethod yX3_ask ∈ ALL := kC19 _ (List.mem_of_getElem? (i := 21) rfl)
theorem q_630 : Cond.selects RX3 yX3_ask yX3_ask ∈ ALL := kC19 _ (List.mem_of_getElem? (i := 22) rfl)
theorem q_631 : Cond.methodLink RL 32 yX2_fail ∈ ALL := kC19 _ (List.mem_of_getElem? (i := 23) rfl)
theorem q_632 : Cond.instanceMethod yX2_fail ∈ ALL := kC19 _ (List.mem_of_getElem? (i := 24) rfl)
theorem q_633 : Cond.selects RX2 yX2_fail yX2_fail ∈ ALL := kC19 _ (List.mem_of_getElem? (i := 25) rfl)
theorem q_634 : Cond.methodLink RL 35 yX3_fail ∈ ALL := kC19 _ (List.mem_of_getElem? (i := 26) rfl)
theorem q_635 : Cond.instanceMethod yX3_fail ∈ ALL := kC19 _ (List.mem_of_getElem? (i := 27) rfl)
theorem q_636 : Cond.selects RX3 yX3_fail yX3_fail ∈ ALL := kC19 _ (List.mem_of_getElem? (i := 28) rfl)
theorem q_637 : Cond.methodLink RL 36 yX2_mend ∈ ALL := kC19 _ (List.mem_of_getElem? (i := 29) rfl)
theorem q_638 : Cond.instanceMethod yX2_mend ∈ ALL := kC19 _ (List.mem_of_getElem? (i := 30) rfl)
theorem q_639 : Cond.selects RX2 yX2_mend yX2_mend ∈ ALL := kC19 _ (List.mem_of_getElem? (i := 31) rfl)
theorem q_640 : Cond.methodLink RL 39 yX3_mend ∈ ALL := kC20 _ (List.mem_of_getElem? (i := 0) rfl)
theorem q_641 : Cond.instanceMethod yX3_mend ∈ ALL := kC20 _ (List.mem_of_getElem? (i := 1) rfl)
theorem q_642 : Cond.selects RX3 yX3_mend yX3_mend ∈ ALL := kC20 _ (List.mem_of_getElem? (i := 2) rfl)
theorem q_643 : Cond.methodLink RL 40 yX2_rate ∈ ALL := kC20 _ (List.mem_of_getElem? (i := 3) rfl)
theorem q_644 : Cond.instanceMethod yX2_rate ∈ ALL := kC20 _ (List.mem_of_getElem? (i := 4) rfl)
theorem q_645 : Cond.selects RX2 yX2_rate yX2_rate ∈ ALL := kC20 _ (List.mem_of_getElem? (i := 5) rfl)
theorem q_646 : Cond.methodLink RL 43 yX3_rate ∈ ALL := kC20 _ (List.mem_of_getElem? (i := 6) rfl)
theorem q_647 : Cond.instanceMethod yX3_rate ∈ ALL := kC20 _ (List.mem_of_getElem? (i := 7) rfl)
theorem q_648 : Cond.selects RX3 yX3_rate yX3_rate ∈ ALL := kC20 _ (List.mem_of_getElem? (i := 8) rfl)
theorem q_649 : Cond.methodLink RL 44 yX2_days ∈ ALL := kC20 _ (List.mem_of_getElem? (i := 9) rfl)
theorem q_650 : Cond.instanceMethod yX2_days ∈ ALL := kC20 _ (List.mem_of_getElem? (i := 10) rfl)
theorem q_651 : Cond.selects RX2 yX2_days yX2_days ∈ ALL := kC20 _ (List.mem_of_getElem? (i := 11) rfl)
theorem q_652 : Cond.methodLink RL 47 yX3_days ∈ ALL := kC20 _ (List.mem_of_getElem? (i := 12) rfl)
theorem q_653 : Cond.instanceMethod yX3_days ∈ ALL := kC20 _ (List.mem_of_getElem? (i := 13) rfl)
theorem q_654 : Cond.selects RX3 yX3_days yX3_days ∈ ALL := kC20 _ (List.mem_of_getElem? (i := 14) rfl)
theorem q_655 : Cond.methodLink RL 48 yX2_set ∈ ALL := kC20 _ (List.mem_of_getElem? (i := 15) rfl)
theorem q_656 : Cond.instanceMethod yX2_set ∈ ALL := kC20 _ (List.mem_of_getElem? (i := 16) rfl)
theorem q_657 : Cond.selects RX2 yX2_set yX2_set ∈ ALL := kC20 _ (List.mem_of_getElem? (i := 17) rfl)
theorem q_658 : Cond.methodLink RL 51 yX3_set ∈ ALL := kC20 _ (List.mem_of_getElem? (i := 18) rfl)
theorem q_659 : Cond.instanceMethod yX3_set ∈ ALL := kC20 _ (List.mem_of_getElem? (i := 19) rfl)
theorem q_660 : Cond.selects RX3 yX3_set yX3_set ∈ ALL := kC20 _ (List.mem_of_getElem? (i := 20) rfl)
theorem q_661 : Cond.methodLink RL 52 yX2_cell ∈ ALL := kC20 _ (List.mem_of_getElem? (i := 21) rfl)
theorem q_662 : Cond.instanceMethod yX2_cell ∈ ALL := kC20 _ (List.mem_of_getElem? (i := 22) rfl)
theorem q_663 : Cond.selects RX2 yX2_cell yX2_cell ∈ ALL := kC20 _ (List.mem_of_getElem? (i := 23) rfl)
theorem q_664 : Cond.methodLink RL 55 yX3_cell ∈ ALL := kC20 _ (List.mem_of_getElem? (i := 24) rfl)
theorem q_665 : Cond.instanceMethod yX3_cell ∈ ALL := kC20 _ (List.mem_of_getElem? (i := 25) rfl)
theorem q_666 : Cond.selects RX3 yX3_cell yX3_cell ∈ ALL := kC20 _ (List.mem_of_getElem? (i := 26) rfl)
theorem q_667 : Cond.methodLink RL 56 yX2_guard ∈ ALL := kC20 _ (List.mem_of_getElem? (i := 27) rfl)
theorem q_668 : Cond.instanceMethod yX2_guard ∈ ALL := kC20 _ (List.mem_of_getElem? (i := 28) rfl)
theorem q_669 : Cond.selects RX2 yX2_guard yX2_guard ∈ ALL := kC20 _ (List.mem_of_getElem? (i := 29) rfl)
theorem q_670 : Cond.methodLink RL 59 yX3_guard ∈ ALL := kC20 _ (List.mem_of_getElem? (i := 30) rfl)
theorem q_671 : Cond.instanceMethod yX3_guard ∈ ALL := kC20 _ (List.mem_of_getElem? (i := 31) rfl)
theorem q_672 : Cond.selects RX3 yX3_guard yX3_guard ∈ ALL := kC21 _ (List.mem_of_getElem? (i := 0) rfl)
theorem q_673 : Cond.methodLink RL 60 yX2_row ∈ ALL := kC21 _ (List.mem_of_getElem? (i := 1) rfl)
theorem q_674 : Cond.instanceMethod yX2_row ∈ ALL := kC21 _ (List.mem_of_getElem? (i := 2) rfl)
theorem q_675 : Cond.selects RX2 yX2_row yX2_row ∈ ALL := kC21 _ (List.mem_of_getElem? (i := 3) rfl)
theorem q_676 : Cond.methodLink RL 63 yX3_row ∈ ALL := kC21 _ (List.mem_of_getElem? (i := 4) rfl)
theorem q_677 : Cond.instanceMethod yX3_row ∈ ALL := kC21 _ (List.mem_of_getElem? (i := 5) rfl)
theorem q_678 : Cond.selects RX3 yX3_row yX3_row ∈ ALL := kC21 _ (List.mem_of_getElem? (i := 6) rfl)
theorem q_679 : Cond.methodLink RL 64 yX2_table ∈ ALL := kC21 _ (List.mem_of_getElem? (i := 7) rfl)
theorem q_680 : Cond.instanceMethod yX2_table ∈ ALL := kC21 _ (List.mem_of_getElem? (i := 8) rfl)
theorem q_681 : Cond.selects RX2 yX2_table yX2_table ∈ ALL := kC21 _ (List.mem_of_getElem? (i := 9) rfl)
theorem q_682 : Cond.methodLink RL 67 yX3_table ∈ ALL := kC21 _ (List.mem_of_getElem? (i := 10) rfl)
theorem q_683 : Cond.instanceMethod yX3_table ∈ ALL := kC21 _ (List.mem_of_getElem? (i := 11) rfl)
theorem q_684 : Cond.selects RX3 yX3_table yX3_table ∈ ALL := kC21 _ (List.mem_of_getElem? (i := 12) rfl)
theorem q_685 : Cond.methodLink RL 68 yX2_wrongIn ∈ ALL := kC21 _ (List.mem_of_getElem? (i := 13) rfl)
theorem q_686 : Cond.instanceMethod yX2_wrongIn ∈ ALL := kC21 _ (List.mem_of_getElem? (i := 14) rfl)
theorem q_687 : Cond.selects RX2 yX2_wrongIn yX2_wrongIn ∈ ALL := kC21 _ (List.mem_of_getElem? (i := 15) rfl)
theorem q_688 : Cond.methodLink RL 71 yX3_wrongIn ∈ ALL := kC21 _ (List.mem_of_getElem? (i := 16) rfl)
theorem q_689 : Cond.instanceMethod yX3_wrongIn ∈ ALL := kC21 _ (List.mem_of_getElem? (i := 17) rfl)
theorem q_690 : Cond.selects RX3 yX3_wrongIn yX3_wrongIn ∈ ALL := kC21 _ (List.mem_of_getElem? (i := 18) rfl)
theorem q_691 : Cond.methodLink RL 72 yX2_rightFor ∈ ALL := kC21 _ (List.mem_of_getElem? (i := 19) rfl)
theorem q_692 : Cond.instanceMethod yX2_rightFor ∈ ALL := kC21 _ (List.mem_of_getElem? (i := 20) rfl)
theorem q_693 : Cond.selects RX2 yX2_rightFor yX2_rightFor ∈ ALL := kC21 _ (List.mem_of_getElem? (i := 21) rfl)
theorem q_694 : Cond.methodLink RL 75 yX3_rightFor ∈ ALL := kC21 _ (List.mem_of_getElem? (i := 22) rfl)
theorem q_695 : Cond.instanceMethod yX3_rightFor ∈ ALL := kC21 _ (List.mem_of_getElem? (i := 23) rfl)
theorem q_696 : Cond.selects RX3 yX3_rightFor yX3_rightFor ∈ ALL := kC21 _ (List.mem_of_getElem? (i := 24) rfl)
theorem q_697 : Cond.methodLink RL 76 yX2_safeAge ∈ ALL := kC21 _ (List.mem_of_getElem? (i := 25) rfl)
theorem q_698 : Cond.instanceMethod yX2_safeAge ∈ ALL := kC21 _ (List.mem_of_getElem? (i := 26) rfl)
theorem q_699 : Cond.selects RX2 yX2_safeAge yX2_safeAge ∈ ALL := kC21 _ (List.mem_of_getElem? (i := 27) rfl)
theorem q_700 : Cond.methodLink RL 80 yX3_safeAge ∈ ALL := kC21 _ (List.mem_of_getElem? (i := 28) rfl)
theorem q_701 : Cond.instanceMethod yX3_safeAge ∈ ALL := kC21 _ (List.mem_of_getElem? (i := 29) rfl)
theorem q_702 : Cond.selects RX3 yX3_safeAge yX3_safeAge ∈ ALL := kC21 _ (List.mem_of_getElem? (i := 30) rfl)
theorem q_703 : Cond.methodLink RL 81 yX2_worst ∈ ALL := kC21 _ (List.mem_of_getElem? (i := 31) rfl)
theorem q_704 : Cond.instanceMethod yX2_worst ∈ ALL := kC22 _ (List.mem_of_getElem? (i := 0) rfl)
theorem q_705 : Cond.selects RX2 yX2_worst yX2_worst ∈ ALL := kC22 _ (List.mem_of_getElem? (i := 1) rfl)
theorem q_706 : Cond.methodLink RL 84 yX3_worst ∈ ALL := kC22 _ (List.mem_of_getElem? (i := 2) rfl)
theorem q_707 : Cond.instanceMethod yX3_worst ∈ ALL := kC22 _ (List.mem_of_getElem? (i := 3) rfl)
theorem q_708 : Cond.selects RX3 yX3_worst yX3_worst ∈ ALL := kC22 _ (List.mem_of_getElem? (i := 4) rfl)
theorem q_709 : Cond.methodLink RL 85 yX2_mean ∈ ALL := kC22 _ (List.mem_of_getElem? (i := 5) rfl)
theorem q_710 : Cond.instanceMethod yX2_mean ∈ ALL := kC22 _ (List.mem_of_getElem? (i := 6) rfl)
theorem q_711 : Cond.selects RX2 yX2_mean yX2_mean ∈ ALL := kC22 _ (List.mem_of_getElem? (i := 7) rfl)
theorem q_712 : Cond.methodLink RL 88 yX3_mean ∈ ALL := kC22 _ (List.mem_of_getElem? (i := 8) rfl)
theorem q_713 : Cond.instanceMethod yX3_mean ∈ ALL := kC22 _ (List.mem_of_getElem? (i := 9) rfl)
theorem q_714 : Cond.selects RX3 yX3_mean yX3_mean ∈ ALL := kC22 _ (List.mem_of_getElem? (i := 10) rfl)
theorem q_715 : Cond.methodLink RL 89 yX2_share ∈ ALL := kC22 _ (List.mem_of_getElem? (i := 11) rfl)
theorem q_716 : Cond.instanceMethod yX2_share ∈ ALL := kC22 _ (List.mem_of_getElem? (i := 12) rfl)
theorem q_717 : Cond.selects RX2 yX2_share yX2_share ∈ ALL := kC22 _ (List.mem_of_getElem? (i := 13) rfl)
theorem q_718 : Cond.methodLink RL 92 yX3_share ∈ ALL := kC22 _ (List.mem_of_getElem? (i := 14) rfl)
theorem q_719 : Cond.instanceMethod yX3_share ∈ ALL := kC22 _ (List.mem_of_getElem? (i := 15) rfl)
theorem q_720 : Cond.selects RX3 yX3_share yX3_share ∈ ALL := kC22 _ (List.mem_of_getElem? (i := 16) rfl)
theorem q_721 : Cond.methodLink RL 93 yX2_count ∈ ALL := kC22 _ (List.mem_of_getElem? (i := 17) rfl)
theorem q_722 : Cond.instanceMethod yX2_count ∈ ALL := kC22 _ (List.mem_of_getElem? (i := 18) rfl)
theorem q_723 : Cond.selects RX2 yX2_count yX2_count ∈ ALL := kC22 _ (List.mem_of_getElem? (i := 19) rfl)
theorem q_724 : Cond.methodLink RL 96 yX3_count ∈ ALL := kC22 _ (List.mem_of_getElem? (i := 20) rfl)
theorem q_725 : Cond.instanceMethod yX3_count ∈ ALL := kC22 _ (List.mem_of_getElem? (i := 21) rfl)
theorem q_726 : Cond.selects RX3 yX3_count yX3_count ∈ ALL := kC22 _ (List.mem_of_getElem? (i := 22) rfl)
theorem q_727 : Cond.methodLink RL 97 yX2_undo ∈ ALL := kC22 _ (List.mem_of_getElem? (i := 23) rfl)
theorem q_728 : Cond.instanceMethod yX2_undo ∈ ALL := kC22 _ (List.mem_of_getElem? (i := 24) rfl)
theorem q_729 : Cond.selects RX2 yX2_undo yX2_undo ∈ ALL := kC22 _ (List.mem_of_getElem? (i := 25) rfl)
theorem q_730 : Cond.methodLink RL 100 yX3_undo ∈ ALL := kC22 _ (List.mem_of_getElem? (i := 26) rfl)
theorem q_731 : Cond.instanceMethod yX3_undo ∈ ALL := kC22 _ (List.mem_of_getElem? (i := 27) rfl)
theorem q_732 : Cond.selects RX3 yX3_undo yX3_undo ∈ ALL := kC22 _ (List.mem_of_getElem? (i := 28) rfl)
theorem q_733 : Cond.methodLink RL 101 yX2_type ∈ ALL := kC22 _ (List.mem_of_getElem? (i := 29) rfl)
theorem q_734 : Cond.instanceMethod yX2_type ∈ ALL := kC22 _ (List.mem_of_getElem? (i := 30) rfl)
theorem q_735 : Cond.selects RX2 yX2_type yX2_type ∈ ALL := kC22 _ (List.mem_of_getElem? (i := 31) rfl)
theorem q_736 : Cond.methodLink RL 104 yX3_type ∈ ALL := kC23 _ (List.mem_of_getElem? (i := 0) rfl)
theorem q_737 : Cond.instanceMethod yX3_type ∈ ALL := kC23 _ (List.mem_of_getElem? (i := 1) rfl)
theorem q_738 : Cond.selects RX3 yX3_type yX3_type ∈ ALL := kC23 _ (List.mem_of_getElem? (i := 2) rfl)
theorem q_739 : Cond.methodLink RL 105 yX2_clearText ∈ ALL := kC23 _ (List.mem_of_getElem? (i := 3) rfl)
theorem q_740 : Cond.instanceMethod yX2_clearText ∈ ALL := kC23 _ (List.mem_of_getElem? (i := 4) rfl)
theorem q_741 : Cond.selects RX2 yX2_clearText yX2_clearText ∈ ALL := kC23 _ (List.mem_of_getElem? (i := 5) rfl)
theorem q_742 : Cond.methodLink RL 108 yX3_clearText ∈ ALL := kC23 _ (List.mem_of_getElem? (i := 6) rfl)
theorem q_743 : Cond.instanceMethod yX3_clearText ∈ ALL := kC23 _ (List.mem_of_getElem? (i := 7) rfl)
theorem q_744 : Cond.selects RX3 yX3_clearText yX3_clearText ∈ ALL := kC23 _ (List.mem_of_getElem? (i := 8) rfl)
theorem q_745 : Cond.methodLink RL 109 yX2_fault ∈ ALL := kC23 _ (List.mem_of_getElem? (i := 9) rfl)
theorem q_746 : Cond.instanceMethod yX2_fault ∈ ALL := kC23 _ (List.mem_of_getElem? (i := 10) rfl)
theorem q_747 : Cond.selects RX2 yX2_fault yX2_fault ∈ ALL := kC23 _ (List.mem_of_getElem? (i := 11) rfl)
theorem q_748 : Cond.methodLink RL 112 yX3_fault ∈ ALL := kC23 _ (List.mem_of_getElem? (i := 12) rfl)
theorem q_749 : Cond.instanceMethod yX3_fault ∈ ALL := kC23 _ (List.mem_of_getElem? (i := 13) rfl)
theorem q_750 : Cond.selects RX3 yX3_fault yX3_fault ∈ ALL := kC23 _ (List.mem_of_getElem? (i := 14) rfl)
theorem q_751 : Cond.methodLink RL 113 yX2_play ∈ ALL := kC23 _ (List.mem_of_getElem? (i := 15) rfl)
theorem q_752 : Cond.instanceMethod yX2_play ∈ ALL := kC23 _ (List.mem_of_getElem? (i := 16) rfl)
theorem q_753 : Cond.selects RX2 yX2_play yX2_play ∈ ALL := kC23 _ (List.mem_of_getElem? (i := 17) rfl)
theorem q_754 : Cond.methodLink RL 116 yX3_play ∈ ALL := kC23 _ (List.mem_of_getElem? (i := 18) rfl)
theorem q_755 : Cond.instanceMethod yX3_play ∈ ALL := kC23 _ (List.mem_of_getElem? (i := 19) rfl)
theorem q_756 : Cond.selects RX3 yX3_play yX3_play ∈ ALL := kC23 _ (List.mem_of_getElem? (i := 20) rfl)
abbrev wsY (y : MethodName) (cc : ByteArray) (maxL : Nat) (ret : Option FieldType) : List Cond := .code y cc maxL ret :: ALL
theorem gSelf {c0 : Cond} {y : MethodName} {cc : ByteArray} {maxL : Nat} {ret : Option FieldType} (h : .code y cc maxL ret ∈ ALL) : GoodIn (c0 :: ALL) (wsY y cc maxL ret) := fun w hw => by
  have hA : w ∈ ALL := (List.mem_cons.mp hw).elim (fun e => e ▸ h) (fun e => e)
  exact ⟨List.mem_cons_of_mem _ hA, good_of_word (List.all_eq_true.mp gALL w hA)⟩
theorem gV {c0 : Cond} {own C : String} {idx : Nat} {y : MethodName} {cc : ByteArray} {maxL : Nat} {ret : Option FieldType} (h1 : .methodLink own idx y ∈ ALL) (h2 : .instanceMethod y ∈ ALL) (h3 : .selects C y y ∈ ALL) (h4 : .initialized C ∈ ALL) (h5 : .code y cc maxL ret ∈ ALL) : GoodIn (c0 :: ALL) (wsV own idx C y (wsY y cc maxL ret)) := by
  refine goodIn_app (fun w hw => ?_) (gSelf h5)
  have hA : w ∈ ALL := by
    simp only [List.mem_cons, List.not_mem_nil, or_false] at hw
    rcases hw with rfl | rfl | rfl | rfl <;> assumption
  exact ⟨List.mem_cons_of_mem _ hA, good_of_word (List.all_eq_true.mp gALL w hA)⟩
theorem gS {c0 : Cond} {own : String} {idx : Nat} {y : MethodName} {cc : ByteArray} {maxL : Nat} {ret : Option FieldType} (h1 : .methodLink own idx y ∈ ALL) (h2 : .static y ∈ ALL) (h4 : .initialized y.cls ∈ ALL) (h5 : .code y cc maxL ret ∈ ALL) : GoodIn (c0 :: ALL) (va_wsS own idx y (wsY y cc maxL ret)) := by
  refine goodIn_app (fun w hw => ?_) (gSelf h5)
  have hA : w ∈ ALL := by
    simp only [List.mem_cons, List.not_mem_nil, or_false] at hw
    rcases hw with rfl | rfl | rfl <;> assumption
  exact ⟨List.mem_cons_of_mem _ hA, good_of_word (List.all_eq_true.mp gALL w hA)⟩
end
section
/-! whole numbers for ints: iI z is the int of z; rows of instructions over them -/
def iI (z : Int) : Int32 := Int32.ofInt z
theorem iI_ex (x : Int32) : ∃ z : Int, (-2147483648 ≤ z ∧ z < 2147483648) ∧ x = iI z := ⟨x.toInt, ⟨x.le_toInt, x.toInt_lt⟩, (Int32.ofInt_toInt x).symm⟩
theorem iI_t {z : Int} (h : -2147483648 ≤ z ∧ z < 2147483648) : (iI z).toInt = z := Int32.toInt_ofInt_of_le h.1 h.2
theorem iI_le {a b : Int} (ha : -2147483648 ≤ a ∧ a < 2147483648) (hb : -2147483648 ≤ b ∧ b < 2147483648) : iI a ≤ iI b ↔ a ≤ b := by
  rw [Int32.le_iff_toInt_le, iI_t ha, iI_t hb]
theorem iI_lt {a b : Int} (ha : -2147483648 ≤ a ∧ a < 2147483648) (hb : -2147483648 ≤ b ∧ b < 2147483648) : iI a < iI b ↔ a < b := by
  rw [Int32.lt_iff_toInt_lt, iI_t ha, iI_t hb]
theorem iI_eq {a b : Int} (ha : -2147483648 ≤ a ∧ a < 2147483648) (hb : -2147483648 ≤ b ∧ b < 2147483648) : iI a = iI b ↔ a = b :=
  ⟨fun h => by rw [← iI_t ha, ← iI_t hb, h], fun h => by rw [h]⟩
theorem iI_0 : iI 0 = 0 := by decide +kernel
theorem iI_clamp {z : Int} (h0 : 0 ≤ z) (h1 : z < 2147483648) : (iI z).toNatClampNeg = z.toNat := Int32.toNatClampNeg_ofInt_of_le (by omega) h1
theorem iI_in {z : Int} {n : Nat} (h0 : 0 ≤ z) (h1 : z < (n : Int)) (hn : n < 2147483648) : vp_in (iI z) n := by
  rw [vp_in_iff, iI_t (by omega)]; exact ⟨h0, h1⟩
theorem iI_add (a b : Int) : iI a + iI b = iI (a + b) := (Int32.ofInt_add a b).symm
theorem iI_sub (a b : Int) : iI a - iI b = iI (a - b) := (Int32.ofInt_sub a b).symm
theorem iI_mul (a b : Int) : iI a * iI b = iI (a * b) := (Int32.ofInt_mul a b).symm
theorem iI_neg (a : Int) : -iI a = iI (-a) := (Int32.ofInt_neg a).symm
theorem iI_div {a b : Int} (h0 : 0 ≤ a ∧ a < 2147483648) (h2 : 0 < b ∧ b < 2147483648) : iI a / iI b = iI (a / b) := by
  have hq : 0 ≤ a / b := Int.ediv_nonneg h0.1 (by omega)
  have hq2 : a / b ≤ a := Int.ediv_le_self b h0.1
  apply Int32.toInt_inj.mp
  rw [Int32.toInt_div_of_ne_right _ _ (fun h => by
    have h3 := iI_t (z := b) (by omega)
    rw [h] at h3
    have h4 : (-1 : Int32).toInt = -1 := by decide
    omega), iI_t (by omega), iI_t (by omega), iI_t (by omega), Int.tdiv_eq_ediv_of_nonneg h0.1]
theorem iI_rem {a b : Int} (h0 : 0 ≤ a ∧ a < 2147483648) (h2 : 0 < b ∧ b < 2147483648) : iI a - iI a / iI b * iI b = iI (a % b) := by
  rw [iI_div h0 h2, iI_mul, iI_sub, Int.emod_def, Int.mul_comm b]
theorem iI_ne0 {b : Int} (h2 : 0 < b ∧ b < 2147483648) : ¬ iI b = 0 := by
  rw [← iI_0, iI_eq (by omega) (by omega)]; omega
/-- an array's contents by whole numbers -/
def aI (F : Int → Int) : Nat → Int32 := fun j => iI (F (j : Int))
def upI (F : Int → Int) (z v : Int) : Int → Int := fun j => if j = z then v else F j
theorem upI_s (F : Int → Int) (z v : Int) : upI F z v z = v := if_pos rfl
theorem upI_n {F : Int → Int} {z v j : Int} (h : j ≠ z) : upI F z v j = F j := if_neg h
theorem aI_up {F : Int → Int} {z v : Int} (h0 : 0 ≤ z) (h1 : z < 2147483648) : upd (aI F) (iI z).toNatClampNeg (iI v) = aI (upI F z v) := by
  rw [iI_clamp h0 h1]
  funext j
  unfold upd aI upI
  by_cases h : j = z.toNat
  · rw [if_pos h, if_pos (by omega)]
  · rw [if_neg h, if_neg (by omega)]
section ZR
variable {p : Program} {l : Launch} {e : Env} {R : Room} {s : State} {m : MethodId} {args : Array Value} {below : List Frame} {meth : Method} {c : Code} {H : Heap} {locs : List Loc} {cells slots : Nat} {Q : State → Prop}
variable {cc : ByteArray} {pc : Nat} {ls : Array Slot} {rest : List Value}
theorem z_iconst (hexec : p.tables.exec = Jvm.exec) (hb : c.code = cc) {n : Int} (hdg : decode cc pc = .ok (.iconst n, 1)) (k : W p l e R s m args below meth c H locs cells slots Q (F0 m (pc + 1) ls (.int (iI n) :: rest))) : W p l e R s m args below meth c H locs cells slots Q (F0 m pc ls rest) :=
  lv_iconst hexec hb hdg rfl k
theorem z_bipush (hexec : p.tables.exec = Jvm.exec) (hb : c.code = cc) {n : Int} (hdg : decode cc pc = .ok (.bipush n, 2)) (hv : (Int8.ofInt n).toInt32 = iI n) (k : W p l e R s m args below meth c H locs cells slots Q (F0 m (pc + 2) ls (.int (iI n) :: rest))) : W p l e R s m args below meth c H locs cells slots Q (F0 m pc ls rest) :=
  lv_bipush hexec hb hdg hv k
theorem z_sipush (hexec : p.tables.exec = Jvm.exec) (hb : c.code = cc) {n : Int} (hdg : decode cc pc = .ok (.sipush n, 3)) (hv : (Int16.ofInt n).toInt32 = iI n) (k : W p l e R s m args below meth c H locs cells slots Q (F0 m (pc + 3) ls (.int (iI n) :: rest))) : W p l e R s m args below meth c H locs cells slots Q (F0 m pc ls rest) :=
  lv_sipush hexec hb hdg hv k
theorem z_iadd (hexec : p.tables.exec = Jvm.exec) (hb : c.code = cc) {a b : Int} (hdg : decode cc pc = .ok (.iadd, 1)) (k : W p l e R s m args below meth c H locs cells slots Q (F0 m (pc + 1) ls (.int (iI (a + b)) :: rest))) : W p l e R s m args below meth c H locs cells slots Q (F0 m pc ls (.int (iI b) :: .int (iI a) :: rest)) :=
  lv_iadd hexec hb hdg (by rw [iI_add]; exact k)
theorem z_isub (hexec : p.tables.exec = Jvm.exec) (hb : c.code = cc) {a b : Int} (hdg : decode cc pc = .ok (.isub, 1)) (k : W p l e R s m args below meth c H locs cells slots Q (F0 m (pc + 1) ls (.int (iI (a - b)) :: rest))) : W p l e R s m args below meth c H locs cells slots Q (F0 m pc ls (.int (iI b) :: .int (iI a) :: rest)) :=
  lv_isub hexec hb hdg (by rw [iI_sub]; exact k)
theorem z_imul (hexec : p.tables.exec = Jvm.exec) (hb : c.code = cc) {a b : Int} (hdg : decode cc pc = .ok (.imul, 1)) (k : W p l e R s m args below meth c H locs cells slots Q (F0 m (pc + 1) ls (.int (iI (a * b)) :: rest))) : W p l e R s m args below meth c H locs cells slots Q (F0 m pc ls (.int (iI b) :: .int (iI a) :: rest)) :=
  lv_imul hexec hb hdg (by rw [iI_mul]; exact k)
theorem z_ineg (hexec : p.tables.exec = Jvm.exec) (hb : c.code = cc) {a : Int} (hdg : decode cc pc = .ok (.ineg, 1)) (k : W p l e R s m args below meth c H locs cells slots Q (F0 m (pc + 1) ls (.int (iI (-a)) :: rest))) : W p l e R s m args below meth c H locs cells slots Q (F0 m pc ls (.int (iI a) :: rest)) :=
  lv_ineg hexec hb hdg (by rw [iI_neg]; exact k)
theorem z_idiv (hexec : p.tables.exec = Jvm.exec) (hb : c.code = cc) {a b : Int} (hdg : decode cc pc = .ok (.idiv, 1)) (h0 : 0 ≤ a ∧ a < 2147483648) (h2 : 0 < b ∧ b < 2147483648) (k : W p l e R s m args below meth c H locs cells slots Q (F0 m (pc + 1) ls (.int (iI (a / b)) :: rest))) : W p l e R s m args below meth c H locs cells slots Q (F0 m pc ls (.int (iI b) :: .int (iI a) :: rest)) :=
  lv_idiv hexec hb hdg (iI_ne0 h2) (by rw [iI_div h0 h2]; exact k)
theorem z_irem (hexec : p.tables.exec = Jvm.exec) (hb : c.code = cc) {a b : Int} (hdg : decode cc pc = .ok (.irem, 1)) (h0 : 0 ≤ a ∧ a < 2147483648) (h2 : 0 < b ∧ b < 2147483648) (k : W p l e R s m args below meth c H locs cells slots Q (F0 m (pc + 1) ls (.int (iI (a % b)) :: rest))) : W p l e R s m args below meth c H locs cells slots Q (F0 m pc ls (.int (iI b) :: .int (iI a) :: rest)) :=
  lv_irem hexec hb hdg (iI_ne0 h2) (by rw [iI_rem h0 h2]; exact k)
theorem z_as {a b : Int} (h : a = b) (k : W p l e R s m args below meth c H locs cells slots Q (F0 m pc ls (.int (iI b) :: rest))) : W p l e R s m args below meth c H locs cells slots Q (F0 m pc ls (.int (iI a) :: rest)) := by rw [h]; exact k
theorem z_ldc (hexec : p.tables.exec = Jvm.exec) (hb : c.code = cc) {own : String} {index : Nat} (z : Int) {v : Int32} (hv : v = iI z) (hown : s.vm.findClass own = some m.cls) (hconst : (Jvm.Cond.constant own index v).before args s = true) (hdg : decode cc pc = .ok (.ldc index, 2)) (k : W p l e R s m args below meth c H locs cells slots Q (F0 m (pc + 2) ls (.int (iI z) :: rest))) : W p l e R s m args below meth c H locs cells slots Q (F0 m pc ls rest) :=
  lv_ldc hexec hb hown hconst hdg (by rw [hv]; exact k)
theorem z_icmp_eq (hexec : p.tables.exec = Jvm.exec) (hb : c.code = cc) {a b : Int} {off : Int} {tgt : Nat} (hdg : decode cc pc = .ok (.if_icmp .eq off, 3)) (ht : (pc : Int) + off = (tgt : Int)) (ha : (-2147483648 ≤ a ∧ a < 2147483648)) (hc : (-2147483648 ≤ b ∧ b < 2147483648)) (kt : a = b → W p l e R s m args below meth c H locs cells slots Q (F0 m tgt ls rest)) (kf : a ≠ b → W p l e R s m args below meth c H locs cells slots Q (F0 m (pc + 3) ls rest)) : W p l e R s m args below meth c H locs cells slots Q (F0 m pc ls (.int (iI b) :: .int (iI a) :: rest)) :=
  lv_icmp_eq (tgt := tgt) hexec hb hdg ht (fun h => kt (by have h2 := iI_eq ha hc; first | exact h2.mp h | exact fun q => h (h2.mpr q))) (fun h => kf (by have h2 := iI_eq ha hc; first | exact fun q => h (h2.mpr q) | exact h2.mp h | exact Int.not_le.mp (fun q => h (h2.mpr q)) | exact Int.not_lt.mp (fun q => h (h2.mpr q)) | exact Decidable.byContradiction (fun q => h (fun r => q (h2.mp r)))))
theorem z_icmp_ne (hexec : p.tables.exec = Jvm.exec) (hb : c.code = cc) {a b : Int} {off : Int} {tgt : Nat} (hdg : decode cc pc = .ok (.if_icmp .ne off, 3)) (ht : (pc : Int) + off = (tgt : Int)) (ha : (-2147483648 ≤ a ∧ a < 2147483648)) (hc : (-2147483648 ≤ b ∧ b < 2147483648)) (kt : a ≠ b → W p l e R s m args below meth c H locs cells slots Q (F0 m tgt ls rest)) (kf : a = b → W p l e R s m args below meth c H locs cells slots Q (F0 m (pc + 3) ls rest)) : W p l e R s m args below meth c H locs cells slots Q (F0 m pc ls (.int (iI b) :: .int (iI a) :: rest)) :=
  lv_icmp_ne (tgt := tgt) hexec hb hdg ht (fun h => kt (by have h2 := iI_eq ha hc; first | exact h2.mp h | exact fun q => h (h2.mpr q))) (fun h => kf (by have h2 := iI_eq ha hc; first | exact fun q => h (h2.mpr q) | exact h2.mp h | exact Int.not_le.mp (fun q => h (h2.mpr q)) | exact Int.not_lt.mp (fun q => h (h2.mpr q)) | exact Decidable.byContradiction (fun q => h (fun r => q (h2.mp r)))))
theorem z_icmp_lt (hexec : p.tables.exec = Jvm.exec) (hb : c.code = cc) {a b : Int} {off : Int} {tgt : Nat} (hdg : decode cc pc = .ok (.if_icmp .lt off, 3)) (ht : (pc : Int) + off = (tgt : Int)) (ha : (-2147483648 ≤ a ∧ a < 2147483648)) (hc : (-2147483648 ≤ b ∧ b < 2147483648)) (kt : a < b → W p l e R s m args below meth c H locs cells slots Q (F0 m tgt ls rest)) (kf : b ≤ a → W p l e R s m args below meth c H locs cells slots Q (F0 m (pc + 3) ls rest)) : W p l e R s m args below meth c H locs cells slots Q (F0 m pc ls (.int (iI b) :: .int (iI a) :: rest)) :=
  lv_icmp_lt (tgt := tgt) hexec hb hdg ht (fun h => kt (by have h2 := iI_lt ha hc; first | exact h2.mp h | exact fun q => h (h2.mpr q))) (fun h => kf (by have h2 := iI_lt ha hc; first | exact fun q => h (h2.mpr q) | exact h2.mp h | exact Int.not_le.mp (fun q => h (h2.mpr q)) | exact Int.not_lt.mp (fun q => h (h2.mpr q)) | exact Decidable.byContradiction (fun q => h (fun r => q (h2.mp r)))))
theorem z_icmp_ge (hexec : p.tables.exec = Jvm.exec) (hb : c.code = cc) {a b : Int} {off : Int} {tgt : Nat} (hdg : decode cc pc = .ok (.if_icmp .ge off, 3)) (ht : (pc : Int) + off = (tgt : Int)) (ha : (-2147483648 ≤ a ∧ a < 2147483648)) (hc : (-2147483648 ≤ b ∧ b < 2147483648)) (kt : b ≤ a → W p l e R s m args below meth c H locs cells slots Q (F0 m tgt ls rest)) (kf : a < b → W p l e R s m args below meth c H locs cells slots Q (F0 m (pc + 3) ls rest)) : W p l e R s m args below meth c H locs cells slots Q (F0 m pc ls (.int (iI b) :: .int (iI a) :: rest)) :=
  lv_icmp_ge (tgt := tgt) hexec hb hdg ht (fun h => kt (by have h2 := iI_le hc ha; first | exact h2.mp h | exact fun q => h (h2.mpr q))) (fun h => kf (by have h2 := iI_le hc ha; first | exact fun q => h (h2.mpr q) | exact h2.mp h | exact Int.not_le.mp (fun q => h (h2.mpr q)) | exact Int.not_lt.mp (fun q => h (h2.mpr q)) | exact Decidable.byContradiction (fun q => h (fun r => q (h2.mp r)))))
theorem z_icmp_gt (hexec : p.tables.exec = Jvm.exec) (hb : c.code = cc) {a b : Int} {off : Int} {tgt : Nat} (hdg : decode cc pc = .ok (.if_icmp .gt off, 3)) (ht : (pc : Int) + off = (tgt : Int)) (ha : (-2147483648 ≤ a ∧ a < 2147483648)) (hc : (-2147483648 ≤ b ∧ b < 2147483648)) (kt : b < a → W p l e R s m args below meth c H locs cells slots Q (F0 m tgt ls rest)) (kf : a ≤ b → W p l e R s m args below meth c H locs cells slots Q (F0 m (pc + 3) ls rest)) : W p l e R s m args below meth c H locs cells slots Q (F0 m pc ls (.int (iI b) :: .int (iI a) :: rest)) :=
  lv_icmp_gt (tgt := tgt) hexec hb hdg ht (fun h => kt (by have h2 := iI_lt hc ha; first | exact h2.mp h | exact fun q => h (h2.mpr q))) (fun h => kf (by have h2 := iI_lt hc ha; first | exact fun q => h (h2.mpr q) | exact h2.mp h | exact Int.not_le.mp (fun q => h (h2.mpr q)) | exact Int.not_lt.mp (fun q => h (h2.mpr q)) | exact Decidable.byContradiction (fun q => h (fun r => q (h2.mp r)))))
theorem z_icmp_le (hexec : p.tables.exec = Jvm.exec) (hb : c.code = cc) {a b : Int} {off : Int} {tgt : Nat} (hdg : decode cc pc = .ok (.if_icmp .le off, 3)) (ht : (pc : Int) + off = (tgt : Int)) (ha : (-2147483648 ≤ a ∧ a < 2147483648)) (hc : (-2147483648 ≤ b ∧ b < 2147483648)) (kt : a ≤ b → W p l e R s m args below meth c H locs cells slots Q (F0 m tgt ls rest)) (kf : b < a → W p l e R s m args below meth c H locs cells slots Q (F0 m (pc + 3) ls rest)) : W p l e R s m args below meth c H locs cells slots Q (F0 m pc ls (.int (iI b) :: .int (iI a) :: rest)) :=
  lv_icmp_le (tgt := tgt) hexec hb hdg ht (fun h => kt (by have h2 := iI_le ha hc; first | exact h2.mp h | exact fun q => h (h2.mpr q))) (fun h => kf (by have h2 := iI_le ha hc; first | exact fun q => h (h2.mpr q) | exact h2.mp h | exact Int.not_le.mp (fun q => h (h2.mpr q)) | exact Int.not_lt.mp (fun q => h (h2.mpr q)) | exact Decidable.byContradiction (fun q => h (fun r => q (h2.mp r)))))
theorem z_if_eq (hexec : p.tables.exec = Jvm.exec) (hb : c.code = cc) {a : Int} {off : Int} {tgt : Nat} (hdg : decode cc pc = .ok (.ifCond .eq off, 3)) (ht : (pc : Int) + off = (tgt : Int)) (ha : (-2147483648 ≤ a ∧ a < 2147483648)) (kt : a = 0 → W p l e R s m args below meth c H locs cells slots Q (F0 m tgt ls rest)) (kf : a ≠ 0 → W p l e R s m args below meth c H locs cells slots Q (F0 m (pc + 3) ls rest)) : W p l e R s m args below meth c H locs cells slots Q (F0 m pc ls (.int (iI a) :: rest)) := by
  have h00 : (-2147483648 ≤ (0 : Int) ∧ (0 : Int) < 2147483648) := by omega
  have h2 := iI_eq ha h00
  rw [iI_0] at h2
  exact lv_if_eq (tgt := tgt) hexec hb hdg ht (fun h => kt (by first | exact h2.mp h | exact fun q => h (h2.mpr q))) (fun h => kf (by first | exact fun q => h (h2.mpr q) | exact h2.mp h | exact Int.not_le.mp (fun q => h (h2.mpr q)) | exact Int.not_lt.mp (fun q => h (h2.mpr q)) | exact Decidable.byContradiction (fun q => h (fun r => q (h2.mp r)))))
theorem z_if_ne (hexec : p.tables.exec = Jvm.exec) (hb : c.code = cc) {a : Int} {off : Int} {tgt : Nat} (hdg : decode cc pc = .ok (.ifCond .ne off, 3)) (ht : (pc : Int) + off = (tgt : Int)) (ha : (-2147483648 ≤ a ∧ a < 2147483648)) (kt : a ≠ 0 → W p l e R s m args below meth c H locs cells slots Q (F0 m tgt ls rest)) (kf : a = 0 → W p l e R s m args below meth c H locs cells slots Q (F0 m (pc + 3) ls rest)) : W p l e R s m args below meth c H locs cells slots Q (F0 m pc ls (.int (iI a) :: rest)) := by
  have h00 : (-2147483648 ≤ (0 : Int) ∧ (0 : Int) < 2147483648) := by omega
  have h2 := iI_eq ha h00
  rw [iI_0] at h2
  exact lv_if_ne (tgt := tgt) hexec hb hdg ht (fun h => kt (by first | exact h2.mp h | exact fun q => h (h2.mpr q))) (fun h => kf (by first | exact fun q => h (h2.mpr q) | exact h2.mp h | exact Int.not_le.mp (fun q => h (h2.mpr q)) | exact Int.not_lt.mp (fun q => h (h2.mpr q)) | exact Decidable.byContradiction (fun q => h (fun r => q (h2.mp r)))))
theorem z_if_lt (hexec : p.tables.exec = Jvm.exec) (hb : c.code = cc) {a : Int} {off : Int} {tgt : Nat} (hdg : decode cc pc = .ok (.ifCond .lt off, 3)) (ht : (pc : Int) + off = (tgt : Int)) (ha : (-2147483648 ≤ a ∧ a < 2147483648)) (kt : a < 0 → W p l e R s m args below meth c H locs cells slots Q (F0 m tgt ls rest)) (kf : 0 ≤ a → W p l e R s m args below meth c H locs cells slots Q (F0 m (pc + 3) ls rest)) : W p l e R s m args below meth c H locs cells slots Q (F0 m pc ls (.int (iI a) :: rest)) := by
  have h00 : (-2147483648 ≤ (0 : Int) ∧ (0 : Int) < 2147483648) := by omega
  have h2 := iI_lt ha h00
  rw [iI_0] at h2
  exact lv_if_lt (tgt := tgt) hexec hb hdg ht (fun h => kt (by first | exact h2.mp h | exact fun q => h (h2.mpr q))) (fun h => kf (by first | exact fun q => h (h2.mpr q) | exact h2.mp h | exact Int.not_le.mp (fun q => h (h2.mpr q)) | exact Int.not_lt.mp (fun q => h (h2.mpr q)) | exact Decidable.byContradiction (fun q => h (fun r => q (h2.mp r)))))
theorem z_if_ge (hexec : p.tables.exec = Jvm.exec) (hb : c.code = cc) {a : Int} {off : Int} {tgt : Nat} (hdg : decode cc pc = .ok (.ifCond .ge off, 3)) (ht : (pc : Int) + off = (tgt : Int)) (ha : (-2147483648 ≤ a ∧ a < 2147483648)) (kt : 0 ≤ a → W p l e R s m args below meth c H locs cells slots Q (F0 m tgt ls rest)) (kf : a < 0 → W p l e R s m args below meth c H locs cells slots Q (F0 m (pc + 3) ls rest)) : W p l e R s m args below meth c H locs cells slots Q (F0 m pc ls (.int (iI a) :: rest)) := by
  have h00 : (-2147483648 ≤ (0 : Int) ∧ (0 : Int) < 2147483648) := by omega
  have h2 := iI_le h00 ha
  rw [iI_0] at h2
  exact lv_if_ge (tgt := tgt) hexec hb hdg ht (fun h => kt (by first | exact h2.mp h | exact fun q => h (h2.mpr q))) (fun h => kf (by first | exact fun q => h (h2.mpr q) | exact h2.mp h | exact Int.not_le.mp (fun q => h (h2.mpr q)) | exact Int.not_lt.mp (fun q => h (h2.mpr q)) | exact Decidable.byContradiction (fun q => h (fun r => q (h2.mp r)))))
theorem z_if_gt (hexec : p.tables.exec = Jvm.exec) (hb : c.code = cc) {a : Int} {off : Int} {tgt : Nat} (hdg : decode cc pc = .ok (.ifCond .gt off, 3)) (ht : (pc : Int) + off = (tgt : Int)) (ha : (-2147483648 ≤ a ∧ a < 2147483648)) (kt : 0 < a → W p l e R s m args below meth c H locs cells slots Q (F0 m tgt ls rest)) (kf : a ≤ 0 → W p l e R s m args below meth c H locs cells slots Q (F0 m (pc + 3) ls rest)) : W p l e R s m args below meth c H locs cells slots Q (F0 m pc ls (.int (iI a) :: rest)) := by
  have h00 : (-2147483648 ≤ (0 : Int) ∧ (0 : Int) < 2147483648) := by omega
  have h2 := iI_lt h00 ha
  rw [iI_0] at h2
  exact lv_if_gt (tgt := tgt) hexec hb hdg ht (fun h => kt (by first | exact h2.mp h | exact fun q => h (h2.mpr q))) (fun h => kf (by first | exact fun q => h (h2.mpr q) | exact h2.mp h | exact Int.not_le.mp (fun q => h (h2.mpr q)) | exact Int.not_lt.mp (fun q => h (h2.mpr q)) | exact Decidable.byContradiction (fun q => h (fun r => q (h2.mp r)))))
theorem z_if_le (hexec : p.tables.exec = Jvm.exec) (hb : c.code = cc) {a : Int} {off : Int} {tgt : Nat} (hdg : decode cc pc = .ok (.ifCond .le off, 3)) (ht : (pc : Int) + off = (tgt : Int)) (ha : (-2147483648 ≤ a ∧ a < 2147483648)) (kt : a ≤ 0 → W p l e R s m args below meth c H locs cells slots Q (F0 m tgt ls rest)) (kf : 0 < a → W p l e R s m args below meth c H locs cells slots Q (F0 m (pc + 3) ls rest)) : W p l e R s m args below meth c H locs cells slots Q (F0 m pc ls (.int (iI a) :: rest)) := by
  have h00 : (-2147483648 ≤ (0 : Int) ∧ (0 : Int) < 2147483648) := by omega
  have h2 := iI_le ha h00
  rw [iI_0] at h2
  exact lv_if_le (tgt := tgt) hexec hb hdg ht (fun h => kt (by first | exact h2.mp h | exact fun q => h (h2.mpr q))) (fun h => kf (by first | exact fun q => h (h2.mpr q) | exact h2.mp h | exact Int.not_le.mp (fun q => h (h2.mpr q)) | exact Int.not_lt.mp (fun q => h (h2.mpr q)) | exact Decidable.byContradiction (fun q => h (fun r => q (h2.mp r)))))
theorem z_iald {D : va_G} {cl : List vw_C} {a : Nat} {tys : List (ClassId × FieldType)} {ws : va_W} (hexec : p.tables.exec = Jvm.exec) (hb : c.code = cc) (hK : va_K D cl tys s) (hP : va_P D cl ws H) (q0 t0 : Nat) {cA : ClassId} {n : Nat} {F : Int → Int} (ha : ws[q0]? = some (a, .inl (cA, n, .inl (aI F)))) (ht : tys[t0]? = some (cA, .int)) {z : Int} (h0 : 0 ≤ z ∧ z < (n : Int)) (hn : n < 2147483648) {v : Int} (hv : F z = v) (hdg : decode cc pc = .ok (.iaload, 1))
    (kk : W p l e R s m args below meth c H locs cells slots Q (F0 m (pc + 1) ls (.int (iI v) :: rest))) : W p l e R s m args below meth c H locs cells slots Q (F0 m pc ls (.int (iI z) :: .ref a :: rest)) :=
  va_iald hexec hb hK hP q0 t0 ha ht (iI_in h0.1 h0.2 hn) hdg (by
    have hz : ((z.toNat : Nat) : Int) = z := by omega
    rw [iI_clamp h0.1 (by omega)]
    show W p l e R s m args below meth c H locs cells slots Q (F0 m (pc + 1) ls (.int (iI (F ((z.toNat : Nat) : Int))) :: rest))
    rw [hz, hv]; exact kk)
theorem z_iast {D : va_G} {cl : List vw_C} {A : Nat → Prop} {a : Nat} {tys : List (ClassId × FieldType)} {ws w1 : va_W} {H0 : Heap} (hexec : p.tables.exec = Jvm.exec) (hb : c.code = cc) (hK : va_K D cl tys s) (hP : va_P D cl ws H) (hD : va_D A ws) (hS : va_S A H0 H locs) (q0 t0 : Nat) {cA : ClassId} {n : Nat} {F : Int → Int} (ha : ws[q0]? = some (a, .inl (cA, n, .inl (aI F)))) (ht : tys[t0]? = some (cA, .int)) {z v : Int} (h0 : 0 ≤ z ∧ z < (n : Int)) (hn : n < 2147483648) (hw : ws.set q0 (a, .inl (cA, n, .inl (aI (upI F z v)))) = w1) (hdg : decode cc pc = .ok (.iastore, 1))
    (kk : ∀ (H1 : Heap) (locs1 : List Loc), va_P D cl w1 H1 → va_D A w1 → va_S A H0 H1 locs1 → W p l e R s m args below meth c H1 locs1 cells slots Q (F0 m (pc + 1) ls rest)) : W p l e R s m args below meth c H locs cells slots Q (F0 m pc ls (.int (iI v) :: .int (iI z) :: .ref a :: rest)) := by
  refine va_iast hexec hb hK hP hD hS q0 t0 ha ht (iI_in h0.1 h0.2 hn) hdg ?_
  rw [aI_up h0.1 (by omega), hw]
  exact kk
theorem z_mmax (hexec : p.tables.exec = Jvm.exec) (hb : c.code = cc) (hml : c.maxLocals = ls.size) {own : String} {index : Nat} (hown : s.vm.findClass own = some m.cls) (hlink : (Cond.methodLink own index Lib.Math.max.name).before args s = true) (hstat : (Cond.static Lib.Math.max.name).before args s = true) (hini : (Cond.initialized "java/lang/Math").before args s = true) (hcode : (Cond.code Lib.Math.max.name Lib.Math.max.code 2 (some .int)).before args s = true)
    (hframes : 1 ≤ R.frames) (hlocals : 21 ≤ R.locals) (hc : cells ≤ R.cells) (hs : slots ≤ R.slots) {a b : Int} (ha : -2147483648 ≤ a ∧ a < 2147483648) (hbb : -2147483648 ≤ b ∧ b < 2147483648) (hrest : (rest.map fun v => v.category).sum ≤ 8) (hdg : decode cc pc = .ok (.invokestatic index, 3))
    (kk : W p l e R s m args below meth c H locs cells slots Q (F0 m (pc + 3) ls (.int (iI (if a < b then b else a)) :: rest))) : W p l e R s m args below meth c H locs cells slots Q (F0 m pc ls (.int (iI b) :: .int (iI a) :: rest)) := by
  refine va_mmax hexec hb hml hown hlink hstat hini hcode hframes (by omega) hc hs hdg ?_
  have e1 := iI_lt ha hbb
  by_cases h : a < b
  · rw [if_pos (e1.mpr h)]; rw [if_pos h] at kk; exact kk
  · rw [if_neg (fun q => h (e1.mp q))]; rw [if_neg h] at kk; exact kk
theorem z_mmin (hexec : p.tables.exec = Jvm.exec) (hb : c.code = cc) (hml : c.maxLocals = ls.size) {own : String} {index : Nat} (hown : s.vm.findClass own = some m.cls) (hlink : (Cond.methodLink own index Lib.Math.min.name).before args s = true) (hstat : (Cond.static Lib.Math.min.name).before args s = true) (hini : (Cond.initialized "java/lang/Math").before args s = true) (hcode : (Cond.code Lib.Math.min.name Lib.Math.min.code 2 (some .int)).before args s = true)
    (hframes : 1 ≤ R.frames) (hlocals : 21 ≤ R.locals) (hc : cells ≤ R.cells) (hs : slots ≤ R.slots) {a b : Int} (ha : -2147483648 ≤ a ∧ a < 2147483648) (hbb : -2147483648 ≤ b ∧ b < 2147483648) (hrest : (rest.map fun v => v.category).sum ≤ 8) (hdg : decode cc pc = .ok (.invokestatic index, 3))
    (kk : W p l e R s m args below meth c H locs cells slots Q (F0 m (pc + 3) ls (.int (iI (if b < a then b else a)) :: rest))) : W p l e R s m args below meth c H locs cells slots Q (F0 m pc ls (.int (iI b) :: .int (iI a) :: rest)) := by
  refine va_mmin hexec hb hml hown hlink hstat hini hcode hframes (by omega) hc hs hdg ?_
  have e1 := iI_lt hbb ha
  by_cases h : b < a
  · rw [if_pos (e1.mpr h)]; rw [if_pos h] at kk; exact kk
  · rw [if_neg (fun q => h (e1.mp q))]; rw [if_neg h] at kk; exact kk
theorem z_mabs (hexec : p.tables.exec = Jvm.exec) (hb : c.code = cc) (hml : c.maxLocals = ls.size) {own : String} {index : Nat} (hown : s.vm.findClass own = some m.cls) (hlink : (Cond.methodLink own index Lib.Math.abs.name).before args s = true) (hstat : (Cond.static Lib.Math.abs.name).before args s = true) (hini : (Cond.initialized "java/lang/Math").before args s = true) (hcode : (Cond.code Lib.Math.abs.name Lib.Math.abs.code 1 (some .int)).before args s = true)
    (hframes : 1 ≤ R.frames) (hlocals : 21 ≤ R.locals) (hc : cells ≤ R.cells) (hs : slots ≤ R.slots) {a : Int} (ha : -2147483648 ≤ a ∧ a < 2147483648) (hrest : (rest.map fun v => v.category).sum ≤ 8) (hdg : decode cc pc = .ok (.invokestatic index, 3))
    (kk : W p l e R s m args below meth c H locs cells slots Q (F0 m (pc + 3) ls (.int (iI (if 0 ≤ a then a else 0 - a)) :: rest))) : W p l e R s m args below meth c H locs cells slots Q (F0 m pc ls (.int (iI a) :: rest)) := by
  refine va_mabs hexec hb hml hown hlink hstat hini hcode hframes (by omega) hc hs hdg ?_
  have e1 := iI_le (a := 0) (by omega) ha
  rw [iI_0] at e1
  by_cases h : 0 ≤ a
  · rw [if_pos (e1.mpr h)]; rw [if_pos h] at kk; exact kk
  · rw [if_neg (fun q => h (e1.mp q)), ← iI_0, iI_sub]; rw [if_neg h] at kk; exact kk
end ZR
/-! contracts: from the world w to the world w', with the answer r -/
def Qw (D : va_G) (r : Option Value) (w w' : va_W) (sz : Nat) : Array Value → State → Outcome → State → Prop := fun _ st oc t => (oc = .returned r ∧ va_P D vwCl w' t.heap ∧ va_D (va_A w sz) w') ∧ va_F (va_A w sz) st t
def w70 : Cond := .methodLinkNest RX0 70 yX2_isOutside RX2
def w23 : Cond := .methodLinkNest RX1 23 yX2_isOutside RX2
def nK (U : State) : Prop := va_Nw w70 U ∧ va_Nw w23 U
theorem nK.warm {s U : State} (hW : s.WarmedH U.vm) (h : nK s) : nK U := ⟨va_Nw.warmM hW h.1, va_Nw.warmM hW h.2⟩
theorem nK.same {u U : State} (hv : u.vm = U.vm) (h : nK u) : nK U := ⟨va_Nw.same rfl hv h.1, va_Nw.same rfl hv h.2⟩
theorem va_P0 (D : va_G) (cl : List vw_C) (H : Heap) : va_P D cl [] H := fun k q h => by simp at h
theorem va_D0 (A : Nat → Prop) : va_D A [] := ⟨fun i j p q h => by simp at h, fun k q h => by simp at h⟩
theorem lv_to {ls : Array Slot} {n : Nat} {l l' : List (Nat × Value)} (h : lv_has ls n l) (e : l' = l) : lv_has ls n l' := e ▸ h
theorem z_tab (x lo hi : Int) : (x < lo ∨ hi < x) ∨ (lo ≤ x ∧ x ≤ hi) := by omega
def Pw (D : va_G) (tys : List (ClassId × FieldType)) (av : List Value) (w : va_W) (sz : Nat) : Array Value → State → Prop := va_Pc av (fun U => U.heap.size = sz ∧ va_P D vwCl w U.heap ∧ va_K D vwCl tys U ∧ va_D (fun _ => True) w ∧ nK U)
def MW (l : Launch) (D : va_G) (y : MethodName) (ws : List Cond) (rm : Room) (tys : List (ClassId × FieldType)) (av : List Value) (w w' : va_W) (r : Option Value) : Prop := ∀ sz : Nat, Met l y ws rm (Pw D tys av w sz) (Qw D r w w' sz) 0 0 (va_A w sz)
/-- how a walk ends: any return instruction of the answer r over the world w' -/
def Wret (p : Program) (l : Launch) (e : Env) (R : Room) (s : State) (m : MethodId) (args : Array Value) (below : List Frame) (meth : Method) (c : Code) (Q : State → Prop) (D : va_G) (A : Nat → Prop) (w' : va_W) (op : Instr) (st : List Value) (cc : ByteArray) : Prop :=
  ∀ (pc : Nat) (ls : Array Slot) (H1 : Heap) (locs1 : List Loc), decode cc pc = .ok (op, 1) → va_P D vwCl w' H1 → va_D A w' → va_S A s.heap H1 locs1 → W p l e R s m args below meth c H1 locs1 0 0 Q (F0 m pc ls st)
theorem mw_of {l : Launch} {D : va_G} {y : MethodName} {ws ws' : List Cond} {rm : Room} {tys : List (ClassId × FieldType)} {av : List Value} {w w' : va_W} {r : Option Value} {cc : ByteArray} {maxL : Nat} {ret : Option FieldType} {op : Instr} {st : List Value}
    (hy : plainName y.cls = true) (hw : ws = Cond.code y cc maxL ret :: ws') (hav : (lg_sl av).length ≤ maxL)
    (hend : ∀ (p : Program) (e : Env) (R : Room) (s : State) (m : MethodId) (args : Array Value) (below : List Frame) (meth : Method) (c : Code) (H : Heap) (locs : List Loc) (ls : Array Slot) (pc : Nat) (Qc : Array Value → State → Outcome → State → Prop) (free : Addr → Prop), p.tables.exec = Jvm.exec → c.code = cc → meth.sig.returnType = ret → meth.locks = false → (∀ t : State, t.heap = H → s.WarmedH t.vm → Qc args s (.returned r) t) → (∀ q ∈ locs, free q.base) → decode cc pc = .ok (op, 1) → W p l e R s m args below meth c H locs 0 0 (MQ below Qc args s 0 0 free) (F0 m pc ls st))
    (body : ∀ (p : Program) (e : Env) (s : State) (m : MethodId) (below : List Frame) (meth : Method) (c : Code) (R : Room) (A : Nat → Prop) (Q : State → Prop) (args : Array Value) (ls : Array Slot), p.tables.exec = Jvm.exec → c.code = cc → c.maxLocals = maxL → s.vm.findClass y.cls = some m.cls → (∀ w ∈ ws, w.before args s = true) → rm.frames ≤ R.frames → rm.locals ≤ R.locals → 0 ≤ R.cells → 0 ≤ R.slots → nK s → va_K D vwCl tys s → va_P D vwCl w s.heap → va_D A w → va_S A s.heap s.heap [] → (∀ q : Nat, s.heap.size ≤ q → A q) → Wret p l e R s m args below meth c Q D A w' op st cc → lv_has ls maxL (lv_args 0 av) →
      W p l e R s m args below meth c s.heap [] 0 0 Q (F0 m 0 ls [])) : MW l D y ws rm tys av w w' r := by
  intro sz
  refine Met.ofW (cc := cc) (maxL := maxL) (ret := ret) hy hw ?_
  intro p e s m args below meth c s₁ B hml hv
  obtain ⟨rfl, hsz, hP, hK, hD0, hN⟩ := hv
  subst hsz
  have hts := atoms_spec (ws := ws) B.pre
  have hown : s.vm.findClass y.cls = some m.cls := findClass_of_methodNamed B.named
  have hl := lv_entry av (n := maxL) hav
  rw [lg_entry_eq]
  generalize (lg_sl av ++ List.replicate (maxL - (lg_sl av).length) Slot.unset).toArray = ls at hl ⊢
  refine body p e s m below meth c (headSpec ws rm).room (va_A w s.heap.size) _ av.toArray ls B.exec B.bytes hml hown hts (Nat.le_refl _) (Nat.le_refl _) (Nat.zero_le _) (Nat.zero_le _) hN hK hP hD0.self va_S.rf (fun q h => Or.inr h) ?_ hl
  intro pc ls H1 locs1 hdg hP1 hD1 hS1
  exact hend p e _ s m av.toArray below meth c H1 locs1 ls pc _ _ B.exec B.bytes B.returns B.notSynchronized (fun t ht hW => ⟨⟨rfl, by rw [ht]; exact hP1, hD1⟩, hS1.F ht⟩) hS1.2.2 hdg
theorem mw_ofI {l : Launch} {D : va_G} {y : MethodName} {ws ws' : List Cond} {rm : Room} {tys : List (ClassId × FieldType)} {av : List Value} {w w' : va_W} {v : Int32} {cc : ByteArray} {maxL : Nat}
    (hy : plainName y.cls = true) (hw : ws = Cond.code y cc maxL (some .int) :: ws') (hav : (lg_sl av).length ≤ maxL)
    (body : ∀ (p : Program) (e : Env) (s : State) (m : MethodId) (below : List Frame) (meth : Method) (c : Code) (R : Room) (A : Nat → Prop) (Q : State → Prop) (args : Array Value) (ls : Array Slot), p.tables.exec = Jvm.exec → c.code = cc → c.maxLocals = maxL → s.vm.findClass y.cls = some m.cls → (∀ w ∈ ws, w.before args s = true) → rm.frames ≤ R.frames → rm.locals ≤ R.locals → 0 ≤ R.cells → 0 ≤ R.slots → nK s → va_K D vwCl tys s → va_P D vwCl w s.heap → va_D A w → va_S A s.heap s.heap [] → (∀ q : Nat, s.heap.size ≤ q → A q) → Wret p l e R s m args below meth c Q D A w' .ireturn [.int v] cc → lv_has ls maxL (lv_args 0 av) →
      W p l e R s m args below meth c s.heap [] 0 0 Q (F0 m 0 ls [])) : MW l D y ws rm tys av w w' (some (.int v)) :=
  mw_of hy hw hav (fun p e R s m args below meth c H locs ls pc Qc free hx hb hr hlocks hq hf hdg => W.iret hx hb hr hq hf hdg hlocks) body
theorem mw_ofZ {l : Launch} {D : va_G} {y : MethodName} {ws ws' : List Cond} {rm : Room} {tys : List (ClassId × FieldType)} {av : List Value} {w w' : va_W} {v : Int32} {cc : ByteArray} {maxL : Nat} {ty : FieldType} (hn : narrow ty (.int v) = .int v)
    (hy : plainName y.cls = true) (hw : ws = Cond.code y cc maxL (some ty) :: ws') (hav : (lg_sl av).length ≤ maxL)
    (body : ∀ (p : Program) (e : Env) (s : State) (m : MethodId) (below : List Frame) (meth : Method) (c : Code) (R : Room) (A : Nat → Prop) (Q : State → Prop) (args : Array Value) (ls : Array Slot), p.tables.exec = Jvm.exec → c.code = cc → c.maxLocals = maxL → s.vm.findClass y.cls = some m.cls → (∀ w ∈ ws, w.before args s = true) → rm.frames ≤ R.frames → rm.locals ≤ R.locals → 0 ≤ R.cells → 0 ≤ R.slots → nK s → va_K D vwCl tys s → va_P D vwCl w s.heap → va_D A w → va_S A s.heap s.heap [] → (∀ q : Nat, s.heap.size ≤ q → A q) → Wret p l e R s m args below meth c Q D A w' .ireturn [.int v] cc → lv_has ls maxL (lv_args 0 av) →
      W p l e R s m args below meth c s.heap [] 0 0 Q (F0 m 0 ls [])) : MW l D y ws rm tys av w w' (some (.int v)) :=
  mw_of hy hw hav (fun p e R s m args below meth c H locs ls pc Qc free hx hb hr hlocks hq hf hdg => W.zret hx hb hr hn hq hf hdg hlocks) body
theorem mw_ofV {l : Launch} {D : va_G} {y : MethodName} {ws ws' : List Cond} {rm : Room} {tys : List (ClassId × FieldType)} {av : List Value} {w w' : va_W} {cc : ByteArray} {maxL : Nat}
    (hy : plainName y.cls = true) (hw : ws = Cond.code y cc maxL none :: ws') (hav : (lg_sl av).length ≤ maxL)
    (body : ∀ (p : Program) (e : Env) (s : State) (m : MethodId) (below : List Frame) (meth : Method) (c : Code) (R : Room) (A : Nat → Prop) (Q : State → Prop) (args : Array Value) (ls : Array Slot), p.tables.exec = Jvm.exec → c.code = cc → c.maxLocals = maxL → s.vm.findClass y.cls = some m.cls → (∀ w ∈ ws, w.before args s = true) → rm.frames ≤ R.frames → rm.locals ≤ R.locals → 0 ≤ R.cells → 0 ≤ R.slots → nK s → va_K D vwCl tys s → va_P D vwCl w s.heap → va_D A w → va_S A s.heap s.heap [] → (∀ q : Nat, s.heap.size ≤ q → A q) → Wret p l e R s m args below meth c Q D A w' .return_ [] cc → lv_has ls maxL (lv_args 0 av) →
      W p l e R s m args below meth c s.heap [] 0 0 Q (F0 m 0 ls [])) : MW l D y ws rm tys av w w' none :=
  mw_of hy hw hav (fun p e R s m args below meth c H locs ls pc Qc free hx hb hr hlocks hq hf hdg => W.vret hx hb hr hq hf hdg hlocks) body
section MWC
variable {p : Program} {l : Launch} {e : Env} {R : Room} {s : State} {m : MethodId} {args : Array Value} {below : List Frame} {meth : Method} {c : Code} {H : Heap} {locs : List Loc} {cells slots : Nat} {Q : State → Prop}
variable {cc : ByteArray} {pc nL : Nat} {ls : Array Slot} {rest : List Value} {D : va_G} {A : Nat → Prop} {tys tys' : List (ClassId × FieldType)} {wc wc' ws0 w1 : va_W} {r : Option Value} {Ts ws : List Cond} {own : String} {y : MethodName} {bytes : ByteArray} {maxL n index : Nat} {ret : Option FieldType} {rm : Room} {As : List Value} {b : Nat}
theorem pw_blind (av : List Value) (w : va_W) (sz : Nat) : FrameBlind (Pw D tys av w sz) := fun a U g mk q => by
  obtain ⟨e0, q0, q1, qK, qD, qN⟩ := q
  exact ⟨e0, q0, q1, va_K.moved (u := U) (U := U.calling g mk a) (Vm.Alike.refl U.vm) qK, qD, nK.same (U := U.calling g mk a) rfl qN⟩
theorem pw_here (av : List Value) {w : va_W} (hN : nK s) (hK : va_K D vwCl tys s) (hP : va_P D vwCl w H) (hD : va_D A w) : ∀ U : State, U.heap = H → s.WarmedH U.vm → Pw D tys av w H.size av.toArray U :=
  fun U hU hW => ⟨rfl, by rw [hU], by rw [hU]; exact hP, va_K.moved hW.alike hK, hD.weaken (fun _ _ _ _ => trivial), nK.warm hW hN⟩
/-- what a call needs of the place: run and record -/
def MRun (p : Program) (l : Launch) (e : Env) (R : Room) (s : State) (m : MethodId) (args : Array Value) (below : List Frame) (meth : Method) (c : Code) (H : Heap) (locs : List Loc) (cells slots : Nat) (D : va_G) (wc wc' : va_W) (r : Option Value) (g : JFrame) (rest : List Value) : Prop :=
  ∃ a : Array Value, va_Run p l e R s m args below meth c H locs cells slots 0 0 g rest (Qw D r wc wc' H.size a) (va_A wc H.size)
theorem mr_V {C : String} {T : u_T} {N ci q0 : Nat} {fs : List Value} (S : CallFix p m c cc nL s args Ts own) (hM : MW l D y ws rm tys' (.ref b :: As) wc wc' r) (cw : CallW R s args own C index y bytes maxL ret ws rm 0 0 n) (hN : nK s) (hK : va_K D vwCl tys' s) (hP : va_P D vwCl wc H) (hD : va_D A wc) (hc : vwCl[ci]? = some (C, T, N)) (he : wc[q0]? = some (b, .inr (ci, fs))) (hn : As.length = n) (hsize : ls.size = nL) (hW : (rest.map fun v => v.category).sum ≤ 8) (hf : cells ≤ R.cells ∧ slots ≤ R.slots) (hdg : decode cc pc = .ok (.invokevirtual index, 3)) :
    MRun p l e R s m args below meth c H locs cells slots D wc wc' r (F0 m pc ls (As.reverse ++ .ref b :: rest)) rest :=
  ⟨_, va_runV (rest := rest) S (hM H.size) cw ⟨pw_blind _ _ _, va_recv hK hP hc he, pw_here _ hN hK hP hD⟩ rfl hn hsize rfl (lv_room hW) hdg hf⟩
theorem mr_S (S : CallFix p m c cc nL s args Ts own) (hM : MW l D y ws rm tys' As wc wc' r) (cw : CallB R s args own index y bytes maxL ret ws rm 0 0 n ∧ (Cond.static y).before args s = true) (hN : nK s) (hK : va_K D vwCl tys' s) (hP : va_P D vwCl wc H) (hD : va_D A wc) (hn : As.length = n) (hsize : ls.size = nL) (hW : (rest.map fun v => v.category).sum ≤ 8) (hf : cells ≤ R.cells ∧ slots ≤ R.slots) (hdg : decode cc pc = .ok (.invokestatic index, 3)) :
    MRun p l e R s m args below meth c H locs cells slots D wc wc' r (F0 m pc ls (As.reverse ++ rest)) rest :=
  ⟨_, va_runS (rest := rest) S (hM H.size) cw ⟨pw_blind _ _ _, pw_here _ hN hK hP hD⟩ rfl hn hsize rfl (lv_room hW) hdg hf⟩
theorem mr_SN {host : String} (S : CallFix p m c cc nL s args Ts own) (hM : MW l D y ws rm tys' As wc wc' r) (cw : va_CN R s args own index y host bytes maxL ret ws rm 0 0 n ∧ (Cond.static y).before args s = true ∧ True) (hN : nK s) (hK : va_K D vwCl tys' s) (hP : va_P D vwCl wc H) (hD : va_D A wc) (hn : As.length = n) (hsize : ls.size = nL) (hW : (rest.map fun v => v.category).sum ≤ 8) (hf : cells ≤ R.cells ∧ slots ≤ R.slots) (hdg : decode cc pc = .ok (.invokestatic index, 3)) :
    MRun p l e R s m args below meth c H locs cells slots D wc wc' r (F0 m pc ls (As.reverse ++ rest)) rest :=
  ⟨_, va_runSN (rest := rest) S (hM H.size) cw ⟨pw_blind _ _ _, pw_here _ hN hK hP hD⟩ rfl hn hsize rfl (lv_room hW) hdg hf⟩
theorem mw_go {st0 : List Value} (hr : MRun p l e R s m args below meth c H locs cells slots D wc wc' r (F0 m pc ls st0) rest) (hS : va_S A s.heap H locs) (hF : ∀ q, va_A wc H.size q → A q)
    (kk : ∀ (H1 : Heap) (locs1 : List Loc), va_P D vwCl wc' H1 → va_D (va_A wc H.size) wc' → (∀ q : Nat, q < H.size → ¬ va_A wc H.size q → H1[q]? = H[q]?) → va_S A s.heap H1 locs1 → W p l e R s m args below meth c H1 locs1 cells slots Q (F0 m (pc + 3) ls (r.toList ++ rest))) : W p l e R s m args below meth c H locs cells slots Q (F0 m pc ls st0) := by
  obtain ⟨a, hr⟩ := hr
  intro T hT X
  obtain ⟨v, st₀, t, T', L, h0, X', hL, e1, e2, ⟨⟨hv, hp, hd⟩, hz, hk⟩, st⟩ := hr T hT X
  cases hv
  rw [h0] at hz hk
  obtain ⟨t2, a1, b1⟩ := kk T'.heap (locs ++ L) (by rw [e1]; exact hp) hd (fun q h1 h2 => by rw [e1]; exact hk q h1 h2)
    ⟨Nat.le_trans hS.1 (by rw [e1]; exact hz), fun q h1 h2 => by rw [e1, hk q (Nat.lt_of_lt_of_le h1 hS.1) (fun z => h2 (hF q z))]; exact hS.2.1 q h1 h2, fun q hq => by
      rcases List.mem_append.mp hq with h | h
      · exact hS.2.2 q h
      · exact hF _ (hL q h)⟩ T' rfl X'
  exact ⟨t2, st t2 a1, b1⟩
/-- the callee has the whole world -/
theorem mw_full {st0 st1 : List Value} (hr : MRun p l e R s m args below meth c H locs cells slots D wc wc' r (F0 m pc ls st0) rest) (hD : va_D A wc) (hS : va_S A s.heap H locs) (hA : ∀ q : Nat, s.heap.size ≤ q → A q) (hst : r.toList ++ rest = st1)
    (kk : ∀ (H1 : Heap) (locs1 : List Loc), va_P D vwCl wc' H1 → va_D A wc' → va_S A s.heap H1 locs1 → W p l e R s m args below meth c H1 locs1 cells slots Q (F0 m (pc + 3) ls st1)) : W p l e R s m args below meth c H locs cells slots Q (F0 m pc ls st0) := by
  have hF : ∀ q, va_A wc H.size q → A q := fun q h => by
    rcases h with ⟨k, e0, h⟩ | h
    · exact hD.2 k (q, e0) h
    · exact hA q (Nat.le_trans hS.1 h)
  exact mw_go hr hS hF (fun H1 locs1 hP1 hD1 _ hS1 => hst ▸ kk H1 locs1 hP1 (hD1.weaken (fun k q _ h => hF q.1 h)) hS1)
/-- the callee has no cells: nothing changes -/
theorem mw_none {st0 st1 : List Value} (hr : MRun p l e R s m args below meth c H locs cells slots D [] [] r (F0 m pc ls st0) rest) (hP : va_P D vwCl ws0 H) (hS : va_S A s.heap H locs) (hA : ∀ q : Nat, s.heap.size ≤ q → A q) (hst : r.toList ++ rest = st1)
    (kk : ∀ (H1 : Heap) (locs1 : List Loc), va_P D vwCl ws0 H1 → va_S A s.heap H1 locs1 → W p l e R s m args below meth c H1 locs1 cells slots Q (F0 m (pc + 3) ls st1)) : W p l e R s m args below meth c H locs cells slots Q (F0 m pc ls st0) := by
  have hno : ∀ q, va_A ([] : va_W) H.size q → H.size ≤ q := fun q h => by
    rcases h with ⟨k, e0, h⟩ | h
    · simp at h
    · exact h
  refine mw_go hr hS (fun q h => hA q (Nat.le_trans hS.1 (hno q h))) (fun H1 locs1 _ _ hk hS1 => hst ▸ kk H1 locs1 (hP.kept (fun k q hq => hk q.1 (hP k q hq).lt (fun h => ?_))) hS1)
  have h1 := hno _ h
  have h2 := (hP k q hq).lt
  omega
/-- the callee has a part of the world: what came back goes to the same places -/
theorem mw_part {st0 st1 : List Value} (hr : MRun p l e R s m args below meth c H locs cells slots D wc wc' r (F0 m pc ls st0) rest) (hP : va_P D vwCl ws0 H) (hD : va_D A ws0) (hS : va_S A s.heap H locs) (hA : ∀ q : Nat, s.heap.size ≤ q → A q) (isC isR : List Nat) (ord : List Nat) {wr : va_W} (hC : isC.map (fun i => ws0[i]?) = wc.map some) (hR : isR.map (fun i => ws0[i]?) = wr.map some) (hn : va_nd isR = true) (hdis : ∀ i ∈ isR, i ∉ isC) (ho : va_nd ord = true) (hw : ord.map (fun i => (wr ++ wc')[i]?) = w1.map some) (hst : r.toList ++ rest = st1)
    (kk : ∀ (H1 : Heap) (locs1 : List Loc), va_P D vwCl w1 H1 → va_D A w1 → va_S A s.heap H1 locs1 → W p l e R s m args below meth c H1 locs1 cells slots Q (F0 m (pc + 3) ls st1)) : W p l e R s m args below meth c H locs cells slots Q (F0 m pc ls st0) := by
  have hF := va_free hD hS hA isC hC
  refine mw_go hr hS hF (fun H1 locs1 hP1 hD1 hk hS1 => ?_)
  obtain ⟨a1, a2⟩ := va_join hP hD isC isR hC hR hn hdis hk hF hP1 hD1
  rw [hst]
  refine kk H1 locs1 (fun k q hq => ?_) (a2.sub ord ho hw) hS1
  have h1 : (ord.map (fun i => (wr ++ wc')[i]?))[k]? = some (some q) := by rw [hw, List.getElem?_map, hq]; rfl
  rw [List.getElem?_map] at h1
  cases hi : ord[k]? with
  | none => rw [hi] at h1; cases h1
  | some i => rw [hi] at h1; exact a1 i q (Option.some.inj h1)
end MWC
end
section
/-! a grid: its cells by one function of places: G k p is the array k at p, G 12 0 is today -/
def upG (G : Nat → Int → Int) (k : Nat) (z v : Int) : Nat → Int → Int := fun k' => if k' = k then upI (G k) z v else G k'
abbrev wG (g : Nat) (ad : Nat → Nat) (cI : ClassId) (G : Nat → Int → Int) : va_W := [(g, .inr (0, [.ref (ad 0), .ref (ad 1), .ref (ad 2), .ref (ad 3), .ref (ad 4), .ref (ad 5), .ref (ad 6), .ref (ad 7), .ref (ad 8), .ref (ad 9), .ref (ad 10), .ref (ad 11), .int (iI (G 12 0))])), (ad 0, .inl (cI, 48, .inl (aI (G 0)))), (ad 1, .inl (cI, 48, .inl (aI (G 1)))), (ad 2, .inl (cI, 48, .inl (aI (G 2)))), (ad 3, .inl (cI, 48, .inl (aI (G 3)))), (ad 4, .inl (cI, 18, .inl (aI (G 4)))), (ad 5, .inl (cI, 18, .inl (aI (G 5)))), (ad 6, .inl (cI, 6, .inl (aI (G 6)))), (ad 7, .inl (cI, 6, .inl (aI (G 7)))), (ad 8, .inl (cI, 6, .inl (aI (G 8)))), (ad 9, .inl (cI, 6, .inl (aI (G 9)))), (ad 10, .inl (cI, 9, .inl (aI (G 10)))), (ad 11, .inl (cI, 3, .inl (aI (G 11))))]
theorem wG_set0 (g : Nat) (ad : Nat → Nat) (cI : ClassId) (G : Nat → Int → Int) (z v : Int) : (wG g ad cI G).set 1 (ad 0, .inl (cI, 48, .inl (aI (upI (G 0) z v)))) = wG g ad cI (upG G 0 z v) := rfl
theorem wG_set1 (g : Nat) (ad : Nat → Nat) (cI : ClassId) (G : Nat → Int → Int) (z v : Int) : (wG g ad cI G).set 2 (ad 1, .inl (cI, 48, .inl (aI (upI (G 1) z v)))) = wG g ad cI (upG G 1 z v) := rfl
theorem wG_set2 (g : Nat) (ad : Nat → Nat) (cI : ClassId) (G : Nat → Int → Int) (z v : Int) : (wG g ad cI G).set 3 (ad 2, .inl (cI, 48, .inl (aI (upI (G 2) z v)))) = wG g ad cI (upG G 2 z v) := rfl
theorem wG_set3 (g : Nat) (ad : Nat → Nat) (cI : ClassId) (G : Nat → Int → Int) (z v : Int) : (wG g ad cI G).set 4 (ad 3, .inl (cI, 48, .inl (aI (upI (G 3) z v)))) = wG g ad cI (upG G 3 z v) := rfl
theorem wG_set4 (g : Nat) (ad : Nat → Nat) (cI : ClassId) (G : Nat → Int → Int) (z v : Int) : (wG g ad cI G).set 5 (ad 4, .inl (cI, 18, .inl (aI (upI (G 4) z v)))) = wG g ad cI (upG G 4 z v) := rfl
theorem wG_set5 (g : Nat) (ad : Nat → Nat) (cI : ClassId) (G : Nat → Int → Int) (z v : Int) : (wG g ad cI G).set 6 (ad 5, .inl (cI, 18, .inl (aI (upI (G 5) z v)))) = wG g ad cI (upG G 5 z v) := rfl
theorem wG_set6 (g : Nat) (ad : Nat → Nat) (cI : ClassId) (G : Nat → Int → Int) (z v : Int) : (wG g ad cI G).set 7 (ad 6, .inl (cI, 6, .inl (aI (upI (G 6) z v)))) = wG g ad cI (upG G 6 z v) := rfl
theorem wG_set7 (g : Nat) (ad : Nat → Nat) (cI : ClassId) (G : Nat → Int → Int) (z v : Int) : (wG g ad cI G).set 8 (ad 7, .inl (cI, 6, .inl (aI (upI (G 7) z v)))) = wG g ad cI (upG G 7 z v) := rfl
theorem wG_set8 (g : Nat) (ad : Nat → Nat) (cI : ClassId) (G : Nat → Int → Int) (z v : Int) : (wG g ad cI G).set 9 (ad 8, .inl (cI, 6, .inl (aI (upI (G 8) z v)))) = wG g ad cI (upG G 8 z v) := rfl
theorem wG_set9 (g : Nat) (ad : Nat → Nat) (cI : ClassId) (G : Nat → Int → Int) (z v : Int) : (wG g ad cI G).set 10 (ad 9, .inl (cI, 6, .inl (aI (upI (G 9) z v)))) = wG g ad cI (upG G 9 z v) := rfl
theorem wG_set10 (g : Nat) (ad : Nat → Nat) (cI : ClassId) (G : Nat → Int → Int) (z v : Int) : (wG g ad cI G).set 11 (ad 10, .inl (cI, 9, .inl (aI (upI (G 10) z v)))) = wG g ad cI (upG G 10 z v) := rfl
theorem wG_set11 (g : Nat) (ad : Nat → Nat) (cI : ClassId) (G : Nat → Int → Int) (z v : Int) : (wG g ad cI G).set 12 (ad 11, .inl (cI, 3, .inl (aI (upI (G 11) z v)))) = wG g ad cI (upG G 11 z v) := rfl
/-- what every state of a grid keeps; B bounds what is counted -/
def InvG (B : Int) (G : Nat → Int → Int) : Prop := (0 ≤ B ∧ B ≤ 10000000) ∧ (∀ p : Int, 0 ≤ p → p < 48 → 0 ≤ G 0 p ∧ G 0 p ≤ 2) ∧ (∀ p : Int, 0 ≤ p → p < 48 → 0 ≤ G 1 p ∧ G 1 p ≤ 999) ∧ (∀ p : Int, 0 ≤ p → p < 48 → 0 ≤ G 2 p ∧ G 2 p ≤ B) ∧ (∀ p : Int, 0 ≤ p → p < 48 → 0 ≤ G 3 p ∧ G 3 p ≤ G 12 0) ∧ (∀ p : Int, 0 ≤ p → p < 18 → 0 ≤ G 4 p ∧ G 4 p ≤ 999) ∧ (∀ p : Int, 0 ≤ p → p < 18 → 0 ≤ G 5 p ∧ G 5 p ≤ 1) ∧ (∀ p : Int, 0 ≤ p → p < 6 → 1 ≤ G 6 p ∧ G 6 p ≤ 200) ∧ (∀ p : Int, 0 ≤ p → p < 6 → 0 ≤ G 7 p ∧ G 7 p ≤ G 12 0) ∧ (∀ p : Int, 0 ≤ p → p < 6 → 0 ≤ G 8 p ∧ G 8 p ≤ 8 * B) ∧ (∀ p : Int, 0 ≤ p → p < 6 → 0 ≤ G 9 p ∧ G 9 p ≤ B) ∧ (∀ p : Int, 0 ≤ p → p < 9 → 0 ≤ G 10 p ∧ G 10 p ≤ B) ∧ (300 ≤ G 11 0 ∧ G 11 0 ≤ 700) ∧ (1 ≤ G 11 1 ∧ G 11 1 ≤ 300) ∧ (0 ≤ G 11 2 ∧ G 11 2 ≤ 99) ∧ (0 ≤ G 12 0 ∧ G 12 0 ≤ 10000000)
theorem invG_B {B : Int} {G : Nat → Int → Int} (h : InvG B G) : 0 ≤ B ∧ B ≤ 10000000 := h.1
theorem invG_0 {B : Int} {G : Nat → Int → Int} (h : InvG B G) (p : Int) (h0 : 0 ≤ p) (h1 : p < 48) : 0 ≤ G 0 p ∧ G 0 p ≤ 2 := h.2.1 p h0 h1
theorem invG_1 {B : Int} {G : Nat → Int → Int} (h : InvG B G) (p : Int) (h0 : 0 ≤ p) (h1 : p < 48) : 0 ≤ G 1 p ∧ G 1 p ≤ 999 := h.2.2.1 p h0 h1
theorem invG_2 {B : Int} {G : Nat → Int → Int} (h : InvG B G) (p : Int) (h0 : 0 ≤ p) (h1 : p < 48) : 0 ≤ G 2 p ∧ G 2 p ≤ B := h.2.2.2.1 p h0 h1
theorem invG_3 {B : Int} {G : Nat → Int → Int} (h : InvG B G) (p : Int) (h0 : 0 ≤ p) (h1 : p < 48) : 0 ≤ G 3 p ∧ G 3 p ≤ G 12 0 := h.2.2.2.2.1 p h0 h1
theorem invG_4 {B : Int} {G : Nat → Int → Int} (h : InvG B G) (p : Int) (h0 : 0 ≤ p) (h1 : p < 18) : 0 ≤ G 4 p ∧ G 4 p ≤ 999 := h.2.2.2.2.2.1 p h0 h1
theorem invG_5 {B : Int} {G : Nat → Int → Int} (h : InvG B G) (p : Int) (h0 : 0 ≤ p) (h1 : p < 18) : 0 ≤ G 5 p ∧ G 5 p ≤ 1 := h.2.2.2.2.2.2.1 p h0 h1
theorem invG_6 {B : Int} {G : Nat → Int → Int} (h : InvG B G) (p : Int) (h0 : 0 ≤ p) (h1 : p < 6) : 1 ≤ G 6 p ∧ G 6 p ≤ 200 := h.2.2.2.2.2.2.2.1 p h0 h1
theorem invG_7 {B : Int} {G : Nat → Int → Int} (h : InvG B G) (p : Int) (h0 : 0 ≤ p) (h1 : p < 6) : 0 ≤ G 7 p ∧ G 7 p ≤ G 12 0 := h.2.2.2.2.2.2.2.2.1 p h0 h1
theorem invG_8 {B : Int} {G : Nat → Int → Int} (h : InvG B G) (p : Int) (h0 : 0 ≤ p) (h1 : p < 6) : 0 ≤ G 8 p ∧ G 8 p ≤ 8 * B := h.2.2.2.2.2.2.2.2.2.1 p h0 h1
theorem invG_9 {B : Int} {G : Nat → Int → Int} (h : InvG B G) (p : Int) (h0 : 0 ≤ p) (h1 : p < 6) : 0 ≤ G 9 p ∧ G 9 p ≤ B := h.2.2.2.2.2.2.2.2.2.2.1 p h0 h1
theorem invG_10 {B : Int} {G : Nat → Int → Int} (h : InvG B G) (p : Int) (h0 : 0 ≤ p) (h1 : p < 9) : 0 ≤ G 10 p ∧ G 10 p ≤ B := h.2.2.2.2.2.2.2.2.2.2.2.1 p h0 h1
theorem invG_s0 {B : Int} {G : Nat → Int → Int} (h : InvG B G) : 300 ≤ G 11 0 ∧ G 11 0 ≤ 700 := h.2.2.2.2.2.2.2.2.2.2.2.2.1
theorem invG_s1 {B : Int} {G : Nat → Int → Int} (h : InvG B G) : 1 ≤ G 11 1 ∧ G 11 1 ≤ 300 := h.2.2.2.2.2.2.2.2.2.2.2.2.2.1
theorem invG_s2 {B : Int} {G : Nat → Int → Int} (h : InvG B G) : 0 ≤ G 11 2 ∧ G 11 2 ≤ 99 := h.2.2.2.2.2.2.2.2.2.2.2.2.2.2.1
theorem invG_d {B : Int} {G : Nat → Int → Int} (h : InvG B G) : 0 ≤ G 12 0 ∧ G 12 0 ≤ 10000000 := h.2.2.2.2.2.2.2.2.2.2.2.2.2.2.2
theorem invG_11 {B : Int} {G : Nat → Int → Int} (h : InvG B G) (p : Int) (h0 : 0 ≤ p) (h1 : p < 3) : 0 ≤ G 11 p ∧ G 11 p ≤ 700 := by
  have h2 := invG_s0 h
  have h3 := invG_s1 h
  have h4 := invG_s2 h
  rcases (show p = 0 ∨ p = 1 ∨ p = 2 by omega) with rfl | rfl | rfl <;> omega
/-! values -/
def sumZ : Nat → (Int → Int) → Int
  | 0, _ => 0
  | n + 1, f => sumZ n f + f n
def hornZ (f : Int → Int) : Nat → Int
  | 0 => 0
  | n + 1 => 3 * hornZ f n + f (7 - n)
def outZ (n lo hi : Int) : Int := if n < lo ∨ hi < n then 1 else 0
def aimZ (v : Int) : Int := 100 + 400 * v
def ownZ (G : Nat → Int → Int) (r w : Int) : Int := (G 4 (3 * r + w) + G 4 (3 * r + w + 1)) / 2
def rightZ (G : Nat → Int → Int) (r : Int) : Int := if r < 0 ∨ 6 ≤ r then 0 else if G 4 (3 * r + 1) - G 4 (3 * r) < G 11 1 then 0 else if G 4 (3 * r + 2) - G 4 (3 * r + 1) < G 11 1 then 0 else 1
def sourceZ (G : Nat → Int → Int) (r : Int) : Int := if rightZ G r ≠ 0 then 0 else if rightZ G (r - 1) ≠ 0 ∨ rightZ G (r + 1) ≠ 0 then 1 else 2
def thrZ (G : Nat → Int → Int) (r w : Int) : Int := if rightZ G r ≠ 0 then ownZ G r w else if rightZ G (r - 1) ≠ 0 ∧ rightZ G (r + 1) ≠ 0 then (ownZ G (r - 1) w + ownZ G (r + 1) w) / 2 else if rightZ G (r - 1) ≠ 0 then ownZ G (r - 1) w else if rightZ G (r + 1) ≠ 0 then ownZ G (r + 1) w else if w = 0 then 300 else 700
def tellZ (v lo up : Int) : Int := if v < lo then 0 else if up ≤ v then 2 else 1
def wrongByZ (G : Nat → Int → Int) (r lo up : Int) (n : Nat) : Int := sumZ n (fun c => if tellZ (G 1 (8 * r + c)) lo up = G 0 (8 * r + c) then 0 else 1)
def wrongZ (G : Nat → Int → Int) (r : Int) : Int := wrongByZ G r (thrZ G r 0) (thrZ G r 1) 8
def toldZ (G : Nat → Int → Int) (r c : Int) : Int := tellZ (G 1 (8 * r + c)) (thrZ G r 0) (thrZ G r 1)
def toldWordZ (G : Nat → Int → Int) (r : Int) : Int := hornZ (fun c => toldZ G r c) 8
def levelWordZ (G : Nat → Int → Int) (r : Int) : Int := hornZ (fun c => G 0 (8 * r + c)) 8
def putZ (G : Nat → Int → Int) (p v : Int) : Nat → Int → Int := upG (upG (upG (upG G 0 p v) 1 p (aimZ v + ((37 * p + 11 * G 2 p) % 21 - 10))) 2 p (G 2 p + 1)) 3 p (G 12 0)
def guardsZ (G : Nat → Int → Int) (r : Int) : Nat → (Nat → Int → Int)
  | 0 => G
  | n + 1 => if guardsZ G r n 5 (3 * r + n) = 0 then upG (guardsZ G r n) 4 (3 * r + n) (aimZ n) else guardsZ G r n
def writeGuardsZ (G : Nat → Int → Int) (r : Int) : Nat → Int → Int := upG (guardsZ G r 3) 7 r (guardsZ G r 3 12 0)
def ageZ (G : Nat → Int → Int) (r : Int) : Int := G 12 0 - G 7 r
def nearZ (m v rate : Int) : Int := if v < m then v + (if 1 < (m - v) * rate / 1000 then (m - v) * rate / 1000 else 1) else if m < v then v - (if 1 < (v - m) * rate / 1000 then (v - m) * rate / 1000 else 1) else v
theorem tellZ_01 (v lo up : Int) : 0 ≤ tellZ v lo up ∧ tellZ v lo up ≤ 2 := by unfold tellZ; omega
theorem outZ_01 (n lo hi : Int) : 0 ≤ outZ n lo hi ∧ outZ n lo hi ≤ 1 := by unfold outZ; omega
theorem rightZ_01 (G : Nat → Int → Int) (r : Int) : rightZ G r = 0 ∨ rightZ G r = 1 := by unfold rightZ; omega
theorem rightZ_in {G : Nat → Int → Int} {r : Int} (h : rightZ G r ≠ 0) : 0 ≤ r ∧ r < 6 := by unfold rightZ at h; omega
theorem ownZ_bd {B : Int} {G : Nat → Int → Int} (hI : InvG B G) (r w : Int) (h1 : 0 ≤ r ∧ r < 6) (h2 : 0 ≤ w ∧ w < 2) : 0 ≤ ownZ G r w ∧ ownZ G r w ≤ 999 := by
  have a1 := invG_4 hI (3 * r + w) (by omega) (by omega)
  have a2 := invG_4 hI (3 * r + w + 1) (by omega) (by omega)
  unfold ownZ
  omega
theorem thrZ_bd {B : Int} {G : Nat → Int → Int} (hI : InvG B G) (r w : Int) (h1 : 0 ≤ r ∧ r < 6) (h2 : 0 ≤ w ∧ w < 2) : 0 ≤ thrZ G r w ∧ thrZ G r w ≤ 999 := by
  unfold thrZ
  by_cases c1 : rightZ G r ≠ 0
  · rw [if_pos c1]; exact ownZ_bd hI r w h1 h2
  · rw [if_neg c1]
    by_cases c2 : rightZ G (r - 1) ≠ 0
    · have a1 := ownZ_bd hI (r - 1) w (rightZ_in c2) h2
      by_cases c3 : rightZ G (r + 1) ≠ 0
      · have a2 := ownZ_bd hI (r + 1) w (rightZ_in c3) h2
        rw [if_pos ⟨c2, c3⟩]; omega
      · rw [if_neg (fun q => c3 q.2), if_pos c2]; exact a1
    · rw [if_neg (fun q => c2 q.1), if_neg c2]
      by_cases c3 : rightZ G (r + 1) ≠ 0
      · rw [if_pos c3]; exact ownZ_bd hI (r + 1) w (rightZ_in c3) h2
      · rw [if_neg c3]; omega
theorem sumZ_bd {f : Int → Int} {M : Int} (h : ∀ c, 0 ≤ f c ∧ f c ≤ M) : ∀ n : Nat, 0 ≤ sumZ n f ∧ sumZ n f ≤ M * n := by
  intro n
  induction n with
  | zero => simp [sumZ]
  | succ n ih =>
    have h1 := h n
    have e : M * ((n + 1 : Nat) : Int) = M * n + M := by rw [Int.natCast_add, Int.mul_add]; simp
    rw [e]
    show 0 ≤ sumZ n f + f n ∧ sumZ n f + f n ≤ M * n + M
    omega
theorem wrongByZ_bd (G : Nat → Int → Int) (r lo up : Int) (n : Nat) : 0 ≤ wrongByZ G r lo up n ∧ wrongByZ G r lo up n ≤ n := by
  have h := sumZ_bd (f := fun c => if tellZ (G 1 (8 * r + c)) lo up = G 0 (8 * r + c) then 0 else 1) (M := 1) (fun c => by
    show 0 ≤ (if tellZ (G 1 (8 * r + c)) lo up = G 0 (8 * r + c) then (0 : Int) else 1) ∧ (if tellZ (G 1 (8 * r + c)) lo up = G 0 (8 * r + c) then (0 : Int) else 1) ≤ 1
    omega) n
  unfold wrongByZ
  omega
theorem wrongZ_bd (G : Nat → Int → Int) (r : Int) : 0 ≤ wrongZ G r ∧ wrongZ G r ≤ 8 := wrongByZ_bd G r _ _ 8
theorem hornZ_bd {f : Int → Int} (h : ∀ c, 0 ≤ c → c < 8 → 0 ≤ f c ∧ f c ≤ 2) : ∀ n : Nat, n ≤ 8 → 0 ≤ hornZ f n ∧ hornZ f n < 3 ^ n := by
  intro n
  induction n with
  | zero => intro _; simp [hornZ]
  | succ n ih =>
    intro hn
    have h1 := h (7 - n) (by omega) (by omega)
    have h2 := ih (by omega)
    have e : (3 : Int) ^ (n + 1) = 3 * 3 ^ n := by rw [Int.pow_succ, Int.mul_comm]
    rw [e]
    show 0 ≤ 3 * hornZ f n + f (7 - n) ∧ 3 * hornZ f n + f (7 - n) < 3 * 3 ^ n
    omega
theorem narrow_z01 {z : Int} (h : z = 0 ∨ z = 1) : narrow .boolean (.int (iI z)) = .int (iI z) := by
  rcases h with rfl | rfl <;> rfl
end
