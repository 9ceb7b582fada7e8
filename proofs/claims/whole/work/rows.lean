section
-- ===== PART A: goes FIRST, ahead of the names: the tables' words, and 'selects' of the private methods out of them =====
/-- a private method of a class that the tables say can be made, by its rows of tables_1 -/
def lw_okq (q : MethodName × Nat) : Prop := (q.1.cls ≠ "java/lang/invoke/MethodHandle" ∧ q.1.cls ≠ "java/lang/invoke/VarHandle") ∧ Cond.instantiable q.1.cls q.2 ∈ tables_1 ∧ Cond.privateMethod q.1 ∈ tables_1 ∧ Cond.instanceMethod q.1 ∈ tables_1
theorem lw_p0 : lw_okq (⟨"FuseBoards", "noteState", "()V"⟩, 8) := ⟨⟨by decide +kernel, by decide +kernel⟩, List.mem_of_getElem? (i := 10) (by decide +kernel), List.mem_of_getElem? (i := 92) (by decide +kernel), List.mem_of_getElem? (i := 93) (by decide +kernel)⟩
theorem lw_p1 : lw_okq (⟨"FuseBoards", "keepUnlessError", "(I)I"⟩, 8) := ⟨⟨by decide +kernel, by decide +kernel⟩, List.mem_of_getElem? (i := 10) (by decide +kernel), List.mem_of_getElem? (i := 111) (by decide +kernel), List.mem_of_getElem? (i := 112) (by decide +kernel)⟩
theorem lw_p2 : lw_okq (⟨"FuseBoards$House", "putNewFuse", "(III)V"⟩, 2) := ⟨⟨by decide +kernel, by decide +kernel⟩, List.mem_of_getElem? (i := 18) (by decide +kernel), List.mem_of_getElem? (i := 133) (by decide +kernel), List.mem_of_getElem? (i := 134) (by decide +kernel)⟩
theorem lw_p3 : lw_okq (⟨"FuseBoards$House", "addUpCurrents", "()V"⟩, 2) := ⟨⟨by decide +kernel, by decide +kernel⟩, List.mem_of_getElem? (i := 18) (by decide +kernel), List.mem_of_getElem? (i := 177) (by decide +kernel), List.mem_of_getElem? (i := 178) (by decide +kernel)⟩
theorem lw_p4 : lw_okq (⟨"FuseBoards$House", "deadBoards", "()I"⟩, 2) := ⟨⟨by decide +kernel, by decide +kernel⟩, List.mem_of_getElem? (i := 18) (by decide +kernel), List.mem_of_getElem? (i := 184) (by decide +kernel), List.mem_of_getElem? (i := 185) (by decide +kernel)⟩
theorem lw_p5 : lw_okq (⟨"FuseBoards$House", "addFlow", "(II)V"⟩, 2) := ⟨⟨by decide +kernel, by decide +kernel⟩, List.mem_of_getElem? (i := 18) (by decide +kernel), List.mem_of_getElem? (i := 188) (by decide +kernel), List.mem_of_getElem? (i := 189) (by decide +kernel)⟩
theorem lw_p6 : lw_okq (⟨"FuseBoards$House", "burnArcs", "()V"⟩, 2) := ⟨⟨by decide +kernel, by decide +kernel⟩, List.mem_of_getElem? (i := 18) (by decide +kernel), List.mem_of_getElem? (i := 192) (by decide +kernel), List.mem_of_getElem? (i := 193) (by decide +kernel)⟩
theorem lw_p7 : lw_okq (⟨"FuseBoards$House", "state", "(I)I"⟩, 2) := ⟨⟨by decide +kernel, by decide +kernel⟩, List.mem_of_getElem? (i := 18) (by decide +kernel), List.mem_of_getElem? (i := 196) (by decide +kernel), List.mem_of_getElem? (i := 197) (by decide +kernel)⟩
theorem lw_p8 : lw_okq (⟨"FuseBoards$House", "warm", "(II)V"⟩, 2) := ⟨⟨by decide +kernel, by decide +kernel⟩, List.mem_of_getElem? (i := 18) (by decide +kernel), List.mem_of_getElem? (i := 200) (by decide +kernel), List.mem_of_getElem? (i := 201) (by decide +kernel)⟩
theorem lw_p9 : lw_okq (⟨"FuseBoards$House", "creep", "(I)V"⟩, 2) := ⟨⟨by decide +kernel, by decide +kernel⟩, List.mem_of_getElem? (i := 18) (by decide +kernel), List.mem_of_getElem? (i := 209) (by decide +kernel), List.mem_of_getElem? (i := 210) (by decide +kernel)⟩
theorem lw_p10 : lw_okq (⟨"FuseBoards$House", "molten", "()I"⟩, 2) := ⟨⟨by decide +kernel, by decide +kernel⟩, List.mem_of_getElem? (i := 18) (by decide +kernel), List.mem_of_getElem? (i := 213) (by decide +kernel), List.mem_of_getElem? (i := 214) (by decide +kernel)⟩
theorem lw_p11 : lw_okq (⟨"FuseBoards$House", "meltingHeat", "(I)I"⟩, 2) := ⟨⟨by decide +kernel, by decide +kernel⟩, List.mem_of_getElem? (i := 18) (by decide +kernel), List.mem_of_getElem? (i := 217) (by decide +kernel), List.mem_of_getElem? (i := 218) (by decide +kernel)⟩
theorem lw_p12 : lw_okq (⟨"FuseBoards$House", "nearestOf", "(I)I"⟩, 2) := ⟨⟨by decide +kernel, by decide +kernel⟩, List.mem_of_getElem? (i := 18) (by decide +kernel), List.mem_of_getElem? (i := 224) (by decide +kernel), List.mem_of_getElem? (i := 225) (by decide +kernel)⟩
theorem lw_p13 : lw_okq (⟨"FuseBoards$House", "blow", "(I)V"⟩, 2) := ⟨⟨by decide +kernel, by decide +kernel⟩, List.mem_of_getElem? (i := 18) (by decide +kernel), List.mem_of_getElem? (i := 232) (by decide +kernel), List.mem_of_getElem? (i := 233) (by decide +kernel)⟩
theorem lw_p14 : lw_okq (⟨"FuseBoards$House", "current", "(I)I"⟩, 2) := ⟨⟨by decide +kernel, by decide +kernel⟩, List.mem_of_getElem? (i := 18) (by decide +kernel), List.mem_of_getElem? (i := 251) (by decide +kernel), List.mem_of_getElem? (i := 252) (by decide +kernel)⟩
theorem lw_p15 : lw_okq (⟨"FuseBoards$House", "boardsAhead", "(I)I"⟩, 2) := ⟨⟨by decide +kernel, by decide +kernel⟩, List.mem_of_getElem? (i := 18) (by decide +kernel), List.mem_of_getElem? (i := 255) (by decide +kernel), List.mem_of_getElem? (i := 256) (by decide +kernel)⟩
def lw_privs_1 : List (MethodName × Nat) := [(⟨"FuseBoards", "noteState", "()V"⟩, 8), (⟨"FuseBoards", "keepUnlessError", "(I)I"⟩, 8), (⟨"FuseBoards$House", "putNewFuse", "(III)V"⟩, 2), (⟨"FuseBoards$House", "addUpCurrents", "()V"⟩, 2), (⟨"FuseBoards$House", "deadBoards", "()I"⟩, 2), (⟨"FuseBoards$House", "addFlow", "(II)V"⟩, 2), (⟨"FuseBoards$House", "burnArcs", "()V"⟩, 2), (⟨"FuseBoards$House", "state", "(I)I"⟩, 2), (⟨"FuseBoards$House", "warm", "(II)V"⟩, 2), (⟨"FuseBoards$House", "creep", "(I)V"⟩, 2), (⟨"FuseBoards$House", "molten", "()I"⟩, 2), (⟨"FuseBoards$House", "meltingHeat", "(I)I"⟩, 2), (⟨"FuseBoards$House", "nearestOf", "(I)I"⟩, 2), (⟨"FuseBoards$House", "blow", "(I)V"⟩, 2), (⟨"FuseBoards$House", "current", "(I)I"⟩, 2), (⟨"FuseBoards$House", "boardsAhead", "(I)I"⟩, 2)]
theorem lw_r1 : ∀ q ∈ lw_privs_1, lw_okq q := List.forall_mem_cons.mpr ⟨lw_p0, List.forall_mem_cons.mpr ⟨lw_p1, List.forall_mem_cons.mpr ⟨lw_p2, List.forall_mem_cons.mpr ⟨lw_p3, List.forall_mem_cons.mpr ⟨lw_p4, List.forall_mem_cons.mpr ⟨lw_p5, List.forall_mem_cons.mpr ⟨lw_p6, List.forall_mem_cons.mpr ⟨lw_p7, List.forall_mem_cons.mpr ⟨lw_p8, List.forall_mem_cons.mpr ⟨lw_p9, List.forall_mem_cons.mpr ⟨lw_p10, List.forall_mem_cons.mpr ⟨lw_p11, List.forall_mem_cons.mpr ⟨lw_p12, List.forall_mem_cons.mpr ⟨lw_p13, List.forall_mem_cons.mpr ⟨lw_p14, List.forall_mem_cons.mpr ⟨lw_p15, fun _ h => absurd h List.not_mem_nil⟩⟩⟩⟩⟩⟩⟩⟩⟩⟩⟩⟩⟩⟩⟩⟩
theorem lw_p16 : lw_okq (⟨"FuseBoards$House", "allBoards", "()I"⟩, 2) := ⟨⟨by decide +kernel, by decide +kernel⟩, List.mem_of_getElem? (i := 18) (by decide +kernel), List.mem_of_getElem? (i := 268) (by decide +kernel), List.mem_of_getElem? (i := 269) (by decide +kernel)⟩
theorem lw_p17 : lw_okq (⟨"FuseBoards$House", "burningBoards", "()I"⟩, 2) := ⟨⟨by decide +kernel, by decide +kernel⟩, List.mem_of_getElem? (i := 18) (by decide +kernel), List.mem_of_getElem? (i := 301) (by decide +kernel), List.mem_of_getElem? (i := 302) (by decide +kernel)⟩
theorem lw_p18 : lw_okq (⟨"FuseBoards", "firstBlow", "(I)I"⟩, 8) := ⟨⟨by decide +kernel, by decide +kernel⟩, List.mem_of_getElem? (i := 10) (by decide +kernel), List.mem_of_getElem? (i := 316) (by decide +kernel), List.mem_of_getElem? (i := 317) (by decide +kernel)⟩
theorem lw_p19 : lw_okq (⟨"FuseBoards", "tryFault", "(III)I"⟩, 8) := ⟨⟨by decide +kernel, by decide +kernel⟩, List.mem_of_getElem? (i := 10) (by decide +kernel), List.mem_of_getElem? (i := 328) (by decide +kernel), List.mem_of_getElem? (i := 329) (by decide +kernel)⟩
theorem lw_p20 : lw_okq (⟨"FuseBoards$Pad", "readOrder", "()Z"⟩, 7) := ⟨⟨by decide +kernel, by decide +kernel⟩, List.mem_of_getElem? (i := 32) (by decide +kernel), List.mem_of_getElem? (i := 393) (by decide +kernel), List.mem_of_getElem? (i := 394) (by decide +kernel)⟩
theorem lw_p21 : lw_okq (⟨"FuseBoards$Pad", "codeHere", "()I"⟩, 7) := ⟨⟨by decide +kernel, by decide +kernel⟩, List.mem_of_getElem? (i := 32) (by decide +kernel), List.mem_of_getElem? (i := 397) (by decide +kernel), List.mem_of_getElem? (i := 398) (by decide +kernel)⟩
theorem lw_p22 : lw_okq (⟨"FuseBoards$Pad", "skip", "(I)Z"⟩, 7) := ⟨⟨by decide +kernel, by decide +kernel⟩, List.mem_of_getElem? (i := 32) (by decide +kernel), List.mem_of_getElem? (i := 401) (by decide +kernel), List.mem_of_getElem? (i := 402) (by decide +kernel)⟩
theorem lw_p23 : lw_okq (⟨"FuseBoards$Pad", "readDigit", "()Z"⟩, 7) := ⟨⟨by decide +kernel, by decide +kernel⟩, List.mem_of_getElem? (i := 32) (by decide +kernel), List.mem_of_getElem? (i := 405) (by decide +kernel), List.mem_of_getElem? (i := 406) (by decide +kernel)⟩
theorem lw_p24 : lw_okq (⟨"FuseBoards$Pad", "isDigitHere", "()Z"⟩, 7) := ⟨⟨by decide +kernel, by decide +kernel⟩, List.mem_of_getElem? (i := 32) (by decide +kernel), List.mem_of_getElem? (i := 409) (by decide +kernel), List.mem_of_getElem? (i := 410) (by decide +kernel)⟩
theorem lw_p25 : lw_okq (⟨"FuseBoards$Pad", "readNumber", "()Z"⟩, 7) := ⟨⟨by decide +kernel, by decide +kernel⟩, List.mem_of_getElem? (i := 32) (by decide +kernel), List.mem_of_getElem? (i := 413) (by decide +kernel), List.mem_of_getElem? (i := 414) (by decide +kernel)⟩
theorem lw_p26 : lw_okq (⟨"FuseBoards$Pad", "readKind", "()Z"⟩, 7) := ⟨⟨by decide +kernel, by decide +kernel⟩, List.mem_of_getElem? (i := 32) (by decide +kernel), List.mem_of_getElem? (i := 417) (by decide +kernel), List.mem_of_getElem? (i := 418) (by decide +kernel)⟩
theorem lw_p27 : lw_okq (⟨"FuseBoards", "obeyOrder", "()I"⟩, 8) := ⟨⟨by decide +kernel, by decide +kernel⟩, List.mem_of_getElem? (i := 10) (by decide +kernel), List.mem_of_getElem? (i := 430) (by decide +kernel), List.mem_of_getElem? (i := 431) (by decide +kernel)⟩
theorem lw_p28 : lw_okq (⟨"FuseBoardsModel", "changes", "()V"⟩, 14) := ⟨⟨by decide +kernel, by decide +kernel⟩, List.mem_of_getElem? (i := 470) (by decide +kernel), List.mem_of_getElem? (i := 531) (by decide +kernel), List.mem_of_getElem? (i := 532) (by decide +kernel)⟩
theorem lw_p29 : lw_okq (⟨"FuseBoardsModel", "copies", "(II)V"⟩, 14) := ⟨⟨by decide +kernel, by decide +kernel⟩, List.mem_of_getElem? (i := 470) (by decide +kernel), List.mem_of_getElem? (i := 535) (by decide +kernel), List.mem_of_getElem? (i := 536) (by decide +kernel)⟩
theorem lw_p30 : lw_okq (⟨"FuseBoardsModel", "boardError", "(III)I"⟩, 14) := ⟨⟨by decide +kernel, by decide +kernel⟩, List.mem_of_getElem? (i := 470) (by decide +kernel), List.mem_of_getElem? (i := 543) (by decide +kernel), List.mem_of_getElem? (i := 544) (by decide +kernel)⟩
theorem lw_p31 : lw_okq (⟨"FuseBoardsModel", "isBoard", "(I)Z"⟩, 14) := ⟨⟨by decide +kernel, by decide +kernel⟩, List.mem_of_getElem? (i := 470) (by decide +kernel), List.mem_of_getElem? (i := 547) (by decide +kernel), List.mem_of_getElem? (i := 548) (by decide +kernel)⟩
def lw_privs_2 : List (MethodName × Nat) := [(⟨"FuseBoards$House", "allBoards", "()I"⟩, 2), (⟨"FuseBoards$House", "burningBoards", "()I"⟩, 2), (⟨"FuseBoards", "firstBlow", "(I)I"⟩, 8), (⟨"FuseBoards", "tryFault", "(III)I"⟩, 8), (⟨"FuseBoards$Pad", "readOrder", "()Z"⟩, 7), (⟨"FuseBoards$Pad", "codeHere", "()I"⟩, 7), (⟨"FuseBoards$Pad", "skip", "(I)Z"⟩, 7), (⟨"FuseBoards$Pad", "readDigit", "()Z"⟩, 7), (⟨"FuseBoards$Pad", "isDigitHere", "()Z"⟩, 7), (⟨"FuseBoards$Pad", "readNumber", "()Z"⟩, 7), (⟨"FuseBoards$Pad", "readKind", "()Z"⟩, 7), (⟨"FuseBoards", "obeyOrder", "()I"⟩, 8), (⟨"FuseBoardsModel", "changes", "()V"⟩, 14), (⟨"FuseBoardsModel", "copies", "(II)V"⟩, 14), (⟨"FuseBoardsModel", "boardError", "(III)I"⟩, 14), (⟨"FuseBoardsModel", "isBoard", "(I)Z"⟩, 14)]
theorem lw_r2 : ∀ q ∈ lw_privs_2, lw_okq q := List.forall_mem_cons.mpr ⟨lw_p16, List.forall_mem_cons.mpr ⟨lw_p17, List.forall_mem_cons.mpr ⟨lw_p18, List.forall_mem_cons.mpr ⟨lw_p19, List.forall_mem_cons.mpr ⟨lw_p20, List.forall_mem_cons.mpr ⟨lw_p21, List.forall_mem_cons.mpr ⟨lw_p22, List.forall_mem_cons.mpr ⟨lw_p23, List.forall_mem_cons.mpr ⟨lw_p24, List.forall_mem_cons.mpr ⟨lw_p25, List.forall_mem_cons.mpr ⟨lw_p26, List.forall_mem_cons.mpr ⟨lw_p27, List.forall_mem_cons.mpr ⟨lw_p28, List.forall_mem_cons.mpr ⟨lw_p29, List.forall_mem_cons.mpr ⟨lw_p30, List.forall_mem_cons.mpr ⟨lw_p31, fun _ h => absurd h List.not_mem_nil⟩⟩⟩⟩⟩⟩⟩⟩⟩⟩⟩⟩⟩⟩⟩⟩
theorem lw_p32 : lw_okq (⟨"FuseBoardsModel", "builds", "(III)I"⟩, 14) := ⟨⟨by decide +kernel, by decide +kernel⟩, List.mem_of_getElem? (i := 470) (by decide +kernel), List.mem_of_getElem? (i := 556) (by decide +kernel), List.mem_of_getElem? (i := 557) (by decide +kernel)⟩
theorem lw_p33 : lw_okq (⟨"FuseBoardsModel", "puts", "(III)V"⟩, 14) := ⟨⟨by decide +kernel, by decide +kernel⟩, List.mem_of_getElem? (i := 470) (by decide +kernel), List.mem_of_getElem? (i := 563) (by decide +kernel), List.mem_of_getElem? (i := 564) (by decide +kernel)⟩
theorem lw_p34 : lw_okq (⟨"FuseBoardsModel", "loadError", "(II)I"⟩, 14) := ⟨⟨by decide +kernel, by decide +kernel⟩, List.mem_of_getElem? (i := 470) (by decide +kernel), List.mem_of_getElem? (i := 571) (by decide +kernel), List.mem_of_getElem? (i := 572) (by decide +kernel)⟩
theorem lw_p35 : lw_okq (⟨"FuseBoardsModel", "connects", "(II)I"⟩, 14) := ⟨⟨by decide +kernel, by decide +kernel⟩, List.mem_of_getElem? (i := 470) (by decide +kernel), List.mem_of_getElem? (i := 576) (by decide +kernel), List.mem_of_getElem? (i := 577) (by decide +kernel)⟩
theorem lw_p36 : lw_okq (⟨"FuseBoardsModel", "turnError", "(I)I"⟩, 14) := ⟨⟨by decide +kernel, by decide +kernel⟩, List.mem_of_getElem? (i := 470) (by decide +kernel), List.mem_of_getElem? (i := 587) (by decide +kernel), List.mem_of_getElem? (i := 588) (by decide +kernel)⟩
theorem lw_p37 : lw_okq (⟨"FuseBoardsModel", "isLoad", "(I)Z"⟩, 14) := ⟨⟨by decide +kernel, by decide +kernel⟩, List.mem_of_getElem? (i := 470) (by decide +kernel), List.mem_of_getElem? (i := 591) (by decide +kernel), List.mem_of_getElem? (i := 592) (by decide +kernel)⟩
theorem lw_p38 : lw_okq (⟨"FuseBoardsModel", "turns", "(I)I"⟩, 14) := ⟨⟨by decide +kernel, by decide +kernel⟩, List.mem_of_getElem? (i := 470) (by decide +kernel), List.mem_of_getElem? (i := 595) (by decide +kernel), List.mem_of_getElem? (i := 596) (by decide +kernel)⟩
theorem lw_p39 : lw_okq (⟨"FuseBoardsModel", "fuseError", "(III)I"⟩, 14) := ⟨⟨by decide +kernel, by decide +kernel⟩, List.mem_of_getElem? (i := 470) (by decide +kernel), List.mem_of_getElem? (i := 603) (by decide +kernel), List.mem_of_getElem? (i := 604) (by decide +kernel)⟩
theorem lw_p40 : lw_okq (⟨"FuseBoardsModel", "fuses", "(III)I"⟩, 14) := ⟨⟨by decide +kernel, by decide +kernel⟩, List.mem_of_getElem? (i := 470) (by decide +kernel), List.mem_of_getElem? (i := 607) (by decide +kernel), List.mem_of_getElem? (i := 608) (by decide +kernel)⟩
theorem lw_p41 : lw_okq (⟨"FuseBoardsModel", "passError", "(I)I"⟩, 14) := ⟨⟨by decide +kernel, by decide +kernel⟩, List.mem_of_getElem? (i := 470) (by decide +kernel), List.mem_of_getElem? (i := 615) (by decide +kernel), List.mem_of_getElem? (i := 616) (by decide +kernel)⟩
theorem lw_p42 : lw_okq (⟨"FuseBoardsModel", "ticks", "(II)I"⟩, 14) := ⟨⟨by decide +kernel, by decide +kernel⟩, List.mem_of_getElem? (i := 470) (by decide +kernel), List.mem_of_getElem? (i := 620) (by decide +kernel), List.mem_of_getElem? (i := 621) (by decide +kernel)⟩
theorem lw_p43 : lw_okq (⟨"FuseBoardsModel", "tick", "(I)I"⟩, 14) := ⟨⟨by decide +kernel, by decide +kernel⟩, List.mem_of_getElem? (i := 470) (by decide +kernel), List.mem_of_getElem? (i := 624) (by decide +kernel), List.mem_of_getElem? (i := 625) (by decide +kernel)⟩
theorem lw_p44 : lw_okq (⟨"FuseBoardsModel", "current", "(II)I"⟩, 14) := ⟨⟨by decide +kernel, by decide +kernel⟩, List.mem_of_getElem? (i := 470) (by decide +kernel), List.mem_of_getElem? (i := 628) (by decide +kernel), List.mem_of_getElem? (i := 629) (by decide +kernel)⟩
theorem lw_p45 : lw_okq (⟨"FuseBoardsModel", "isFed", "(III)Z"⟩, 14) := ⟨⟨by decide +kernel, by decide +kernel⟩, List.mem_of_getElem? (i := 470) (by decide +kernel), List.mem_of_getElem? (i := 632) (by decide +kernel), List.mem_of_getElem? (i := 633) (by decide +kernel)⟩
theorem lw_p46 : lw_okq (⟨"FuseBoardsModel", "isDead", "(II)Z"⟩, 14) := ⟨⟨by decide +kernel, by decide +kernel⟩, List.mem_of_getElem? (i := 470) (by decide +kernel), List.mem_of_getElem? (i := 636) (by decide +kernel), List.mem_of_getElem? (i := 637) (by decide +kernel)⟩
theorem lw_p47 : lw_okq (⟨"FuseBoardsModel", "burns", "(II)V"⟩, 14) := ⟨⟨by decide +kernel, by decide +kernel⟩, List.mem_of_getElem? (i := 470) (by decide +kernel), List.mem_of_getElem? (i := 640) (by decide +kernel), List.mem_of_getElem? (i := 641) (by decide +kernel)⟩
def lw_privs_3 : List (MethodName × Nat) := [(⟨"FuseBoardsModel", "builds", "(III)I"⟩, 14), (⟨"FuseBoardsModel", "puts", "(III)V"⟩, 14), (⟨"FuseBoardsModel", "loadError", "(II)I"⟩, 14), (⟨"FuseBoardsModel", "connects", "(II)I"⟩, 14), (⟨"FuseBoardsModel", "turnError", "(I)I"⟩, 14), (⟨"FuseBoardsModel", "isLoad", "(I)Z"⟩, 14), (⟨"FuseBoardsModel", "turns", "(I)I"⟩, 14), (⟨"FuseBoardsModel", "fuseError", "(III)I"⟩, 14), (⟨"FuseBoardsModel", "fuses", "(III)I"⟩, 14), (⟨"FuseBoardsModel", "passError", "(I)I"⟩, 14), (⟨"FuseBoardsModel", "ticks", "(II)I"⟩, 14), (⟨"FuseBoardsModel", "tick", "(I)I"⟩, 14), (⟨"FuseBoardsModel", "current", "(II)I"⟩, 14), (⟨"FuseBoardsModel", "isFed", "(III)Z"⟩, 14), (⟨"FuseBoardsModel", "isDead", "(II)Z"⟩, 14), (⟨"FuseBoardsModel", "burns", "(II)V"⟩, 14)]
theorem lw_r3 : ∀ q ∈ lw_privs_3, lw_okq q := List.forall_mem_cons.mpr ⟨lw_p32, List.forall_mem_cons.mpr ⟨lw_p33, List.forall_mem_cons.mpr ⟨lw_p34, List.forall_mem_cons.mpr ⟨lw_p35, List.forall_mem_cons.mpr ⟨lw_p36, List.forall_mem_cons.mpr ⟨lw_p37, List.forall_mem_cons.mpr ⟨lw_p38, List.forall_mem_cons.mpr ⟨lw_p39, List.forall_mem_cons.mpr ⟨lw_p40, List.forall_mem_cons.mpr ⟨lw_p41, List.forall_mem_cons.mpr ⟨lw_p42, List.forall_mem_cons.mpr ⟨lw_p43, List.forall_mem_cons.mpr ⟨lw_p44, List.forall_mem_cons.mpr ⟨lw_p45, List.forall_mem_cons.mpr ⟨lw_p46, List.forall_mem_cons.mpr ⟨lw_p47, fun _ h => absurd h List.not_mem_nil⟩⟩⟩⟩⟩⟩⟩⟩⟩⟩⟩⟩⟩⟩⟩⟩
theorem lw_p48 : lw_okq (⟨"FuseBoardsModel", "heats", "(II)V"⟩, 14) := ⟨⟨by decide +kernel, by decide +kernel⟩, List.mem_of_getElem? (i := 470) (by decide +kernel), List.mem_of_getElem? (i := 644) (by decide +kernel), List.mem_of_getElem? (i := 645) (by decide +kernel)⟩
theorem lw_p49 : lw_okq (⟨"FuseBoardsModel", "meltingHeat", "(II)I"⟩, 14) := ⟨⟨by decide +kernel, by decide +kernel⟩, List.mem_of_getElem? (i := 470) (by decide +kernel), List.mem_of_getElem? (i := 649) (by decide +kernel), List.mem_of_getElem? (i := 650) (by decide +kernel)⟩
theorem lw_p50 : lw_okq (⟨"FuseBoardsModel", "isNearest", "(II)Z"⟩, 14) := ⟨⟨by decide +kernel, by decide +kernel⟩, List.mem_of_getElem? (i := 470) (by decide +kernel), List.mem_of_getElem? (i := 653) (by decide +kernel), List.mem_of_getElem? (i := 654) (by decide +kernel)⟩
theorem lw_p51 : lw_okq (⟨"FuseBoardsModel", "blows", "(II)V"⟩, 14) := ⟨⟨by decide +kernel, by decide +kernel⟩, List.mem_of_getElem? (i := 470) (by decide +kernel), List.mem_of_getElem? (i := 657) (by decide +kernel), List.mem_of_getElem? (i := 658) (by decide +kernel)⟩
theorem lw_p52 : lw_okq (⟨"FuseBoardsModel", "depth", "(I)I"⟩, 14) := ⟨⟨by decide +kernel, by decide +kernel⟩, List.mem_of_getElem? (i := 470) (by decide +kernel), List.mem_of_getElem? (i := 671) (by decide +kernel), List.mem_of_getElem? (i := 672) (by decide +kernel)⟩
theorem lw_p53 : lw_okq (⟨"FuseBoardsModel", "works", "(I)Z"⟩, 14) := ⟨⟨by decide +kernel, by decide +kernel⟩, List.mem_of_getElem? (i := 470) (by decide +kernel), List.mem_of_getElem? (i := 679) (by decide +kernel), List.mem_of_getElem? (i := 680) (by decide +kernel)⟩
theorem lw_p54 : lw_okq (⟨"FuseBoardsModel", "boards", "(I)I"⟩, 14) := ⟨⟨by decide +kernel, by decide +kernel⟩, List.mem_of_getElem? (i := 470) (by decide +kernel), List.mem_of_getElem? (i := 695) (by decide +kernel), List.mem_of_getElem? (i := 696) (by decide +kernel)⟩
theorem lw_p55 : lw_okq (⟨"FuseBoardsModel", "working", "()I"⟩, 14) := ⟨⟨by decide +kernel, by decide +kernel⟩, List.mem_of_getElem? (i := 470) (by decide +kernel), List.mem_of_getElem? (i := 699) (by decide +kernel), List.mem_of_getElem? (i := 700) (by decide +kernel)⟩
theorem lw_p56 : lw_okq (⟨"FuseBoardsModel", "first", "(I)I"⟩, 14) := ⟨⟨by decide +kernel, by decide +kernel⟩, List.mem_of_getElem? (i := 470) (by decide +kernel), List.mem_of_getElem? (i := 707) (by decide +kernel), List.mem_of_getElem? (i := 708) (by decide +kernel)⟩
theorem lw_p57 : lw_okq (⟨"FuseBoardsModel", "tests", "(III)I"⟩, 14) := ⟨⟨by decide +kernel, by decide +kernel⟩, List.mem_of_getElem? (i := 470) (by decide +kernel), List.mem_of_getElem? (i := 719) (by decide +kernel), List.mem_of_getElem? (i := 720) (by decide +kernel)⟩
theorem lw_p58 : lw_okq (⟨"FuseBoardsModel", "readsOrder", "()Z"⟩, 14) := ⟨⟨by decide +kernel, by decide +kernel⟩, List.mem_of_getElem? (i := 470) (by decide +kernel), List.mem_of_getElem? (i := 750) (by decide +kernel), List.mem_of_getElem? (i := 751) (by decide +kernel)⟩
theorem lw_p59 : lw_okq (⟨"FuseBoardsModel", "readsFuse", "()Z"⟩, 14) := ⟨⟨by decide +kernel, by decide +kernel⟩, List.mem_of_getElem? (i := 470) (by decide +kernel), List.mem_of_getElem? (i := 754) (by decide +kernel), List.mem_of_getElem? (i := 755) (by decide +kernel)⟩
theorem lw_p60 : lw_okq (⟨"FuseBoardsModel", "digit", "()I"⟩, 14) := ⟨⟨by decide +kernel, by decide +kernel⟩, List.mem_of_getElem? (i := 470) (by decide +kernel), List.mem_of_getElem? (i := 758) (by decide +kernel), List.mem_of_getElem? (i := 759) (by decide +kernel)⟩
theorem lw_p61 : lw_okq (⟨"FuseBoardsModel", "isHere", "(II)Z"⟩, 14) := ⟨⟨by decide +kernel, by decide +kernel⟩, List.mem_of_getElem? (i := 470) (by decide +kernel), List.mem_of_getElem? (i := 762) (by decide +kernel), List.mem_of_getElem? (i := 763) (by decide +kernel)⟩
theorem lw_p62 : lw_okq (⟨"FuseBoardsModel", "takes", "(I)Z"⟩, 14) := ⟨⟨by decide +kernel, by decide +kernel⟩, List.mem_of_getElem? (i := 470) (by decide +kernel), List.mem_of_getElem? (i := 766) (by decide +kernel), List.mem_of_getElem? (i := 767) (by decide +kernel)⟩
theorem lw_p63 : lw_okq (⟨"FuseBoardsModel", "number", "()I"⟩, 14) := ⟨⟨by decide +kernel, by decide +kernel⟩, List.mem_of_getElem? (i := 470) (by decide +kernel), List.mem_of_getElem? (i := 770) (by decide +kernel), List.mem_of_getElem? (i := 771) (by decide +kernel)⟩
def lw_privs_4 : List (MethodName × Nat) := [(⟨"FuseBoardsModel", "heats", "(II)V"⟩, 14), (⟨"FuseBoardsModel", "meltingHeat", "(II)I"⟩, 14), (⟨"FuseBoardsModel", "isNearest", "(II)Z"⟩, 14), (⟨"FuseBoardsModel", "blows", "(II)V"⟩, 14), (⟨"FuseBoardsModel", "depth", "(I)I"⟩, 14), (⟨"FuseBoardsModel", "works", "(I)Z"⟩, 14), (⟨"FuseBoardsModel", "boards", "(I)I"⟩, 14), (⟨"FuseBoardsModel", "working", "()I"⟩, 14), (⟨"FuseBoardsModel", "first", "(I)I"⟩, 14), (⟨"FuseBoardsModel", "tests", "(III)I"⟩, 14), (⟨"FuseBoardsModel", "readsOrder", "()Z"⟩, 14), (⟨"FuseBoardsModel", "readsFuse", "()Z"⟩, 14), (⟨"FuseBoardsModel", "digit", "()I"⟩, 14), (⟨"FuseBoardsModel", "isHere", "(II)Z"⟩, 14), (⟨"FuseBoardsModel", "takes", "(I)Z"⟩, 14), (⟨"FuseBoardsModel", "number", "()I"⟩, 14)]
theorem lw_r4 : ∀ q ∈ lw_privs_4, lw_okq q := List.forall_mem_cons.mpr ⟨lw_p48, List.forall_mem_cons.mpr ⟨lw_p49, List.forall_mem_cons.mpr ⟨lw_p50, List.forall_mem_cons.mpr ⟨lw_p51, List.forall_mem_cons.mpr ⟨lw_p52, List.forall_mem_cons.mpr ⟨lw_p53, List.forall_mem_cons.mpr ⟨lw_p54, List.forall_mem_cons.mpr ⟨lw_p55, List.forall_mem_cons.mpr ⟨lw_p56, List.forall_mem_cons.mpr ⟨lw_p57, List.forall_mem_cons.mpr ⟨lw_p58, List.forall_mem_cons.mpr ⟨lw_p59, List.forall_mem_cons.mpr ⟨lw_p60, List.forall_mem_cons.mpr ⟨lw_p61, List.forall_mem_cons.mpr ⟨lw_p62, List.forall_mem_cons.mpr ⟨lw_p63, fun _ h => absurd h List.not_mem_nil⟩⟩⟩⟩⟩⟩⟩⟩⟩⟩⟩⟩⟩⟩⟩⟩
theorem lw_p64 : lw_okq (⟨"FuseBoardsModel", "readsKind", "()Z"⟩, 14) := ⟨⟨by decide +kernel, by decide +kernel⟩, List.mem_of_getElem? (i := 470) (by decide +kernel), List.mem_of_getElem? (i := 774) (by decide +kernel), List.mem_of_getElem? (i := 775) (by decide +kernel)⟩
theorem lw_p65 : lw_okq (⟨"FuseBoardsModel", "readsLoad", "()Z"⟩, 14) := ⟨⟨by decide +kernel, by decide +kernel⟩, List.mem_of_getElem? (i := 470) (by decide +kernel), List.mem_of_getElem? (i := 778) (by decide +kernel), List.mem_of_getElem? (i := 779) (by decide +kernel)⟩
theorem lw_p66 : lw_okq (⟨"FuseBoardsModel", "orderError", "()I"⟩, 14) := ⟨⟨by decide +kernel, by decide +kernel⟩, List.mem_of_getElem? (i := 470) (by decide +kernel), List.mem_of_getElem? (i := 787) (by decide +kernel), List.mem_of_getElem? (i := 788) (by decide +kernel)⟩
theorem lw_p67 : lw_okq (⟨"FuseBoardsModel", "does", "()I"⟩, 14) := ⟨⟨by decide +kernel, by decide +kernel⟩, List.mem_of_getElem? (i := 470) (by decide +kernel), List.mem_of_getElem? (i := 791) (by decide +kernel), List.mem_of_getElem? (i := 792) (by decide +kernel)⟩
def lw_privs_5 : List (MethodName × Nat) := [(⟨"FuseBoardsModel", "readsKind", "()Z"⟩, 14), (⟨"FuseBoardsModel", "readsLoad", "()Z"⟩, 14), (⟨"FuseBoardsModel", "orderError", "()I"⟩, 14), (⟨"FuseBoardsModel", "does", "()I"⟩, 14)]
theorem lw_r5 : ∀ q ∈ lw_privs_5, lw_okq q := List.forall_mem_cons.mpr ⟨lw_p64, List.forall_mem_cons.mpr ⟨lw_p65, List.forall_mem_cons.mpr ⟨lw_p66, List.forall_mem_cons.mpr ⟨lw_p67, fun _ h => absurd h List.not_mem_nil⟩⟩⟩⟩
def lw_privs : List (MethodName × Nat) := lw_privs_1 ++ (lw_privs_2 ++ (lw_privs_3 ++ (lw_privs_4 ++ (lw_privs_5))))
def lw_tbl : List Cond := k2_sels lw_privs ++ tables_1
theorem lw_privs_ok : ∀ q ∈ lw_privs, lw_okq q := by
  show ∀ q ∈ lw_privs_1 ++ (lw_privs_2 ++ (lw_privs_3 ++ (lw_privs_4 ++ (lw_privs_5)))), lw_okq q
  exact List.forall_mem_append.mpr ⟨lw_r1, List.forall_mem_append.mpr ⟨lw_r2, List.forall_mem_append.mpr ⟨lw_r3, List.forall_mem_append.mpr ⟨lw_r4, lw_r5⟩⟩⟩⟩
-- ===== end of PART A; then your names; then what follows =====
end
section
def RX0 : String := "FuseBoards$House"
def TX0 : u_T := fun k => match k with
  | 0 => ("FuseBoards$House", "row", "[I", true)
  | _ => ("FuseBoards$House", "flow", "[I", true)
def tyX0 : Nat → FieldType := fun k => match k with
  | 0 => .array .int
  | _ => .array .int
abbrev wsX00 : List Cond := u_ws RX0 TX0 2
theorem nmX0 : ∀ a, a < 2 → ∀ b, b < 2 → a ≠ b → (TX0 a).2.1 ≠ (TX0 b).2.1 := by decide +kernel
theorem tyX0_ok : ∀ k, k < 2 → parseFieldDescriptor (TX0 k).2.2.1 = some (tyX0 k) := by decide +kernel
abbrev cX0_init : ByteArray := prog_2_method_1_code
def yX0_init : MethodName := ⟨RX0, "<init>", "()V"⟩
abbrev cX0_copyFrom : ByteArray := prog_2_method_2_code
def yX0_copyFrom : MethodName := ⟨RX0, "copyFrom", "(LFuseBoards$House;)V"⟩
abbrev cX0_readFrom : ByteArray := prog_2_method_3_code
def yX0_readFrom : MethodName := ⟨RX0, "readFrom", "([I)V"⟩
abbrev cX0_writeTo : ByteArray := prog_2_method_4_code
def yX0_writeTo : MethodName := ⟨RX0, "writeTo", "([I)V"⟩
abbrev cX0_boards : ByteArray := prog_2_method_5_code
def yX0_boards : MethodName := ⟨RX0, "boards", "()I"⟩
abbrev cX0_isBoard : ByteArray := prog_2_method_6_code
def yX0_isBoard : MethodName := ⟨RX0, "isBoard", "(I)Z"⟩
abbrev cX0_isLoad : ByteArray := prog_2_method_7_code
def yX0_isLoad : MethodName := ⟨RX0, "isLoad", "(I)Z"⟩
abbrev cX0_rating : ByteArray := prog_2_method_8_code
def yX0_rating : MethodName := ⟨RX0, "rating", "(I)I"⟩
abbrev cX0_changeSetting : ByteArray := prog_2_method_9_code
def yX0_changeSetting : MethodName := ⟨RX0, "changeSetting", "(II)I"⟩
abbrev cX0_addBoard : ByteArray := prog_2_method_10_code
def yX0_addBoard : MethodName := ⟨RX0, "addBoard", "(III)I"⟩
abbrev cX0_addLoad : ByteArray := prog_2_method_11_code
def yX0_addLoad : MethodName := ⟨RX0, "addLoad", "(II)I"⟩
abbrev cX0_switchLoad : ByteArray := prog_2_method_12_code
def yX0_switchLoad : MethodName := ⟨RX0, "switchLoad", "(I)I"⟩
abbrev cX0_changeFuse : ByteArray := prog_2_method_13_code
def yX0_changeFuse : MethodName := ⟨RX0, "changeFuse", "(III)I"⟩
abbrev cX0_letPass : ByteArray := prog_2_method_14_code
def yX0_letPass : MethodName := ⟨RX0, "letPass", "(I)I"⟩
abbrev cX0_leaveOnlyFault : ByteArray := prog_2_method_15_code
def yX0_leaveOnlyFault : MethodName := ⟨RX0, "leaveOnlyFault", "(II)V"⟩
abbrev cX0_isFuse : ByteArray := prog_2_method_16_code
def yX0_isFuse : MethodName := ⟨RX0, "isFuse", "(II)Z"⟩
abbrev cX0_putNewFuse : ByteArray := prog_2_method_17_code
def yX0_putNewFuse : MethodName := ⟨RX0, "putNewFuse", "(III)V"⟩
abbrev cX0_tick : ByteArray := prog_2_method_18_code
def yX0_tick : MethodName := ⟨RX0, "tick", "()I"⟩
abbrev cX0_addUpCurrents : ByteArray := prog_2_method_19_code
def yX0_addUpCurrents : MethodName := ⟨RX0, "addUpCurrents", "()V"⟩
abbrev cX0_addFlow : ByteArray := prog_2_method_20_code
def yX0_addFlow : MethodName := ⟨RX0, "addFlow", "(II)V"⟩
abbrev cX0_burnArcs : ByteArray := prog_2_method_21_code
def yX0_burnArcs : MethodName := ⟨RX0, "burnArcs", "()V"⟩
abbrev cX0_warm : ByteArray := prog_2_method_22_code
def yX0_warm : MethodName := ⟨RX0, "warm", "(II)V"⟩
abbrev cX0_creep : ByteArray := prog_2_method_23_code
def yX0_creep : MethodName := ⟨RX0, "creep", "(I)V"⟩
abbrev cX0_molten : ByteArray := prog_2_method_24_code
def yX0_molten : MethodName := ⟨RX0, "molten", "()I"⟩
abbrev cX0_nearestOf : ByteArray := prog_2_method_25_code
def yX0_nearestOf : MethodName := ⟨RX0, "nearestOf", "(I)I"⟩
abbrev cX0_blow : ByteArray := prog_2_method_26_code
def yX0_blow : MethodName := ⟨RX0, "blow", "(I)V"⟩
abbrev cX0_aboutBoard : ByteArray := prog_2_method_27_code
def yX0_aboutBoard : MethodName := ⟨RX0, "aboutBoard", "(II)I"⟩
abbrev cX0_aboutLoad : ByteArray := prog_2_method_28_code
def yX0_aboutLoad : MethodName := ⟨RX0, "aboutLoad", "(II)I"⟩
abbrev cX0_aboutHouse : ByteArray := prog_2_method_29_code
def yX0_aboutHouse : MethodName := ⟨RX0, "aboutHouse", "(I)I"⟩
abbrev cX0_latestBlown : ByteArray := prog_2_method_30_code
def yX0_latestBlown : MethodName := ⟨RX0, "latestBlown", "(I)I"⟩
abbrev cX0_fedThrough : ByteArray := prog_2_method_31_code
def yX0_fedThrough : MethodName := ⟨RX0, "fedThrough", "(I)I"⟩
abbrev cX0_workingLoadsAt : ByteArray := prog_2_method_32_code
def yX0_workingLoadsAt : MethodName := ⟨RX0, "workingLoadsAt", "(I)I"⟩
abbrev cX0_allBoards : ByteArray := prog_2_method_33_code
def yX0_allBoards : MethodName := ⟨RX0, "allBoards", "()I"⟩
abbrev cX0_deadBoards : ByteArray := prog_2_method_34_code
def yX0_deadBoards : MethodName := ⟨RX0, "deadBoards", "()I"⟩
abbrev cX0_burningBoards : ByteArray := prog_2_method_35_code
def yX0_burningBoards : MethodName := ⟨RX0, "burningBoards", "()I"⟩
abbrev cX0_state : ByteArray := prog_2_method_36_code
def yX0_state : MethodName := ⟨RX0, "state", "(I)I"⟩
abbrev cX0_current : ByteArray := prog_2_method_37_code
def yX0_current : MethodName := ⟨RX0, "current", "(I)I"⟩
abbrev cX0_meltingHeat : ByteArray := prog_2_method_38_code
def yX0_meltingHeat : MethodName := ⟨RX0, "meltingHeat", "(I)I"⟩
abbrev cX0_heatFactor : ByteArray := prog_2_method_39_code
def yX0_heatFactor : MethodName := ⟨RX0, "heatFactor", "(I)I"⟩
abbrev cX0_boardsAhead : ByteArray := prog_2_method_40_code
def yX0_boardsAhead : MethodName := ⟨RX0, "boardsAhead", "(I)I"⟩
def RX1 : String := "FuseBoards$Pad"
def TX1 : u_T := fun k => match k with
  | 0 => ("FuseBoards$Pad", "codes", "[I", true)
  | 1 => ("FuseBoards$Pad", "length", "I", false)
  | 2 => ("FuseBoards$Pad", "at", "I", false)
  | 3 => ("FuseBoards$Pad", "letter", "I", false)
  | 4 => ("FuseBoards$Pad", "digit", "I", false)
  | 5 => ("FuseBoards$Pad", "number", "I", false)
  | _ => ("FuseBoards$Pad", "kind", "I", false)
def tyX1 : Nat → FieldType := fun k => match k with
  | 0 => .array .int
  | 1 => .int
  | 2 => .int
  | 3 => .int
  | 4 => .int
  | 5 => .int
  | _ => .int
abbrev wsX10 : List Cond := u_ws RX1 TX1 7
theorem nmX1 : ∀ a, a < 7 → ∀ b, b < 7 → a ≠ b → (TX1 a).2.1 ≠ (TX1 b).2.1 := by decide +kernel
theorem tyX1_ok : ∀ k, k < 7 → parseFieldDescriptor (TX1 k).2.2.1 = some (tyX1 k) := by decide +kernel
abbrev cX1_init : ByteArray := prog_3_method_1_code
def yX1_init : MethodName := ⟨RX1, "<init>", "()V"⟩
abbrev cX1_length : ByteArray := prog_3_method_2_code
def yX1_length : MethodName := ⟨RX1, "length", "()I"⟩
abbrev cX1_letter : ByteArray := prog_3_method_3_code
def yX1_letter : MethodName := ⟨RX1, "letter", "()I"⟩
abbrev cX1_digit : ByteArray := prog_3_method_4_code
def yX1_digit : MethodName := ⟨RX1, "digit", "()I"⟩
abbrev cX1_number : ByteArray := prog_3_method_5_code
def yX1_number : MethodName := ⟨RX1, "number", "()I"⟩
abbrev cX1_kind : ByteArray := prog_3_method_6_code
def yX1_kind : MethodName := ⟨RX1, "kind", "()I"⟩
abbrev cX1_append : ByteArray := prog_3_method_7_code
def yX1_append : MethodName := ⟨RX1, "append", "(J)I"⟩
abbrev cX1_clear : ByteArray := prog_3_method_8_code
def yX1_clear : MethodName := ⟨RX1, "clear", "()I"⟩
abbrev cX1_findFault : ByteArray := prog_3_method_9_code
def yX1_findFault : MethodName := ⟨RX1, "findFault", "()I"⟩
abbrev cX1_readFirstOrder : ByteArray := prog_3_method_10_code
def yX1_readFirstOrder : MethodName := ⟨RX1, "readFirstOrder", "()Z"⟩
abbrev cX1_readNextOrder : ByteArray := prog_3_method_11_code
def yX1_readNextOrder : MethodName := ⟨RX1, "readNextOrder", "()Z"⟩
abbrev cX1_countCharacters : ByteArray := prog_3_method_12_code
def yX1_countCharacters : MethodName := ⟨RX1, "countCharacters", "(J)I"⟩
abbrev cX1_codeIn : ByteArray := prog_3_method_13_code
def yX1_codeIn : MethodName := ⟨RX1, "codeIn", "(JI)I"⟩
abbrev cX1_readOrder : ByteArray := prog_3_method_14_code
def yX1_readOrder : MethodName := ⟨RX1, "readOrder", "()Z"⟩
abbrev cX1_readDigit : ByteArray := prog_3_method_15_code
def yX1_readDigit : MethodName := ⟨RX1, "readDigit", "()Z"⟩
abbrev cX1_readNumber : ByteArray := prog_3_method_16_code
def yX1_readNumber : MethodName := ⟨RX1, "readNumber", "()Z"⟩
abbrev cX1_readKind : ByteArray := prog_3_method_17_code
def yX1_readKind : MethodName := ⟨RX1, "readKind", "()Z"⟩
abbrev cX1_skip : ByteArray := prog_3_method_18_code
def yX1_skip : MethodName := ⟨RX1, "skip", "(I)Z"⟩
abbrev cX1_isDigitHere : ByteArray := prog_3_method_19_code
def yX1_isDigitHere : MethodName := ⟨RX1, "isDigitHere", "()Z"⟩
abbrev cX1_codeHere : ByteArray := prog_3_method_20_code
def yX1_codeHere : MethodName := ⟨RX1, "codeHere", "()I"⟩
def RX2 : String := "FuseBoards"
def TX2 : u_T := fun k => match k with
  | 0 => ("FuseBoards", "now", "LFuseBoards$House;", true)
  | 1 => ("FuseBoards", "trial", "LFuseBoards$House;", true)
  | 2 => ("FuseBoards", "pad", "LFuseBoards$Pad;", true)
  | 3 => ("FuseBoards", "history", "[[I", true)
  | 4 => ("FuseBoards", "slots", "[[I", true)
  | 5 => ("FuseBoards", "saved", "[Z", true)
  | 6 => ("FuseBoards", "spare", "I", false)
  | _ => ("FuseBoards", "undoable", "I", false)
def tyX2 : Nat → FieldType := fun k => match k with
  | 0 => .object "FuseBoards$House"
  | 1 => .object "FuseBoards$House"
  | 2 => .object "FuseBoards$Pad"
  | 3 => .array (.array .int)
  | 4 => .array (.array .int)
  | 5 => .array .boolean
  | 6 => .int
  | _ => .int
abbrev wsX20 : List Cond := u_ws RX2 TX2 8
theorem nmX2 : ∀ a, a < 8 → ∀ b, b < 8 → a ≠ b → (TX2 a).2.1 ≠ (TX2 b).2.1 := by decide +kernel
theorem tyX2_ok : ∀ k, k < 8 → parseFieldDescriptor (TX2 k).2.2.1 = some (tyX2 k) := by decide +kernel
abbrev cX2_init : ByteArray := prog_1_method_1_code
def yX2_init : MethodName := ⟨RX2, "<init>", "()V"⟩
abbrev cX2_set : ByteArray := prog_1_method_2_code
def yX2_set : MethodName := ⟨RX2, "set", "(II)I"⟩
abbrev cX2_board : ByteArray := prog_1_method_3_code
def yX2_board : MethodName := ⟨RX2, "board", "(III)I"⟩
abbrev cX2_load : ByteArray := prog_1_method_4_code
def yX2_load : MethodName := ⟨RX2, "load", "(II)I"⟩
abbrev cX2_turn : ByteArray := prog_1_method_5_code
def yX2_turn : MethodName := ⟨RX2, "turn", "(I)I"⟩
abbrev cX2_fuse : ByteArray := prog_1_method_6_code
def yX2_fuse : MethodName := ⟨RX2, "fuse", "(III)I"⟩
abbrev cX2_pass : ByteArray := prog_1_method_7_code
def yX2_pass : MethodName := ⟨RX2, "pass", "(I)I"⟩
abbrev cX2_of : ByteArray := prog_1_method_8_code
def yX2_of : MethodName := ⟨RX2, "of", "(II)I"⟩
abbrev cX2_ofLoad : ByteArray := prog_1_method_9_code
def yX2_ofLoad : MethodName := ⟨RX2, "ofLoad", "(II)I"⟩
abbrev cX2_fed : ByteArray := prog_1_method_10_code
def yX2_fed : MethodName := ⟨RX2, "fed", "(I)I"⟩
abbrev cX2_blown : ByteArray := prog_1_method_11_code
def yX2_blown : MethodName := ⟨RX2, "blown", "(I)I"⟩
abbrev cX2_count : ByteArray := prog_1_method_12_code
def yX2_count : MethodName := ⟨RX2, "count", "(I)I"⟩
abbrev cX2_next : ByteArray := prog_1_method_13_code
def yX2_next : MethodName := ⟨RX2, "next", "(I)I"⟩
abbrev cX2_test : ByteArray := prog_1_method_14_code
def yX2_test : MethodName := ⟨RX2, "test", "(III)I"⟩
abbrev cX2_unfair : ByteArray := prog_1_method_15_code
def yX2_unfair : MethodName := ⟨RX2, "unfair", "(I)I"⟩
abbrev cX2_ifOpen : ByteArray := prog_1_method_16_code
def yX2_ifOpen : MethodName := ⟨RX2, "ifOpen", "(I)I"⟩
abbrev cX2_put : ByteArray := prog_1_method_17_code
def yX2_put : MethodName := ⟨RX2, "put", "(J)I"⟩
abbrev cX2_wipe : ByteArray := prog_1_method_18_code
def yX2_wipe : MethodName := ⟨RX2, "wipe", "()I"⟩
abbrev cX2_fault : ByteArray := prog_1_method_19_code
def yX2_fault : MethodName := ⟨RX2, "fault", "()I"⟩
abbrev cX2_carryOut : ByteArray := prog_1_method_20_code
def yX2_carryOut : MethodName := ⟨RX2, "carryOut", "()I"⟩
abbrev cX2_undo : ByteArray := prog_1_method_21_code
def yX2_undo : MethodName := ⟨RX2, "undo", "()I"⟩
abbrev cX2_save : ByteArray := prog_1_method_22_code
def yX2_save : MethodName := ⟨RX2, "save", "(I)I"⟩
abbrev cX2_restore : ByteArray := prog_1_method_23_code
def yX2_restore : MethodName := ⟨RX2, "restore", "(I)I"⟩
abbrev cX2_isSlot : ByteArray := prog_1_method_24_code
def yX2_isSlot : MethodName := ⟨RX2, "isSlot", "(I)Z"⟩
abbrev cX2_noteState : ByteArray := prog_1_method_25_code
def yX2_noteState : MethodName := ⟨RX2, "noteState", "()V"⟩
abbrev cX2_keepUnlessError : ByteArray := prog_1_method_26_code
def yX2_keepUnlessError : MethodName := ⟨RX2, "keepUnlessError", "(I)I"⟩
abbrev cX2_isTrialQuestion : ByteArray := prog_1_method_27_code
def yX2_isTrialQuestion : MethodName := ⟨RX2, "isTrialQuestion", "(I)Z"⟩
abbrev cX2_tryFault : ByteArray := prog_1_method_28_code
def yX2_tryFault : MethodName := ⟨RX2, "tryFault", "(III)I"⟩
abbrev cX2_firstBlow : ByteArray := prog_1_method_29_code
def yX2_firstBlow : MethodName := ⟨RX2, "firstBlow", "(I)I"⟩
abbrev cX2_lowest : ByteArray := prog_1_method_30_code
def yX2_lowest : MethodName := ⟨RX2, "lowest", "(I)I"⟩
abbrev cX2_obeyOrder : ByteArray := prog_1_method_31_code
def yX2_obeyOrder : MethodName := ⟨RX2, "obeyOrder", "()I"⟩
def RX3 : String := "FuseBoardsModel"
def TX3 : u_T := fun k => match k with
  | 0 => ("FuseBoardsModel", "s", "[I", true)
  | 1 => ("FuseBoardsModel", "states", "I", false)
  | 2 => ("FuseBoardsModel", "isSaved", "[Z", true)
  | 3 => ("FuseBoardsModel", "text", "[I", true)
  | 4 => ("FuseBoardsModel", "typed", "I", false)
  | 5 => ("FuseBoardsModel", "faultBoard", "I", false)
  | 6 => ("FuseBoardsModel", "faultCurrent", "I", false)
  | 7 => ("FuseBoardsModel", "currents", "[I", true)
  | 8 => ("FuseBoardsModel", "isHot", "[Z", true)
  | 9 => ("FuseBoardsModel", "spot", "I", false)
  | 10 => ("FuseBoardsModel", "letter", "I", false)
  | 11 => ("FuseBoardsModel", "one", "I", false)
  | 12 => ("FuseBoardsModel", "two", "I", false)
  | _ => ("FuseBoardsModel", "three", "I", false)
def tyX3 : Nat → FieldType := fun k => match k with
  | 0 => .array .int
  | 1 => .int
  | 2 => .array .boolean
  | 3 => .array .int
  | 4 => .int
  | 5 => .int
  | 6 => .int
  | 7 => .array .int
  | 8 => .array .boolean
  | 9 => .int
  | 10 => .int
  | 11 => .int
  | 12 => .int
  | _ => .int
abbrev wsX30 : List Cond := u_ws RX3 TX3 14
theorem nmX3 : ∀ a, a < 14 → ∀ b, b < 14 → a ≠ b → (TX3 a).2.1 ≠ (TX3 b).2.1 := by decide +kernel
theorem tyX3_ok : ∀ k, k < 14 → parseFieldDescriptor (TX3 k).2.2.1 = some (tyX3 k) := by decide +kernel
abbrev cX3_init : ByteArray := prog_5_method_1_code
def yX3_init : MethodName := ⟨RX3, "<init>", "()V"⟩
abbrev cX3_in : ByteArray := prog_5_method_3_code
def yX3_in : MethodName := ⟨RX3, "in", "(JJJ)Z"⟩
abbrev cX3_flag : ByteArray := prog_5_method_4_code
def yX3_flag : MethodName := ⟨RX3, "flag", "(Z)I"⟩
abbrev cX3_copies : ByteArray := prog_5_method_5_code
def yX3_copies : MethodName := ⟨RX3, "copies", "(II)V"⟩
abbrev cX3_changes : ByteArray := prog_5_method_6_code
def yX3_changes : MethodName := ⟨RX3, "changes", "()V"⟩
abbrev cX3_boardAt : ByteArray := prog_5_method_7_code
def yX3_boardAt : MethodName := ⟨RX3, "boardAt", "(II)I"⟩
abbrev cX3_loadAt : ByteArray := prog_5_method_8_code
def yX3_loadAt : MethodName := ⟨RX3, "loadAt", "(II)I"⟩
abbrev cX3_isDead : ByteArray := prog_5_method_9_code
def yX3_isDead : MethodName := ⟨RX3, "isDead", "(II)Z"⟩
abbrev cX3_isFed : ByteArray := prog_5_method_10_code
def yX3_isFed : MethodName := ⟨RX3, "isFed", "(III)Z"⟩
abbrev cX3_current : ByteArray := prog_5_method_11_code
def yX3_current : MethodName := ⟨RX3, "current", "(II)I"⟩
abbrev cX3_meltingHeat : ByteArray := prog_5_method_12_code
def yX3_meltingHeat : MethodName := ⟨RX3, "meltingHeat", "(II)I"⟩
abbrev cX3_burns : ByteArray := prog_5_method_13_code
def yX3_burns : MethodName := ⟨RX3, "burns", "(II)V"⟩
abbrev cX3_heats : ByteArray := prog_5_method_14_code
def yX3_heats : MethodName := ⟨RX3, "heats", "(II)V"⟩
abbrev cX3_isNearest : ByteArray := prog_5_method_15_code
def yX3_isNearest : MethodName := ⟨RX3, "isNearest", "(II)Z"⟩
abbrev cX3_blows : ByteArray := prog_5_method_16_code
def yX3_blows : MethodName := ⟨RX3, "blows", "(II)V"⟩
abbrev cX3_tick : ByteArray := prog_5_method_17_code
def yX3_tick : MethodName := ⟨RX3, "tick", "(I)I"⟩
abbrev cX3_ones : ByteArray := prog_5_method_18_code
def yX3_ones : MethodName := ⟨RX3, "ones", "(I)I"⟩
abbrev cX3_ticks : ByteArray := prog_5_method_19_code
def yX3_ticks : MethodName := ⟨RX3, "ticks", "(II)I"⟩
abbrev cX3_isBoard : ByteArray := prog_5_method_20_code
def yX3_isBoard : MethodName := ⟨RX3, "isBoard", "(I)Z"⟩
abbrev cX3_isLoad : ByteArray := prog_5_method_21_code
def yX3_isLoad : MethodName := ⟨RX3, "isLoad", "(I)Z"⟩
abbrev cX3_isFuse : ByteArray := prog_5_method_22_code
def yX3_isFuse : MethodName := ⟨RX3, "isFuse", "(II)Z"⟩
abbrev cX3_boardError : ByteArray := prog_5_method_23_code
def yX3_boardError : MethodName := ⟨RX3, "boardError", "(III)I"⟩
abbrev cX3_loadError : ByteArray := prog_5_method_24_code
def yX3_loadError : MethodName := ⟨RX3, "loadError", "(II)I"⟩
abbrev cX3_turnError : ByteArray := prog_5_method_25_code
def yX3_turnError : MethodName := ⟨RX3, "turnError", "(I)I"⟩
abbrev cX3_fuseError : ByteArray := prog_5_method_26_code
def yX3_fuseError : MethodName := ⟨RX3, "fuseError", "(III)I"⟩
abbrev cX3_passError : ByteArray := prog_5_method_27_code
def yX3_passError : MethodName := ⟨RX3, "passError", "(I)I"⟩
abbrev cX3_puts : ByteArray := prog_5_method_28_code
def yX3_puts : MethodName := ⟨RX3, "puts", "(III)V"⟩
abbrev cX3_builds : ByteArray := prog_5_method_29_code
def yX3_builds : MethodName := ⟨RX3, "builds", "(III)I"⟩
abbrev cX3_connects : ByteArray := prog_5_method_30_code
def yX3_connects : MethodName := ⟨RX3, "connects", "(II)I"⟩
abbrev cX3_turns : ByteArray := prog_5_method_31_code
def yX3_turns : MethodName := ⟨RX3, "turns", "(I)I"⟩
abbrev cX3_fuses : ByteArray := prog_5_method_32_code
def yX3_fuses : MethodName := ⟨RX3, "fuses", "(III)I"⟩
abbrev cX3_isValue : ByteArray := prog_5_method_33_code
def yX3_isValue : MethodName := ⟨RX3, "isValue", "(II)Z"⟩
abbrev cX3_set : ByteArray := prog_5_method_34_code
def yX3_set : MethodName := ⟨RX3, "set", "(II)I"⟩
abbrev cX3_board : ByteArray := prog_5_method_35_code
def yX3_board : MethodName := ⟨RX3, "board", "(III)I"⟩
abbrev cX3_load : ByteArray := prog_5_method_36_code
def yX3_load : MethodName := ⟨RX3, "load", "(II)I"⟩
abbrev cX3_turn : ByteArray := prog_5_method_37_code
def yX3_turn : MethodName := ⟨RX3, "turn", "(I)I"⟩
abbrev cX3_fuse : ByteArray := prog_5_method_38_code
def yX3_fuse : MethodName := ⟨RX3, "fuse", "(III)I"⟩
abbrev cX3_pass : ByteArray := prog_5_method_39_code
def yX3_pass : MethodName := ⟨RX3, "pass", "(I)I"⟩
abbrev cX3_depth : ByteArray := prog_5_method_40_code
def yX3_depth : MethodName := ⟨RX3, "depth", "(I)I"⟩
abbrev cX3_of : ByteArray := prog_5_method_41_code
def yX3_of : MethodName := ⟨RX3, "of", "(II)I"⟩
abbrev cX3_works : ByteArray := prog_5_method_42_code
def yX3_works : MethodName := ⟨RX3, "works", "(I)Z"⟩
abbrev cX3_ofLoad : ByteArray := prog_5_method_43_code
def yX3_ofLoad : MethodName := ⟨RX3, "ofLoad", "(II)I"⟩
abbrev cX3_fed : ByteArray := prog_5_method_44_code
def yX3_fed : MethodName := ⟨RX3, "fed", "(I)I"⟩
abbrev cX3_blown : ByteArray := prog_5_method_45_code
def yX3_blown : MethodName := ⟨RX3, "blown", "(I)I"⟩
abbrev cX3_boards : ByteArray := prog_5_method_46_code
def yX3_boards : MethodName := ⟨RX3, "boards", "(I)I"⟩
abbrev cX3_working : ByteArray := prog_5_method_47_code
def yX3_working : MethodName := ⟨RX3, "working", "()I"⟩
abbrev cX3_count : ByteArray := prog_5_method_48_code
def yX3_count : MethodName := ⟨RX3, "count", "(I)I"⟩
abbrev cX3_lowest : ByteArray := prog_5_method_49_code
def yX3_lowest : MethodName := ⟨RX3, "lowest", "(I)I"⟩
abbrev cX3_first : ByteArray := prog_5_method_50_code
def yX3_first : MethodName := ⟨RX3, "first", "(I)I"⟩
abbrev cX3_next : ByteArray := prog_5_method_51_code
def yX3_next : MethodName := ⟨RX3, "next", "(I)I"⟩
abbrev cX3_tests : ByteArray := prog_5_method_52_code
def yX3_tests : MethodName := ⟨RX3, "tests", "(III)I"⟩
abbrev cX3_test : ByteArray := prog_5_method_53_code
def yX3_test : MethodName := ⟨RX3, "test", "(III)I"⟩
abbrev cX3_unfair : ByteArray := prog_5_method_54_code
def yX3_unfair : MethodName := ⟨RX3, "unfair", "(I)I"⟩
abbrev cX3_ifOpen : ByteArray := prog_5_method_55_code
def yX3_ifOpen : MethodName := ⟨RX3, "ifOpen", "(I)I"⟩
abbrev cX3_charactersOf : ByteArray := prog_5_method_56_code
def yX3_charactersOf : MethodName := ⟨RX3, "charactersOf", "(J)I"⟩
abbrev cX3_put : ByteArray := prog_5_method_57_code
def yX3_put : MethodName := ⟨RX3, "put", "(J)I"⟩
abbrev cX3_wipe : ByteArray := prog_5_method_58_code
def yX3_wipe : MethodName := ⟨RX3, "wipe", "()I"⟩
abbrev cX3_isHere : ByteArray := prog_5_method_59_code
def yX3_isHere : MethodName := ⟨RX3, "isHere", "(II)Z"⟩
abbrev cX3_takes : ByteArray := prog_5_method_60_code
def yX3_takes : MethodName := ⟨RX3, "takes", "(I)Z"⟩
abbrev cX3_digit : ByteArray := prog_5_method_61_code
def yX3_digit : MethodName := ⟨RX3, "digit", "()I"⟩
abbrev cX3_number : ByteArray := prog_5_method_62_code
def yX3_number : MethodName := ⟨RX3, "number", "()I"⟩
abbrev cX3_readsKind : ByteArray := prog_5_method_63_code
def yX3_readsKind : MethodName := ⟨RX3, "readsKind", "()Z"⟩
abbrev cX3_readsFuse : ByteArray := prog_5_method_64_code
def yX3_readsFuse : MethodName := ⟨RX3, "readsFuse", "()Z"⟩
abbrev cX3_readsLoad : ByteArray := prog_5_method_65_code
def yX3_readsLoad : MethodName := ⟨RX3, "readsLoad", "()Z"⟩
abbrev cX3_readsOrder : ByteArray := prog_5_method_66_code
def yX3_readsOrder : MethodName := ⟨RX3, "readsOrder", "()Z"⟩
abbrev cX3_fault : ByteArray := prog_5_method_67_code
def yX3_fault : MethodName := ⟨RX3, "fault", "()I"⟩
abbrev cX3_orderError : ByteArray := prog_5_method_68_code
def yX3_orderError : MethodName := ⟨RX3, "orderError", "()I"⟩
abbrev cX3_does : ByteArray := prog_5_method_69_code
def yX3_does : MethodName := ⟨RX3, "does", "()I"⟩
abbrev cX3_carryOut : ByteArray := prog_5_method_70_code
def yX3_carryOut : MethodName := ⟨RX3, "carryOut", "()I"⟩
abbrev cX3_undo : ByteArray := prog_5_method_71_code
def yX3_undo : MethodName := ⟨RX3, "undo", "()I"⟩
abbrev cX3_isSlot : ByteArray := prog_5_method_72_code
def yX3_isSlot : MethodName := ⟨RX3, "isSlot", "(I)Z"⟩
abbrev cX3_save : ByteArray := prog_5_method_73_code
def yX3_save : MethodName := ⟨RX3, "save", "(I)I"⟩
abbrev cX3_restore : ByteArray := prog_5_method_74_code
def yX3_restore : MethodName := ⟨RX3, "restore", "(I)I"⟩
def RJ6 : String := "java/lang/Integer"
def TJ6 : u_T := fun k => match k with
  | _ => ("", "", "", false)
def tyJ6 : Nat → FieldType := fun k => match k with
  | _ => .int
abbrev wsJ60 : List Cond := u_ws RJ6 TJ6 0
theorem nmJ6 : ∀ a, a < 0 → ∀ b, b < 0 → a ≠ b → (TJ6 a).2.1 ≠ (TJ6 b).2.1 := by decide +kernel
theorem tyJ6_ok : ∀ k, k < 0 → parseFieldDescriptor (TJ6 k).2.2.1 = some (tyJ6 k) := by decide +kernel
abbrev cJ6_bitCount_0f7a4 : ByteArray := prog_6_method_49_code
def yJ6_bitCount_0f7a4 : MethodName := ⟨RJ6, "bitCount", "(I)I"⟩
def RJ9 : String := "java/lang/Math"
def TJ9 : u_T := fun k => match k with
  | _ => ("", "", "", false)
def tyJ9 : Nat → FieldType := fun k => match k with
  | _ => .int
abbrev wsJ90 : List Cond := u_ws RJ9 TJ9 0
theorem nmJ9 : ∀ a, a < 0 → ∀ b, b < 0 → a ≠ b → (TJ9 a).2.1 ≠ (TJ9 b).2.1 := by decide +kernel
theorem tyJ9_ok : ∀ k, k < 0 → parseFieldDescriptor (TJ9 k).2.2.1 = some (tyJ9 k) := by decide +kernel
abbrev cJ9_max_7cf53 : ByteArray := prog_7_method_65_code
def yJ9_max_7cf53 : MethodName := ⟨RJ9, "max", "(II)I"⟩
abbrev cJ9_min_7cf53 : ByteArray := prog_7_method_69_code
def yJ9_min_7cf53 : MethodName := ⟨RJ9, "min", "(II)I"⟩
def RJ10 : String := "java/lang/System"
def TJ10 : u_T := fun k => match k with
  | _ => ("", "", "", false)
def tyJ10 : Nat → FieldType := fun k => match k with
  | _ => .int
abbrev wsJ100 : List Cond := u_ws RJ10 TJ10 0
theorem nmJ10 : ∀ a, a < 0 → ∀ b, b < 0 → a ≠ b → (TJ10 a).2.1 ≠ (TJ10 b).2.1 := by decide +kernel
theorem tyJ10_ok : ∀ k, k < 0 → parseFieldDescriptor (TJ10 k).2.2.1 = some (tyJ10 k) := by decide +kernel
def RJ7 : String := "java/util/Arrays"
def TJ7 : u_T := fun k => match k with
  | _ => ("", "", "", false)
def tyJ7 : Nat → FieldType := fun k => match k with
  | _ => .int
abbrev wsJ70 : List Cond := u_ws RJ7 TJ7 0
theorem nmJ7 : ∀ a, a < 0 → ∀ b, b < 0 → a ≠ b → (TJ7 a).2.1 ≠ (TJ7 b).2.1 := by decide +kernel
theorem tyJ7_ok : ∀ k, k < 0 → parseFieldDescriptor (TJ7 k).2.2.1 = some (tyJ7 k) := by decide +kernel
abbrev cJ7_rangeCheck_23922 : ByteArray := prog_9_method_30_code
def yJ7_rangeCheck_23922 : MethodName := ⟨RJ7, "rangeCheck", "(III)V"⟩
abbrev cJ7_fill_53178 : ByteArray := prog_9_method_103_code
def yJ7_fill_53178 : MethodName := ⟨RJ7, "fill", "([II)V"⟩
abbrev cJ7_fill_fda19 : ByteArray := prog_9_method_104_code
def yJ7_fill_fda19 : MethodName := ⟨RJ7, "fill", "([IIII)V"⟩
def RL : String := "FuseBoardsLaw"
abbrev cL_law : ByteArray := code
def yL_law : MethodName := ⟨RL, "law", "([I)Z"⟩
abbrev vwCl : List vw_C := [(RX0, TX0, 2), (RX1, TX1, 7), (RX2, TX2, 8), (RX3, TX3, 14)]
end
section
theorem mt_1 : ∀ w ∈ tables_1_1, w ∈ lw_tbl := fun _ h => List.mem_append_right _ (List.mem_append_left _ h)
theorem mt_2 : ∀ w ∈ tables_1_2, w ∈ lw_tbl := fun _ h => List.mem_append_right _ (List.mem_append_right _ (List.mem_append_left _ h))
theorem mt_3 : ∀ w ∈ tables_1_3, w ∈ lw_tbl := fun _ h => List.mem_append_right _ (List.mem_append_right _ (List.mem_append_right _ (List.mem_append_left _ h)))
theorem mt_4 : ∀ w ∈ tables_1_4, w ∈ lw_tbl := fun _ h => List.mem_append_right _ (List.mem_append_right _ (List.mem_append_right _ (List.mem_append_right _ h)))
theorem mp_1 : ∀ q ∈ lw_privs_1, Cond.selects q.1.cls q.1 q.1 ∈ lw_tbl := fun q h => List.mem_append_left _ (List.mem_map_of_mem (f := fun q : MethodName × Nat => Cond.selects q.1.cls q.1 q.1) (List.mem_append_left _ h))
theorem mp_2 : ∀ q ∈ lw_privs_2, Cond.selects q.1.cls q.1 q.1 ∈ lw_tbl := fun q h => List.mem_append_left _ (List.mem_map_of_mem (f := fun q : MethodName × Nat => Cond.selects q.1.cls q.1 q.1) (List.mem_append_right _ (List.mem_append_left _ h)))
theorem mp_3 : ∀ q ∈ lw_privs_3, Cond.selects q.1.cls q.1 q.1 ∈ lw_tbl := fun q h => List.mem_append_left _ (List.mem_map_of_mem (f := fun q : MethodName × Nat => Cond.selects q.1.cls q.1 q.1) (List.mem_append_right _ (List.mem_append_right _ (List.mem_append_left _ h))))
theorem mp_4 : ∀ q ∈ lw_privs_4, Cond.selects q.1.cls q.1 q.1 ∈ lw_tbl := fun q h => List.mem_append_left _ (List.mem_map_of_mem (f := fun q : MethodName × Nat => Cond.selects q.1.cls q.1 q.1) (List.mem_append_right _ (List.mem_append_right _ (List.mem_append_right _ (List.mem_append_left _ h)))))
theorem mp_5 : ∀ q ∈ lw_privs_5, Cond.selects q.1.cls q.1 q.1 ∈ lw_tbl := fun q h => List.mem_append_left _ (List.mem_map_of_mem (f := fun q : MethodName × Nat => Cond.selects q.1.cls q.1 q.1) (List.mem_append_right _ (List.mem_append_right _ (List.mem_append_right _ (List.mem_append_right _ (h))))))
def lw_tg : List Cond := lw_tbl.filter goodWord
theorem lw_good : GoodIn lw_tg lw_tg := fun w h => ⟨h, good_of_word (List.mem_filter.mp h).2⟩
theorem tg_of {w : Cond} (h : w ∈ lw_tbl) (g : goodWord w = true) : w ∈ lw_tg := List.mem_filter.mpr ⟨h, g⟩
theorem in_X0 : ∀ w ∈ u_ws RX0 TX0 2, w ∈ lw_tg := by decide +kernel
theorem in_X1 : ∀ w ∈ u_ws RX1 TX1 7, w ∈ lw_tg := by decide +kernel
theorem in_X2 : ∀ w ∈ u_ws RX2 TX2 8, w ∈ lw_tg := by decide +kernel
theorem in_X3 : ∀ w ∈ u_ws RX3 TX3 14, w ∈ lw_tg := by decide +kernel
theorem tw_0 : Cond.classLink RL 7 RX2 ∈ lw_tg := tg_of (mt_1 _ (List.mem_of_getElem? (i := 9) (by rfl))) (by rfl)
theorem tw_1 : Cond.instantiable RX2 8 ∈ lw_tg := tg_of (mt_1 _ (List.mem_of_getElem? (i := 10) (by rfl))) (by rfl)
theorem tw_2 : Cond.initialized RX2 ∈ lw_tg := tg_of (mt_1 _ (List.mem_of_getElem? (i := 1) (by rfl))) (by rfl)
theorem tw_3 : Cond.classLink RL 10 RX3 ∈ lw_tg := tg_of (mt_2 _ (List.mem_of_getElem? (i := 229) (by rfl))) (by rfl)
theorem tw_4 : Cond.instantiable RX3 14 ∈ lw_tg := tg_of (mt_2 _ (List.mem_of_getElem? (i := 230) (by rfl))) (by rfl)
theorem tw_5 : Cond.initialized RX3 ∈ lw_tg := tg_of (mt_1 _ (List.mem_of_getElem? (i := 4) (by rfl))) (by rfl)
theorem tw_6 : Cond.constantLong RL 76 (4294967295) ∈ lw_tg := tg_of (mt_4 _ (List.mem_of_getElem? (i := 89) (by rfl))) (by rfl)
theorem tw_7 : Cond.methodLink RL 9 yX2_init ∈ lw_tg := tg_of (mt_1 _ (List.mem_of_getElem? (i := 11) (by rfl))) (by rfl)
theorem tw_8 : Cond.instanceMethod yX2_init ∈ lw_tg := tg_of (mt_1 _ (List.mem_of_getElem? (i := 12) (by rfl))) (by rfl)
theorem tw_9 : Cond.code yX2_init cX2_init 1 none ∈ lw_tg := tg_of (mt_1 _ (List.mem_of_getElem? (i := 13) (by rfl))) (by rfl)
theorem tw_10 : Cond.methodLink RX2 3 objectInit ∈ lw_tg := tg_of (mt_1 _ (List.mem_of_getElem? (i := 14) (by rfl))) (by rfl)
theorem tw_11 : Cond.instanceMethod objectInit ∈ lw_tg := tg_of (mt_1 _ (List.mem_of_getElem? (i := 15) (by rfl))) (by rfl)
theorem tw_12 : Cond.code objectInit ⟨#[0xb1]⟩ 1 none ∈ lw_tg := tg_of (mt_1 _ (List.mem_of_getElem? (i := 16) (by rfl))) (by rfl)
theorem tw_13 : Cond.classLink RX2 9 RX0 ∈ lw_tg := tg_of (mt_1 _ (List.mem_of_getElem? (i := 17) (by rfl))) (by rfl)
theorem tw_14 : Cond.instantiable RX0 2 ∈ lw_tg := tg_of (mt_1 _ (List.mem_of_getElem? (i := 18) (by rfl))) (by rfl)
theorem tw_15 : Cond.initialized RX0 ∈ lw_tg := tg_of (mt_1 _ (List.mem_of_getElem? (i := 2) (by rfl))) (by rfl)
theorem tw_16 : Cond.fieldLink RX2 12 "FuseBoards" "now" "LFuseBoards$House;" ∈ lw_tg := tg_of (mt_1 _ (List.mem_of_getElem? (i := 61) (by rfl))) (by rfl)
theorem tw_17 : Cond.fieldLink RX2 16 "FuseBoards" "trial" "LFuseBoards$House;" ∈ lw_tg := tg_of (mt_1 _ (List.mem_of_getElem? (i := 62) (by rfl))) (by rfl)
theorem tw_18 : Cond.classLink RX2 19 RX1 ∈ lw_tg := tg_of (mt_1 _ (List.mem_of_getElem? (i := 31) (by rfl))) (by rfl)
theorem tw_19 : Cond.instantiable RX1 7 ∈ lw_tg := tg_of (mt_1 _ (List.mem_of_getElem? (i := 32) (by rfl))) (by rfl)
theorem tw_20 : Cond.initialized RX1 ∈ lw_tg := tg_of (mt_1 _ (List.mem_of_getElem? (i := 3) (by rfl))) (by rfl)
theorem tw_21 : Cond.fieldLink RX2 22 "FuseBoards" "pad" "LFuseBoards$Pad;" ∈ lw_tg := tg_of (mt_1 _ (List.mem_of_getElem? (i := 63) (by rfl))) (by rfl)
theorem tw_22 : Cond.classLink RX2 26 "[[I" ∈ lw_tg := tg_of (mt_1 _ (List.mem_of_getElem? (i := 59) (by rfl))) (by rfl)
theorem tw_23 : Cond.arrayClass .int ∈ lw_tg := tg_of (mt_1 _ (List.mem_of_getElem? (i := 30) (by rfl))) (by rfl)
theorem tw_24 : Cond.fieldLink RX2 28 "FuseBoards" "history" "[[I" ∈ lw_tg := tg_of (mt_1 _ (List.mem_of_getElem? (i := 64) (by rfl))) (by rfl)
theorem tw_25 : Cond.fieldLink RX2 31 "FuseBoards" "slots" "[[I" ∈ lw_tg := tg_of (mt_1 _ (List.mem_of_getElem? (i := 65) (by rfl))) (by rfl)
theorem tw_26 : Cond.arrayClass .boolean ∈ lw_tg := tg_of (mt_1 _ (List.mem_of_getElem? (i := 86) (by rfl))) (by rfl)
theorem tw_27 : Cond.fieldLink RX2 34 "FuseBoards" "saved" "[Z" ∈ lw_tg := tg_of (mt_1 _ (List.mem_of_getElem? (i := 66) (by rfl))) (by rfl)
theorem tw_28 : Cond.fieldLink RX2 38 "FuseBoards" "spare" "I" ∈ lw_tg := tg_of (mt_1 _ (List.mem_of_getElem? (i := 67) (by rfl))) (by rfl)
theorem tw_29 : Cond.fieldLink RX2 42 "FuseBoards" "undoable" "I" ∈ lw_tg := tg_of (mt_1 _ (List.mem_of_getElem? (i := 68) (by rfl))) (by rfl)
theorem tw_30 : Cond.methodLink RX2 11 yX0_init ∈ lw_tg := tg_of (mt_1 _ (List.mem_of_getElem? (i := 19) (by rfl))) (by rfl)
theorem tw_31 : Cond.instanceMethod yX0_init ∈ lw_tg := tg_of (mt_1 _ (List.mem_of_getElem? (i := 20) (by rfl))) (by rfl)
theorem tw_32 : Cond.code yX0_init cX0_init 1 none ∈ lw_tg := tg_of (mt_1 _ (List.mem_of_getElem? (i := 21) (by rfl))) (by rfl)
theorem tw_33 : Cond.methodLink RX0 5 objectInit ∈ lw_tg := tg_of (mt_1 _ (List.mem_of_getElem? (i := 22) (by rfl))) (by rfl)
theorem tw_34 : Cond.fieldLink RX0 11 "FuseBoards$House" "row" "[I" ∈ lw_tg := tg_of (mt_1 _ (List.mem_of_getElem? (i := 23) (by rfl))) (by rfl)
theorem tw_35 : Cond.fieldLink RX0 15 "FuseBoards$House" "flow" "[I" ∈ lw_tg := tg_of (mt_1 _ (List.mem_of_getElem? (i := 24) (by rfl))) (by rfl)
theorem tw_36 : Cond.methodLink RX2 21 yX1_init ∈ lw_tg := tg_of (mt_1 _ (List.mem_of_getElem? (i := 33) (by rfl))) (by rfl)
theorem tw_37 : Cond.instanceMethod yX1_init ∈ lw_tg := tg_of (mt_1 _ (List.mem_of_getElem? (i := 34) (by rfl))) (by rfl)
theorem tw_38 : Cond.code yX1_init cX1_init 1 none ∈ lw_tg := tg_of (mt_1 _ (List.mem_of_getElem? (i := 35) (by rfl))) (by rfl)
theorem tw_39 : Cond.methodLink RX1 3 objectInit ∈ lw_tg := tg_of (mt_1 _ (List.mem_of_getElem? (i := 36) (by rfl))) (by rfl)
theorem tw_40 : Cond.fieldLink RX1 11 "FuseBoards$Pad" "codes" "[I" ∈ lw_tg := tg_of (mt_1 _ (List.mem_of_getElem? (i := 37) (by rfl))) (by rfl)
theorem tw_41 : Cond.fieldLink RX1 15 "FuseBoards$Pad" "length" "I" ∈ lw_tg := tg_of (mt_1 _ (List.mem_of_getElem? (i := 38) (by rfl))) (by rfl)
theorem tw_42 : Cond.fieldLink RX1 19 "FuseBoards$Pad" "at" "I" ∈ lw_tg := tg_of (mt_1 _ (List.mem_of_getElem? (i := 39) (by rfl))) (by rfl)
theorem tw_43 : Cond.fieldLink RX1 22 "FuseBoards$Pad" "letter" "I" ∈ lw_tg := tg_of (mt_1 _ (List.mem_of_getElem? (i := 40) (by rfl))) (by rfl)
theorem tw_44 : Cond.fieldLink RX1 25 "FuseBoards$Pad" "digit" "I" ∈ lw_tg := tg_of (mt_1 _ (List.mem_of_getElem? (i := 41) (by rfl))) (by rfl)
theorem tw_45 : Cond.fieldLink RX1 28 "FuseBoards$Pad" "number" "I" ∈ lw_tg := tg_of (mt_1 _ (List.mem_of_getElem? (i := 42) (by rfl))) (by rfl)
theorem tw_46 : Cond.fieldLink RX1 31 "FuseBoards$Pad" "kind" "I" ∈ lw_tg := tg_of (mt_1 _ (List.mem_of_getElem? (i := 43) (by rfl))) (by rfl)
theorem tw_47 : Cond.methodLink RL 12 yX3_init ∈ lw_tg := tg_of (mt_2 _ (List.mem_of_getElem? (i := 231) (by rfl))) (by rfl)
theorem tw_48 : Cond.instanceMethod yX3_init ∈ lw_tg := tg_of (mt_2 _ (List.mem_of_getElem? (i := 232) (by rfl))) (by rfl)
theorem tw_49 : Cond.code yX3_init cX3_init 1 none ∈ lw_tg := tg_of (mt_2 _ (List.mem_of_getElem? (i := 233) (by rfl))) (by rfl)
theorem tw_50 : Cond.methodLink RX3 1 objectInit ∈ lw_tg := tg_of (mt_2 _ (List.mem_of_getElem? (i := 234) (by rfl))) (by rfl)
theorem tw_51 : Cond.fieldLink RX3 7 "FuseBoardsModel" "s" "[I" ∈ lw_tg := tg_of (mt_2 _ (List.mem_of_getElem? (i := 235) (by rfl))) (by rfl)
theorem tw_52 : Cond.fieldLink RX3 13 "FuseBoardsModel" "isSaved" "[Z" ∈ lw_tg := tg_of (mt_2 _ (List.mem_of_getElem? (i := 237) (by rfl))) (by rfl)
theorem tw_53 : Cond.fieldLink RX3 17 "FuseBoardsModel" "text" "[I" ∈ lw_tg := tg_of (mt_2 _ (List.mem_of_getElem? (i := 238) (by rfl))) (by rfl)
theorem tw_54 : Cond.fieldLink RX3 20 "FuseBoardsModel" "faultBoard" "I" ∈ lw_tg := tg_of (mt_3 _ (List.mem_of_getElem? (i := 0) (by rfl))) (by rfl)
theorem tw_55 : Cond.fieldLink RX3 24 "FuseBoardsModel" "currents" "[I" ∈ lw_tg := tg_of (mt_3 _ (List.mem_of_getElem? (i := 2) (by rfl))) (by rfl)
theorem tw_56 : Cond.fieldLink RX3 27 "FuseBoardsModel" "isHot" "[Z" ∈ lw_tg := tg_of (mt_3 _ (List.mem_of_getElem? (i := 3) (by rfl))) (by rfl)
theorem tw_57 : Cond.methodLink RL 13 yX2_set ∈ lw_tg := tg_of (mt_1 _ (List.mem_of_getElem? (i := 87) (by rfl))) (by rfl)
theorem tw_58 : Cond.instanceMethod yX2_set ∈ lw_tg := tg_of (mt_1 _ (List.mem_of_getElem? (i := 88) (by rfl))) (by rfl)
theorem tw_59 : Cond.selects RX2 yX2_set yX2_set ∈ lw_tg := tg_of (mt_1 _ (List.mem_of_getElem? (i := 89) (by rfl))) (by rfl)
theorem tw_60 : Cond.code yX2_set cX2_set 3 (some .int) ∈ lw_tg := tg_of (mt_1 _ (List.mem_of_getElem? (i := 90) (by rfl))) (by rfl)
theorem tw_61 : Cond.methodLink RX2 45 yX2_noteState ∈ lw_tg := tg_of (mt_1 _ (List.mem_of_getElem? (i := 91) (by rfl))) (by rfl)
theorem tw_62 : Cond.instanceMethod yX2_noteState ∈ lw_tg := tg_of (mt_1 _ (List.mem_of_getElem? (i := 93) (by rfl))) (by rfl)
theorem tw_63 : Cond.selects RX2 yX2_noteState yX2_noteState ∈ lw_tg := tg_of (mp_1 _ (List.mem_of_getElem? (l := lw_privs_1) (i := 0) (by rfl))) (by rfl)
theorem tw_64 : Cond.code yX2_noteState cX2_noteState 1 none ∈ lw_tg := tg_of (mt_1 _ (List.mem_of_getElem? (i := 94) (by rfl))) (by rfl)
theorem tw_65 : Cond.methodLink RX2 147 yX0_writeTo ∈ lw_tg := tg_of (mt_1 _ (List.mem_of_getElem? (i := 95) (by rfl))) (by rfl)
theorem tw_66 : Cond.instanceMethod yX0_writeTo ∈ lw_tg := tg_of (mt_1 _ (List.mem_of_getElem? (i := 96) (by rfl))) (by rfl)
theorem tw_67 : Cond.selects RX0 yX0_writeTo yX0_writeTo ∈ lw_tg := tg_of (mt_1 _ (List.mem_of_getElem? (i := 97) (by rfl))) (by rfl)
theorem tw_68 : Cond.code yX0_writeTo cX0_writeTo 2 none ∈ lw_tg := tg_of (mt_1 _ (List.mem_of_getElem? (i := 98) (by rfl))) (by rfl)
theorem tw_69 : Cond.methodLink RX0 18 arraycopyName ∈ lw_tg := tg_of (mt_1 _ (List.mem_of_getElem? (i := 99) (by rfl))) (by rfl)
theorem tw_70 : Cond.native arraycopyName ∈ lw_tg := tg_of (mt_1 _ (List.mem_of_getElem? (i := 101) (by rfl))) (by rfl)
theorem tw_71 : Cond.static arraycopyName ∈ lw_tg := tg_of (mt_1 _ (List.mem_of_getElem? (i := 100) (by rfl))) (by rfl)
theorem tw_72 : Cond.initialized "java/lang/System" ∈ lw_tg := tg_of (mt_1 _ (List.mem_of_getElem? (i := 5) (by rfl))) (by rfl)
theorem tw_73 : Cond.methodLink RX2 48 yX0_changeSetting ∈ lw_tg := tg_of (mt_1 _ (List.mem_of_getElem? (i := 102) (by rfl))) (by rfl)
theorem tw_74 : Cond.instanceMethod yX0_changeSetting ∈ lw_tg := tg_of (mt_1 _ (List.mem_of_getElem? (i := 103) (by rfl))) (by rfl)
theorem tw_75 : Cond.selects RX0 yX0_changeSetting yX0_changeSetting ∈ lw_tg := tg_of (mt_1 _ (List.mem_of_getElem? (i := 104) (by rfl))) (by rfl)
theorem tw_76 : Cond.code yX0_changeSetting cX0_changeSetting 4 (some .int) ∈ lw_tg := tg_of (mt_1 _ (List.mem_of_getElem? (i := 105) (by rfl))) (by rfl)
theorem tw_77 : Cond.fieldLink RX0 28 "FuseBoards$House" "LEAST_VALUES" "[I" ∈ lw_tg := tg_of (mt_1 _ (List.mem_of_getElem? (i := 106) (by rfl))) (by rfl)
theorem tw_78 : Cond.fieldLink RX0 31 "FuseBoards$House" "MOST_VALUES" "[I" ∈ lw_tg := tg_of (mt_1 _ (List.mem_of_getElem? (i := 108) (by rfl))) (by rfl)
theorem tw_79 : Cond.methodLink RX2 52 yX2_keepUnlessError ∈ lw_tg := tg_of (mt_1 _ (List.mem_of_getElem? (i := 110) (by rfl))) (by rfl)
theorem tw_80 : Cond.instanceMethod yX2_keepUnlessError ∈ lw_tg := tg_of (mt_1 _ (List.mem_of_getElem? (i := 112) (by rfl))) (by rfl)
theorem tw_81 : Cond.selects RX2 yX2_keepUnlessError yX2_keepUnlessError ∈ lw_tg := tg_of (mp_1 _ (List.mem_of_getElem? (l := lw_privs_1) (i := 1) (by rfl))) (by rfl)
theorem tw_82 : Cond.code yX2_keepUnlessError cX2_keepUnlessError 2 (some .int) ∈ lw_tg := tg_of (mt_1 _ (List.mem_of_getElem? (i := 113) (by rfl))) (by rfl)
theorem tw_83 : Cond.methodLink RX2 150 Lib.Math.min.name ∈ lw_tg := tg_of (mt_1 _ (List.mem_of_getElem? (i := 114) (by rfl))) (by rfl)
theorem tw_84 : Cond.static Lib.Math.min.name ∈ lw_tg := tg_of (mt_1 _ (List.mem_of_getElem? (i := 115) (by rfl))) (by rfl)
theorem tw_85 : Cond.initialized "java/lang/Math" ∈ lw_tg := tg_of (mt_1 _ (List.mem_of_getElem? (i := 6) (by rfl))) (by rfl)
theorem tw_86 : Cond.code Lib.Math.min.name Lib.Math.min.code 2 (some .int) ∈ lw_tg := tg_of (mt_1 _ (List.mem_of_getElem? (i := 116) (by rfl))) (by rfl)
theorem tw_87 : Cond.methodLink RL 17 yX3_set ∈ lw_tg := tg_of (mt_3 _ (List.mem_of_getElem? (i := 38) (by rfl))) (by rfl)
theorem tw_88 : Cond.instanceMethod yX3_set ∈ lw_tg := tg_of (mt_3 _ (List.mem_of_getElem? (i := 39) (by rfl))) (by rfl)
theorem tw_89 : Cond.selects RX3 yX3_set yX3_set ∈ lw_tg := tg_of (mt_3 _ (List.mem_of_getElem? (i := 40) (by rfl))) (by rfl)
theorem tw_90 : Cond.code yX3_set cX3_set 4 (some .int) ∈ lw_tg := tg_of (mt_3 _ (List.mem_of_getElem? (i := 41) (by rfl))) (by rfl)
theorem tw_91 : Cond.methodLink RX3 115 yX3_isValue ∈ lw_tg := tg_of (mt_3 _ (List.mem_of_getElem? (i := 42) (by rfl))) (by rfl)
theorem tw_92 : Cond.static yX3_isValue ∈ lw_tg := tg_of (mt_3 _ (List.mem_of_getElem? (i := 43) (by rfl))) (by rfl)
theorem tw_93 : Cond.code yX3_isValue cX3_isValue 2 (some .boolean) ∈ lw_tg := tg_of (mt_3 _ (List.mem_of_getElem? (i := 44) (by rfl))) (by rfl)
theorem tw_94 : Cond.constantLong RX3 111 (9) ∈ lw_tg := tg_of (mt_3 _ (List.mem_of_getElem? (i := 45) (by rfl))) (by rfl)
theorem tw_95 : Cond.constantLong RX3 113 (50) ∈ lw_tg := tg_of (mt_3 _ (List.mem_of_getElem? (i := 49) (by rfl))) (by rfl)
theorem tw_96 : Cond.methodLink RX3 85 yX3_in ∈ lw_tg := tg_of (mt_3 _ (List.mem_of_getElem? (i := 46) (by rfl))) (by rfl)
theorem tw_97 : Cond.static yX3_in ∈ lw_tg := tg_of (mt_3 _ (List.mem_of_getElem? (i := 47) (by rfl))) (by rfl)
theorem tw_98 : Cond.code yX3_in cX3_in 6 (some .boolean) ∈ lw_tg := tg_of (mt_3 _ (List.mem_of_getElem? (i := 48) (by rfl))) (by rfl)
theorem tw_99 : Cond.methodLink RX3 118 yX3_changes ∈ lw_tg := tg_of (mt_3 _ (List.mem_of_getElem? (i := 50) (by rfl))) (by rfl)
theorem tw_100 : Cond.instanceMethod yX3_changes ∈ lw_tg := tg_of (mt_3 _ (List.mem_of_getElem? (i := 52) (by rfl))) (by rfl)
theorem tw_101 : Cond.selects RX3 yX3_changes yX3_changes ∈ lw_tg := tg_of (mp_2 _ (List.mem_of_getElem? (l := lw_privs_2) (i := 12) (by rfl))) (by rfl)
theorem tw_102 : Cond.code yX3_changes cX3_changes 2 none ∈ lw_tg := tg_of (mt_3 _ (List.mem_of_getElem? (i := 53) (by rfl))) (by rfl)
theorem tw_103 : Cond.fieldLink RX3 30 "FuseBoardsModel" "states" "I" ∈ lw_tg := tg_of (mt_2 _ (List.mem_of_getElem? (i := 236) (by rfl))) (by rfl)
theorem tw_104 : Cond.methodLink RX3 33 yX3_copies ∈ lw_tg := tg_of (mt_3 _ (List.mem_of_getElem? (i := 54) (by rfl))) (by rfl)
theorem tw_105 : Cond.instanceMethod yX3_copies ∈ lw_tg := tg_of (mt_3 _ (List.mem_of_getElem? (i := 56) (by rfl))) (by rfl)
theorem tw_106 : Cond.selects RX3 yX3_copies yX3_copies ∈ lw_tg := tg_of (mp_2 _ (List.mem_of_getElem? (l := lw_privs_2) (i := 13) (by rfl))) (by rfl)
theorem tw_107 : Cond.code yX3_copies cX3_copies 4 none ∈ lw_tg := tg_of (mt_3 _ (List.mem_of_getElem? (i := 57) (by rfl))) (by rfl)
theorem tw_108 : Cond.methodLink RL 18 yX2_board ∈ lw_tg := tg_of (mt_1 _ (List.mem_of_getElem? (i := 117) (by rfl))) (by rfl)
theorem tw_109 : Cond.instanceMethod yX2_board ∈ lw_tg := tg_of (mt_1 _ (List.mem_of_getElem? (i := 118) (by rfl))) (by rfl)
theorem tw_110 : Cond.selects RX2 yX2_board yX2_board ∈ lw_tg := tg_of (mt_1 _ (List.mem_of_getElem? (i := 119) (by rfl))) (by rfl)
theorem tw_111 : Cond.code yX2_board cX2_board 4 (some .int) ∈ lw_tg := tg_of (mt_1 _ (List.mem_of_getElem? (i := 120) (by rfl))) (by rfl)
theorem tw_112 : Cond.methodLink RX2 56 yX0_addBoard ∈ lw_tg := tg_of (mt_1 _ (List.mem_of_getElem? (i := 121) (by rfl))) (by rfl)
theorem tw_113 : Cond.instanceMethod yX0_addBoard ∈ lw_tg := tg_of (mt_1 _ (List.mem_of_getElem? (i := 122) (by rfl))) (by rfl)
theorem tw_114 : Cond.selects RX0 yX0_addBoard yX0_addBoard ∈ lw_tg := tg_of (mt_1 _ (List.mem_of_getElem? (i := 123) (by rfl))) (by rfl)
theorem tw_115 : Cond.code yX0_addBoard cX0_addBoard 5 (some .int) ∈ lw_tg := tg_of (mt_1 _ (List.mem_of_getElem? (i := 124) (by rfl))) (by rfl)
theorem tw_116 : Cond.methodLink RX0 24 yX0_isBoard ∈ lw_tg := tg_of (mt_1 _ (List.mem_of_getElem? (i := 125) (by rfl))) (by rfl)
theorem tw_117 : Cond.instanceMethod yX0_isBoard ∈ lw_tg := tg_of (mt_1 _ (List.mem_of_getElem? (i := 126) (by rfl))) (by rfl)
theorem tw_118 : Cond.selects RX0 yX0_isBoard yX0_isBoard ∈ lw_tg := tg_of (mt_1 _ (List.mem_of_getElem? (i := 127) (by rfl))) (by rfl)
theorem tw_119 : Cond.code yX0_isBoard cX0_isBoard 2 (some .boolean) ∈ lw_tg := tg_of (mt_1 _ (List.mem_of_getElem? (i := 128) (by rfl))) (by rfl)
theorem tw_120 : Cond.methodLink RX0 34 yX0_isFuse ∈ lw_tg := tg_of (mt_1 _ (List.mem_of_getElem? (i := 129) (by rfl))) (by rfl)
theorem tw_121 : Cond.static yX0_isFuse ∈ lw_tg := tg_of (mt_1 _ (List.mem_of_getElem? (i := 130) (by rfl))) (by rfl)
theorem tw_122 : Cond.code yX0_isFuse cX0_isFuse 2 (some .boolean) ∈ lw_tg := tg_of (mt_1 _ (List.mem_of_getElem? (i := 131) (by rfl))) (by rfl)
theorem tw_123 : Cond.methodLink RX0 38 yX0_putNewFuse ∈ lw_tg := tg_of (mt_1 _ (List.mem_of_getElem? (i := 132) (by rfl))) (by rfl)
theorem tw_124 : Cond.instanceMethod yX0_putNewFuse ∈ lw_tg := tg_of (mt_1 _ (List.mem_of_getElem? (i := 134) (by rfl))) (by rfl)
theorem tw_125 : Cond.selects RX0 yX0_putNewFuse yX0_putNewFuse ∈ lw_tg := tg_of (mp_1 _ (List.mem_of_getElem? (l := lw_privs_1) (i := 2) (by rfl))) (by rfl)
theorem tw_126 : Cond.code yX0_putNewFuse cX0_putNewFuse 4 none ∈ lw_tg := tg_of (mt_1 _ (List.mem_of_getElem? (i := 135) (by rfl))) (by rfl)
theorem tw_127 : Cond.methodLink RL 22 yX3_board ∈ lw_tg := tg_of (mt_3 _ (List.mem_of_getElem? (i := 58) (by rfl))) (by rfl)
theorem tw_128 : Cond.instanceMethod yX3_board ∈ lw_tg := tg_of (mt_3 _ (List.mem_of_getElem? (i := 59) (by rfl))) (by rfl)
theorem tw_129 : Cond.selects RX3 yX3_board yX3_board ∈ lw_tg := tg_of (mt_3 _ (List.mem_of_getElem? (i := 60) (by rfl))) (by rfl)
theorem tw_130 : Cond.code yX3_board cX3_board 5 (some .int) ∈ lw_tg := tg_of (mt_3 _ (List.mem_of_getElem? (i := 61) (by rfl))) (by rfl)
theorem tw_131 : Cond.methodLink RX3 121 yX3_boardError ∈ lw_tg := tg_of (mt_3 _ (List.mem_of_getElem? (i := 62) (by rfl))) (by rfl)
theorem tw_132 : Cond.instanceMethod yX3_boardError ∈ lw_tg := tg_of (mt_3 _ (List.mem_of_getElem? (i := 64) (by rfl))) (by rfl)
theorem tw_133 : Cond.selects RX3 yX3_boardError yX3_boardError ∈ lw_tg := tg_of (mp_2 _ (List.mem_of_getElem? (l := lw_privs_2) (i := 14) (by rfl))) (by rfl)
theorem tw_134 : Cond.code yX3_boardError cX3_boardError 4 (some .int) ∈ lw_tg := tg_of (mt_3 _ (List.mem_of_getElem? (i := 65) (by rfl))) (by rfl)
theorem tw_135 : Cond.methodLink RX3 93 yX3_isBoard ∈ lw_tg := tg_of (mt_3 _ (List.mem_of_getElem? (i := 66) (by rfl))) (by rfl)
theorem tw_136 : Cond.instanceMethod yX3_isBoard ∈ lw_tg := tg_of (mt_3 _ (List.mem_of_getElem? (i := 68) (by rfl))) (by rfl)
theorem tw_137 : Cond.selects RX3 yX3_isBoard yX3_isBoard ∈ lw_tg := tg_of (mp_2 _ (List.mem_of_getElem? (l := lw_privs_2) (i := 15) (by rfl))) (by rfl)
theorem tw_138 : Cond.code yX3_isBoard cX3_isBoard 2 (some .boolean) ∈ lw_tg := tg_of (mt_3 _ (List.mem_of_getElem? (i := 69) (by rfl))) (by rfl)
theorem tw_139 : Cond.methodLink RX3 97 yX3_isFuse ∈ lw_tg := tg_of (mt_3 _ (List.mem_of_getElem? (i := 70) (by rfl))) (by rfl)
theorem tw_140 : Cond.static yX3_isFuse ∈ lw_tg := tg_of (mt_3 _ (List.mem_of_getElem? (i := 71) (by rfl))) (by rfl)
theorem tw_141 : Cond.code yX3_isFuse cX3_isFuse 2 (some .boolean) ∈ lw_tg := tg_of (mt_3 _ (List.mem_of_getElem? (i := 72) (by rfl))) (by rfl)
theorem tw_142 : Cond.constantLong RX3 89 (100) ∈ lw_tg := tg_of (mt_3 _ (List.mem_of_getElem? (i := 73) (by rfl))) (by rfl)
theorem tw_143 : Cond.constantLong RX3 91 (2) ∈ lw_tg := tg_of (mt_3 _ (List.mem_of_getElem? (i := 74) (by rfl))) (by rfl)
theorem tw_144 : Cond.methodLink RX3 125 yX3_builds ∈ lw_tg := tg_of (mt_3 _ (List.mem_of_getElem? (i := 75) (by rfl))) (by rfl)
theorem tw_145 : Cond.instanceMethod yX3_builds ∈ lw_tg := tg_of (mt_3 _ (List.mem_of_getElem? (i := 77) (by rfl))) (by rfl)
theorem tw_146 : Cond.selects RX3 yX3_builds yX3_builds ∈ lw_tg := tg_of (mp_3 _ (List.mem_of_getElem? (l := lw_privs_3) (i := 0) (by rfl))) (by rfl)
theorem tw_147 : Cond.code yX3_builds cX3_builds 5 (some .int) ∈ lw_tg := tg_of (mt_3 _ (List.mem_of_getElem? (i := 78) (by rfl))) (by rfl)
theorem tw_148 : Cond.methodLink RX3 37 yX3_boardAt ∈ lw_tg := tg_of (mt_3 _ (List.mem_of_getElem? (i := 79) (by rfl))) (by rfl)
theorem tw_149 : Cond.static yX3_boardAt ∈ lw_tg := tg_of (mt_3 _ (List.mem_of_getElem? (i := 80) (by rfl))) (by rfl)
theorem tw_150 : Cond.code yX3_boardAt cX3_boardAt 2 (some .int) ∈ lw_tg := tg_of (mt_3 _ (List.mem_of_getElem? (i := 81) (by rfl))) (by rfl)
theorem tw_151 : Cond.methodLink RX3 107 yX3_puts ∈ lw_tg := tg_of (mt_3 _ (List.mem_of_getElem? (i := 82) (by rfl))) (by rfl)
theorem tw_152 : Cond.instanceMethod yX3_puts ∈ lw_tg := tg_of (mt_3 _ (List.mem_of_getElem? (i := 84) (by rfl))) (by rfl)
theorem tw_153 : Cond.selects RX3 yX3_puts yX3_puts ∈ lw_tg := tg_of (mp_3 _ (List.mem_of_getElem? (l := lw_privs_3) (i := 1) (by rfl))) (by rfl)
theorem tw_154 : Cond.code yX3_puts cX3_puts 6 none ∈ lw_tg := tg_of (mt_3 _ (List.mem_of_getElem? (i := 85) (by rfl))) (by rfl)
theorem tw_155 : Cond.methodLink RL 23 yX2_load ∈ lw_tg := tg_of (mt_1 _ (List.mem_of_getElem? (i := 136) (by rfl))) (by rfl)
theorem tw_156 : Cond.instanceMethod yX2_load ∈ lw_tg := tg_of (mt_1 _ (List.mem_of_getElem? (i := 137) (by rfl))) (by rfl)
theorem tw_157 : Cond.selects RX2 yX2_load yX2_load ∈ lw_tg := tg_of (mt_1 _ (List.mem_of_getElem? (i := 138) (by rfl))) (by rfl)
theorem tw_158 : Cond.code yX2_load cX2_load 3 (some .int) ∈ lw_tg := tg_of (mt_1 _ (List.mem_of_getElem? (i := 139) (by rfl))) (by rfl)
theorem tw_159 : Cond.methodLink RX2 60 yX0_addLoad ∈ lw_tg := tg_of (mt_1 _ (List.mem_of_getElem? (i := 140) (by rfl))) (by rfl)
theorem tw_160 : Cond.instanceMethod yX0_addLoad ∈ lw_tg := tg_of (mt_1 _ (List.mem_of_getElem? (i := 141) (by rfl))) (by rfl)
theorem tw_161 : Cond.selects RX0 yX0_addLoad yX0_addLoad ∈ lw_tg := tg_of (mt_1 _ (List.mem_of_getElem? (i := 142) (by rfl))) (by rfl)
theorem tw_162 : Cond.code yX0_addLoad cX0_addLoad 4 (some .int) ∈ lw_tg := tg_of (mt_1 _ (List.mem_of_getElem? (i := 143) (by rfl))) (by rfl)
theorem tw_163 : Cond.methodLink RL 26 yX3_load ∈ lw_tg := tg_of (mt_3 _ (List.mem_of_getElem? (i := 86) (by rfl))) (by rfl)
theorem tw_164 : Cond.instanceMethod yX3_load ∈ lw_tg := tg_of (mt_3 _ (List.mem_of_getElem? (i := 87) (by rfl))) (by rfl)
theorem tw_165 : Cond.selects RX3 yX3_load yX3_load ∈ lw_tg := tg_of (mt_3 _ (List.mem_of_getElem? (i := 88) (by rfl))) (by rfl)
theorem tw_166 : Cond.code yX3_load cX3_load 4 (some .int) ∈ lw_tg := tg_of (mt_3 _ (List.mem_of_getElem? (i := 89) (by rfl))) (by rfl)
theorem tw_167 : Cond.methodLink RX3 128 yX3_loadError ∈ lw_tg := tg_of (mt_3 _ (List.mem_of_getElem? (i := 90) (by rfl))) (by rfl)
theorem tw_168 : Cond.instanceMethod yX3_loadError ∈ lw_tg := tg_of (mt_3 _ (List.mem_of_getElem? (i := 92) (by rfl))) (by rfl)
theorem tw_169 : Cond.selects RX3 yX3_loadError yX3_loadError ∈ lw_tg := tg_of (mp_3 _ (List.mem_of_getElem? (l := lw_privs_3) (i := 2) (by rfl))) (by rfl)
theorem tw_170 : Cond.code yX3_loadError cX3_loadError 3 (some .int) ∈ lw_tg := tg_of (mt_3 _ (List.mem_of_getElem? (i := 93) (by rfl))) (by rfl)
theorem tw_171 : Cond.constantLong RX3 100 (200) ∈ lw_tg := tg_of (mt_3 _ (List.mem_of_getElem? (i := 94) (by rfl))) (by rfl)
theorem tw_172 : Cond.methodLink RX3 131 yX3_connects ∈ lw_tg := tg_of (mt_3 _ (List.mem_of_getElem? (i := 95) (by rfl))) (by rfl)
theorem tw_173 : Cond.instanceMethod yX3_connects ∈ lw_tg := tg_of (mt_3 _ (List.mem_of_getElem? (i := 97) (by rfl))) (by rfl)
theorem tw_174 : Cond.selects RX3 yX3_connects yX3_connects ∈ lw_tg := tg_of (mp_3 _ (List.mem_of_getElem? (l := lw_privs_3) (i := 3) (by rfl))) (by rfl)
theorem tw_175 : Cond.code yX3_connects cX3_connects 4 (some .int) ∈ lw_tg := tg_of (mt_3 _ (List.mem_of_getElem? (i := 98) (by rfl))) (by rfl)
theorem tw_176 : Cond.methodLink RX3 41 yX3_loadAt ∈ lw_tg := tg_of (mt_3 _ (List.mem_of_getElem? (i := 99) (by rfl))) (by rfl)
theorem tw_177 : Cond.static yX3_loadAt ∈ lw_tg := tg_of (mt_3 _ (List.mem_of_getElem? (i := 100) (by rfl))) (by rfl)
theorem tw_178 : Cond.code yX3_loadAt cX3_loadAt 2 (some .int) ∈ lw_tg := tg_of (mt_3 _ (List.mem_of_getElem? (i := 101) (by rfl))) (by rfl)
theorem tw_179 : Cond.methodLink RL 27 yX2_turn ∈ lw_tg := tg_of (mt_1 _ (List.mem_of_getElem? (i := 144) (by rfl))) (by rfl)
theorem tw_180 : Cond.instanceMethod yX2_turn ∈ lw_tg := tg_of (mt_1 _ (List.mem_of_getElem? (i := 145) (by rfl))) (by rfl)
theorem tw_181 : Cond.selects RX2 yX2_turn yX2_turn ∈ lw_tg := tg_of (mt_1 _ (List.mem_of_getElem? (i := 146) (by rfl))) (by rfl)
theorem tw_182 : Cond.code yX2_turn cX2_turn 2 (some .int) ∈ lw_tg := tg_of (mt_1 _ (List.mem_of_getElem? (i := 147) (by rfl))) (by rfl)
theorem tw_183 : Cond.methodLink RX2 63 yX0_switchLoad ∈ lw_tg := tg_of (mt_1 _ (List.mem_of_getElem? (i := 148) (by rfl))) (by rfl)
theorem tw_184 : Cond.instanceMethod yX0_switchLoad ∈ lw_tg := tg_of (mt_1 _ (List.mem_of_getElem? (i := 149) (by rfl))) (by rfl)
theorem tw_185 : Cond.selects RX0 yX0_switchLoad yX0_switchLoad ∈ lw_tg := tg_of (mt_1 _ (List.mem_of_getElem? (i := 150) (by rfl))) (by rfl)
theorem tw_186 : Cond.code yX0_switchLoad cX0_switchLoad 2 (some .int) ∈ lw_tg := tg_of (mt_1 _ (List.mem_of_getElem? (i := 151) (by rfl))) (by rfl)
theorem tw_187 : Cond.methodLink RX0 42 yX0_isLoad ∈ lw_tg := tg_of (mt_1 _ (List.mem_of_getElem? (i := 152) (by rfl))) (by rfl)
theorem tw_188 : Cond.instanceMethod yX0_isLoad ∈ lw_tg := tg_of (mt_1 _ (List.mem_of_getElem? (i := 153) (by rfl))) (by rfl)
theorem tw_189 : Cond.selects RX0 yX0_isLoad yX0_isLoad ∈ lw_tg := tg_of (mt_1 _ (List.mem_of_getElem? (i := 154) (by rfl))) (by rfl)
theorem tw_190 : Cond.code yX0_isLoad cX0_isLoad 2 (some .boolean) ∈ lw_tg := tg_of (mt_1 _ (List.mem_of_getElem? (i := 155) (by rfl))) (by rfl)
theorem tw_191 : Cond.methodLink RL 31 yX3_turn ∈ lw_tg := tg_of (mt_3 _ (List.mem_of_getElem? (i := 102) (by rfl))) (by rfl)
theorem tw_192 : Cond.instanceMethod yX3_turn ∈ lw_tg := tg_of (mt_3 _ (List.mem_of_getElem? (i := 103) (by rfl))) (by rfl)
theorem tw_193 : Cond.selects RX3 yX3_turn yX3_turn ∈ lw_tg := tg_of (mt_3 _ (List.mem_of_getElem? (i := 104) (by rfl))) (by rfl)
theorem tw_194 : Cond.code yX3_turn cX3_turn 3 (some .int) ∈ lw_tg := tg_of (mt_3 _ (List.mem_of_getElem? (i := 105) (by rfl))) (by rfl)
theorem tw_195 : Cond.methodLink RX3 134 yX3_turnError ∈ lw_tg := tg_of (mt_3 _ (List.mem_of_getElem? (i := 106) (by rfl))) (by rfl)
theorem tw_196 : Cond.instanceMethod yX3_turnError ∈ lw_tg := tg_of (mt_3 _ (List.mem_of_getElem? (i := 108) (by rfl))) (by rfl)
theorem tw_197 : Cond.selects RX3 yX3_turnError yX3_turnError ∈ lw_tg := tg_of (mp_3 _ (List.mem_of_getElem? (l := lw_privs_3) (i := 4) (by rfl))) (by rfl)
theorem tw_198 : Cond.code yX3_turnError cX3_turnError 2 (some .int) ∈ lw_tg := tg_of (mt_3 _ (List.mem_of_getElem? (i := 109) (by rfl))) (by rfl)
theorem tw_199 : Cond.methodLink RX3 102 yX3_isLoad ∈ lw_tg := tg_of (mt_3 _ (List.mem_of_getElem? (i := 110) (by rfl))) (by rfl)
theorem tw_200 : Cond.instanceMethod yX3_isLoad ∈ lw_tg := tg_of (mt_3 _ (List.mem_of_getElem? (i := 112) (by rfl))) (by rfl)
theorem tw_201 : Cond.selects RX3 yX3_isLoad yX3_isLoad ∈ lw_tg := tg_of (mp_3 _ (List.mem_of_getElem? (l := lw_privs_3) (i := 5) (by rfl))) (by rfl)
theorem tw_202 : Cond.code yX3_isLoad cX3_isLoad 2 (some .boolean) ∈ lw_tg := tg_of (mt_3 _ (List.mem_of_getElem? (i := 113) (by rfl))) (by rfl)
theorem tw_203 : Cond.methodLink RX3 137 yX3_turns ∈ lw_tg := tg_of (mt_3 _ (List.mem_of_getElem? (i := 114) (by rfl))) (by rfl)
theorem tw_204 : Cond.instanceMethod yX3_turns ∈ lw_tg := tg_of (mt_3 _ (List.mem_of_getElem? (i := 116) (by rfl))) (by rfl)
theorem tw_205 : Cond.selects RX3 yX3_turns yX3_turns ∈ lw_tg := tg_of (mp_3 _ (List.mem_of_getElem? (l := lw_privs_3) (i := 6) (by rfl))) (by rfl)
theorem tw_206 : Cond.code yX3_turns cX3_turns 2 (some .int) ∈ lw_tg := tg_of (mt_3 _ (List.mem_of_getElem? (i := 117) (by rfl))) (by rfl)
theorem tw_207 : Cond.methodLink RL 32 yX2_fuse ∈ lw_tg := tg_of (mt_1 _ (List.mem_of_getElem? (i := 156) (by rfl))) (by rfl)
theorem tw_208 : Cond.instanceMethod yX2_fuse ∈ lw_tg := tg_of (mt_1 _ (List.mem_of_getElem? (i := 157) (by rfl))) (by rfl)
theorem tw_209 : Cond.selects RX2 yX2_fuse yX2_fuse ∈ lw_tg := tg_of (mt_1 _ (List.mem_of_getElem? (i := 158) (by rfl))) (by rfl)
theorem tw_210 : Cond.code yX2_fuse cX2_fuse 4 (some .int) ∈ lw_tg := tg_of (mt_1 _ (List.mem_of_getElem? (i := 159) (by rfl))) (by rfl)
theorem tw_211 : Cond.methodLink RX2 66 yX0_changeFuse ∈ lw_tg := tg_of (mt_1 _ (List.mem_of_getElem? (i := 160) (by rfl))) (by rfl)
theorem tw_212 : Cond.instanceMethod yX0_changeFuse ∈ lw_tg := tg_of (mt_1 _ (List.mem_of_getElem? (i := 161) (by rfl))) (by rfl)
theorem tw_213 : Cond.selects RX0 yX0_changeFuse yX0_changeFuse ∈ lw_tg := tg_of (mt_1 _ (List.mem_of_getElem? (i := 162) (by rfl))) (by rfl)
theorem tw_214 : Cond.code yX0_changeFuse cX0_changeFuse 5 (some .int) ∈ lw_tg := tg_of (mt_1 _ (List.mem_of_getElem? (i := 163) (by rfl))) (by rfl)
theorem tw_215 : Cond.methodLink RL 35 yX3_fuse ∈ lw_tg := tg_of (mt_3 _ (List.mem_of_getElem? (i := 118) (by rfl))) (by rfl)
theorem tw_216 : Cond.instanceMethod yX3_fuse ∈ lw_tg := tg_of (mt_3 _ (List.mem_of_getElem? (i := 119) (by rfl))) (by rfl)
theorem tw_217 : Cond.selects RX3 yX3_fuse yX3_fuse ∈ lw_tg := tg_of (mt_3 _ (List.mem_of_getElem? (i := 120) (by rfl))) (by rfl)
theorem tw_218 : Cond.code yX3_fuse cX3_fuse 5 (some .int) ∈ lw_tg := tg_of (mt_3 _ (List.mem_of_getElem? (i := 121) (by rfl))) (by rfl)
theorem tw_219 : Cond.methodLink RX3 140 yX3_fuseError ∈ lw_tg := tg_of (mt_3 _ (List.mem_of_getElem? (i := 122) (by rfl))) (by rfl)
theorem tw_220 : Cond.instanceMethod yX3_fuseError ∈ lw_tg := tg_of (mt_3 _ (List.mem_of_getElem? (i := 124) (by rfl))) (by rfl)
theorem tw_221 : Cond.selects RX3 yX3_fuseError yX3_fuseError ∈ lw_tg := tg_of (mp_3 _ (List.mem_of_getElem? (l := lw_privs_3) (i := 7) (by rfl))) (by rfl)
theorem tw_222 : Cond.code yX3_fuseError cX3_fuseError 4 (some .int) ∈ lw_tg := tg_of (mt_3 _ (List.mem_of_getElem? (i := 125) (by rfl))) (by rfl)
theorem tw_223 : Cond.methodLink RX3 143 yX3_fuses ∈ lw_tg := tg_of (mt_3 _ (List.mem_of_getElem? (i := 126) (by rfl))) (by rfl)
theorem tw_224 : Cond.instanceMethod yX3_fuses ∈ lw_tg := tg_of (mt_3 _ (List.mem_of_getElem? (i := 128) (by rfl))) (by rfl)
theorem tw_225 : Cond.selects RX3 yX3_fuses yX3_fuses ∈ lw_tg := tg_of (mp_3 _ (List.mem_of_getElem? (l := lw_privs_3) (i := 8) (by rfl))) (by rfl)
theorem tw_226 : Cond.code yX3_fuses cX3_fuses 5 (some .int) ∈ lw_tg := tg_of (mt_3 _ (List.mem_of_getElem? (i := 129) (by rfl))) (by rfl)
theorem tw_227 : Cond.methodLink RL 36 yX2_pass ∈ lw_tg := tg_of (mt_1 _ (List.mem_of_getElem? (i := 164) (by rfl))) (by rfl)
theorem tw_228 : Cond.instanceMethod yX2_pass ∈ lw_tg := tg_of (mt_1 _ (List.mem_of_getElem? (i := 165) (by rfl))) (by rfl)
theorem tw_229 : Cond.selects RX2 yX2_pass yX2_pass ∈ lw_tg := tg_of (mt_1 _ (List.mem_of_getElem? (i := 166) (by rfl))) (by rfl)
theorem tw_230 : Cond.code yX2_pass cX2_pass 2 (some .int) ∈ lw_tg := tg_of (mt_1 _ (List.mem_of_getElem? (i := 167) (by rfl))) (by rfl)
theorem tw_231 : Cond.methodLink RX2 69 yX0_letPass ∈ lw_tg := tg_of (mt_1 _ (List.mem_of_getElem? (i := 168) (by rfl))) (by rfl)
theorem tw_232 : Cond.instanceMethod yX0_letPass ∈ lw_tg := tg_of (mt_1 _ (List.mem_of_getElem? (i := 169) (by rfl))) (by rfl)
theorem tw_233 : Cond.selects RX0 yX0_letPass yX0_letPass ∈ lw_tg := tg_of (mt_1 _ (List.mem_of_getElem? (i := 170) (by rfl))) (by rfl)
theorem tw_234 : Cond.code yX0_letPass cX0_letPass 4 (some .int) ∈ lw_tg := tg_of (mt_1 _ (List.mem_of_getElem? (i := 171) (by rfl))) (by rfl)
theorem tw_235 : Cond.methodLink RX0 45 yX0_tick ∈ lw_tg := tg_of (mt_1 _ (List.mem_of_getElem? (i := 172) (by rfl))) (by rfl)
theorem tw_236 : Cond.instanceMethod yX0_tick ∈ lw_tg := tg_of (mt_1 _ (List.mem_of_getElem? (i := 173) (by rfl))) (by rfl)
theorem tw_237 : Cond.selects RX0 yX0_tick yX0_tick ∈ lw_tg := tg_of (mt_1 _ (List.mem_of_getElem? (i := 174) (by rfl))) (by rfl)
theorem tw_238 : Cond.code yX0_tick cX0_tick 3 (some .int) ∈ lw_tg := tg_of (mt_1 _ (List.mem_of_getElem? (i := 175) (by rfl))) (by rfl)
theorem tw_239 : Cond.methodLink RX0 61 yX0_addUpCurrents ∈ lw_tg := tg_of (mt_1 _ (List.mem_of_getElem? (i := 176) (by rfl))) (by rfl)
theorem tw_240 : Cond.instanceMethod yX0_addUpCurrents ∈ lw_tg := tg_of (mt_1 _ (List.mem_of_getElem? (i := 178) (by rfl))) (by rfl)
theorem tw_241 : Cond.selects RX0 yX0_addUpCurrents yX0_addUpCurrents ∈ lw_tg := tg_of (mp_1 _ (List.mem_of_getElem? (l := lw_privs_1) (i := 3) (by rfl))) (by rfl)
theorem tw_242 : Cond.code yX0_addUpCurrents cX0_addUpCurrents 4 none ∈ lw_tg := tg_of (mt_1 _ (List.mem_of_getElem? (i := 179) (by rfl))) (by rfl)
theorem tw_243 : Cond.methodLink RX0 84 yJ7_fill_53178 ∈ lw_tg := tg_of (mt_1 _ (List.mem_of_getElem? (i := 180) (by rfl))) (by rfl)
theorem tw_244 : Cond.static yJ7_fill_53178 ∈ lw_tg := tg_of (mt_1 _ (List.mem_of_getElem? (i := 181) (by rfl))) (by rfl)
theorem tw_245 : Cond.initialized RJ7 ∈ lw_tg := tg_of (mt_1 _ (List.mem_of_getElem? (i := 7) (by rfl))) (by rfl)
theorem tw_246 : Cond.code yJ7_fill_53178 cJ7_fill_53178 4 none ∈ lw_tg := tg_of (mt_1 _ (List.mem_of_getElem? (i := 182) (by rfl))) (by rfl)
theorem tw_247 : Cond.methodLink RX0 87 yX0_deadBoards ∈ lw_tg := tg_of (mt_1 _ (List.mem_of_getElem? (i := 183) (by rfl))) (by rfl)
theorem tw_248 : Cond.instanceMethod yX0_deadBoards ∈ lw_tg := tg_of (mt_1 _ (List.mem_of_getElem? (i := 185) (by rfl))) (by rfl)
theorem tw_249 : Cond.selects RX0 yX0_deadBoards yX0_deadBoards ∈ lw_tg := tg_of (mp_1 _ (List.mem_of_getElem? (l := lw_privs_1) (i := 4) (by rfl))) (by rfl)
theorem tw_250 : Cond.code yX0_deadBoards cX0_deadBoards 3 (some .int) ∈ lw_tg := tg_of (mt_1 _ (List.mem_of_getElem? (i := 186) (by rfl))) (by rfl)
theorem tw_251 : Cond.methodLink RX0 90 yX0_addFlow ∈ lw_tg := tg_of (mt_1 _ (List.mem_of_getElem? (i := 187) (by rfl))) (by rfl)
theorem tw_252 : Cond.instanceMethod yX0_addFlow ∈ lw_tg := tg_of (mt_1 _ (List.mem_of_getElem? (i := 189) (by rfl))) (by rfl)
theorem tw_253 : Cond.selects RX0 yX0_addFlow yX0_addFlow ∈ lw_tg := tg_of (mp_1 _ (List.mem_of_getElem? (l := lw_privs_1) (i := 5) (by rfl))) (by rfl)
theorem tw_254 : Cond.code yX0_addFlow cX0_addFlow 3 none ∈ lw_tg := tg_of (mt_1 _ (List.mem_of_getElem? (i := 190) (by rfl))) (by rfl)
theorem tw_255 : Cond.methodLink RX0 64 yX0_burnArcs ∈ lw_tg := tg_of (mt_1 _ (List.mem_of_getElem? (i := 191) (by rfl))) (by rfl)
theorem tw_256 : Cond.instanceMethod yX0_burnArcs ∈ lw_tg := tg_of (mt_1 _ (List.mem_of_getElem? (i := 193) (by rfl))) (by rfl)
theorem tw_257 : Cond.selects RX0 yX0_burnArcs yX0_burnArcs ∈ lw_tg := tg_of (mp_1 _ (List.mem_of_getElem? (l := lw_privs_1) (i := 6) (by rfl))) (by rfl)
theorem tw_258 : Cond.code yX0_burnArcs cX0_burnArcs 2 none ∈ lw_tg := tg_of (mt_1 _ (List.mem_of_getElem? (i := 194) (by rfl))) (by rfl)
theorem tw_259 : Cond.methodLink RX0 67 yX0_state ∈ lw_tg := tg_of (mt_1 _ (List.mem_of_getElem? (i := 195) (by rfl))) (by rfl)
theorem tw_260 : Cond.instanceMethod yX0_state ∈ lw_tg := tg_of (mt_1 _ (List.mem_of_getElem? (i := 197) (by rfl))) (by rfl)
theorem tw_261 : Cond.selects RX0 yX0_state yX0_state ∈ lw_tg := tg_of (mp_1 _ (List.mem_of_getElem? (l := lw_privs_1) (i := 7) (by rfl))) (by rfl)
theorem tw_262 : Cond.code yX0_state cX0_state 2 (some .int) ∈ lw_tg := tg_of (mt_1 _ (List.mem_of_getElem? (i := 198) (by rfl))) (by rfl)
theorem tw_263 : Cond.methodLink RX0 70 yX0_warm ∈ lw_tg := tg_of (mt_1 _ (List.mem_of_getElem? (i := 199) (by rfl))) (by rfl)
theorem tw_264 : Cond.instanceMethod yX0_warm ∈ lw_tg := tg_of (mt_1 _ (List.mem_of_getElem? (i := 201) (by rfl))) (by rfl)
theorem tw_265 : Cond.selects RX0 yX0_warm yX0_warm ∈ lw_tg := tg_of (mp_1 _ (List.mem_of_getElem? (l := lw_privs_1) (i := 8) (by rfl))) (by rfl)
theorem tw_266 : Cond.code yX0_warm cX0_warm 7 none ∈ lw_tg := tg_of (mt_1 _ (List.mem_of_getElem? (i := 202) (by rfl))) (by rfl)
theorem tw_267 : Cond.constant RX0 93 (1000000) ∈ lw_tg := tg_of (mt_1 _ (List.mem_of_getElem? (i := 203) (by rfl))) (by rfl)
theorem tw_268 : Cond.methodLink RX0 94 Lib.Math.min.name ∈ lw_tg := tg_of (mt_1 _ (List.mem_of_getElem? (i := 204) (by rfl))) (by rfl)
theorem tw_269 : Cond.methodLink RX0 100 Lib.Math.max.name ∈ lw_tg := tg_of (mt_1 _ (List.mem_of_getElem? (i := 205) (by rfl))) (by rfl)
theorem tw_270 : Cond.static Lib.Math.max.name ∈ lw_tg := tg_of (mt_1 _ (List.mem_of_getElem? (i := 206) (by rfl))) (by rfl)
theorem tw_271 : Cond.code Lib.Math.max.name Lib.Math.max.code 2 (some .int) ∈ lw_tg := tg_of (mt_1 _ (List.mem_of_getElem? (i := 207) (by rfl))) (by rfl)
theorem tw_272 : Cond.methodLink RX0 103 yX0_creep ∈ lw_tg := tg_of (mt_1 _ (List.mem_of_getElem? (i := 208) (by rfl))) (by rfl)
theorem tw_273 : Cond.instanceMethod yX0_creep ∈ lw_tg := tg_of (mt_1 _ (List.mem_of_getElem? (i := 210) (by rfl))) (by rfl)
theorem tw_274 : Cond.selects RX0 yX0_creep yX0_creep ∈ lw_tg := tg_of (mp_1 _ (List.mem_of_getElem? (l := lw_privs_1) (i := 9) (by rfl))) (by rfl)
theorem tw_275 : Cond.code yX0_creep cX0_creep 2 none ∈ lw_tg := tg_of (mt_1 _ (List.mem_of_getElem? (i := 211) (by rfl))) (by rfl)
theorem tw_276 : Cond.methodLink RX0 74 yX0_molten ∈ lw_tg := tg_of (mt_1 _ (List.mem_of_getElem? (i := 212) (by rfl))) (by rfl)
theorem tw_277 : Cond.instanceMethod yX0_molten ∈ lw_tg := tg_of (mt_1 _ (List.mem_of_getElem? (i := 214) (by rfl))) (by rfl)
theorem tw_278 : Cond.selects RX0 yX0_molten yX0_molten ∈ lw_tg := tg_of (mp_1 _ (List.mem_of_getElem? (l := lw_privs_1) (i := 10) (by rfl))) (by rfl)
theorem tw_279 : Cond.code yX0_molten cX0_molten 3 (some .int) ∈ lw_tg := tg_of (mt_1 _ (List.mem_of_getElem? (i := 215) (by rfl))) (by rfl)
theorem tw_280 : Cond.methodLink RX0 106 yX0_meltingHeat ∈ lw_tg := tg_of (mt_1 _ (List.mem_of_getElem? (i := 216) (by rfl))) (by rfl)
theorem tw_281 : Cond.instanceMethod yX0_meltingHeat ∈ lw_tg := tg_of (mt_1 _ (List.mem_of_getElem? (i := 218) (by rfl))) (by rfl)
theorem tw_282 : Cond.selects RX0 yX0_meltingHeat yX0_meltingHeat ∈ lw_tg := tg_of (mp_1 _ (List.mem_of_getElem? (l := lw_privs_1) (i := 11) (by rfl))) (by rfl)
theorem tw_283 : Cond.code yX0_meltingHeat cX0_meltingHeat 4 (some .int) ∈ lw_tg := tg_of (mt_1 _ (List.mem_of_getElem? (i := 219) (by rfl))) (by rfl)
theorem tw_284 : Cond.methodLink RX0 127 yX0_heatFactor ∈ lw_tg := tg_of (mt_1 _ (List.mem_of_getElem? (i := 220) (by rfl))) (by rfl)
theorem tw_285 : Cond.static yX0_heatFactor ∈ lw_tg := tg_of (mt_1 _ (List.mem_of_getElem? (i := 221) (by rfl))) (by rfl)
theorem tw_286 : Cond.code yX0_heatFactor cX0_heatFactor 1 (some .int) ∈ lw_tg := tg_of (mt_1 _ (List.mem_of_getElem? (i := 222) (by rfl))) (by rfl)
theorem tw_287 : Cond.methodLink RX0 77 yX0_nearestOf ∈ lw_tg := tg_of (mt_1 _ (List.mem_of_getElem? (i := 223) (by rfl))) (by rfl)
theorem tw_288 : Cond.instanceMethod yX0_nearestOf ∈ lw_tg := tg_of (mt_1 _ (List.mem_of_getElem? (i := 225) (by rfl))) (by rfl)
theorem tw_289 : Cond.selects RX0 yX0_nearestOf yX0_nearestOf ∈ lw_tg := tg_of (mp_1 _ (List.mem_of_getElem? (l := lw_privs_1) (i := 12) (by rfl))) (by rfl)
theorem tw_290 : Cond.code yX0_nearestOf cX0_nearestOf 5 (some .int) ∈ lw_tg := tg_of (mt_1 _ (List.mem_of_getElem? (i := 226) (by rfl))) (by rfl)
theorem tw_291 : Cond.methodLink RX0 109 yX0_fedThrough ∈ lw_tg := tg_of (mt_1 _ (List.mem_of_getElem? (i := 227) (by rfl))) (by rfl)
theorem tw_292 : Cond.instanceMethod yX0_fedThrough ∈ lw_tg := tg_of (mt_1 _ (List.mem_of_getElem? (i := 228) (by rfl))) (by rfl)
theorem tw_293 : Cond.selects RX0 yX0_fedThrough yX0_fedThrough ∈ lw_tg := tg_of (mt_1 _ (List.mem_of_getElem? (i := 229) (by rfl))) (by rfl)
theorem tw_294 : Cond.code yX0_fedThrough cX0_fedThrough 4 (some .int) ∈ lw_tg := tg_of (mt_1 _ (List.mem_of_getElem? (i := 230) (by rfl))) (by rfl)
theorem tw_295 : Cond.methodLink RX0 80 yX0_blow ∈ lw_tg := tg_of (mt_1 _ (List.mem_of_getElem? (i := 231) (by rfl))) (by rfl)
theorem tw_296 : Cond.instanceMethod yX0_blow ∈ lw_tg := tg_of (mt_1 _ (List.mem_of_getElem? (i := 233) (by rfl))) (by rfl)
theorem tw_297 : Cond.selects RX0 yX0_blow yX0_blow ∈ lw_tg := tg_of (mp_1 _ (List.mem_of_getElem? (l := lw_privs_1) (i := 13) (by rfl))) (by rfl)
theorem tw_298 : Cond.code yX0_blow cX0_blow 2 none ∈ lw_tg := tg_of (mt_1 _ (List.mem_of_getElem? (i := 234) (by rfl))) (by rfl)
theorem tw_299 : Cond.methodLink RX0 49 yJ6_bitCount_0f7a4 ∈ lw_tg := tg_of (mt_1 _ (List.mem_of_getElem? (i := 235) (by rfl))) (by rfl)
theorem tw_300 : Cond.static yJ6_bitCount_0f7a4 ∈ lw_tg := tg_of (mt_1 _ (List.mem_of_getElem? (i := 236) (by rfl))) (by rfl)
theorem tw_301 : Cond.initialized RJ6 ∈ lw_tg := tg_of (mt_1 _ (List.mem_of_getElem? (i := 8) (by rfl))) (by rfl)
theorem tw_302 : Cond.code yJ6_bitCount_0f7a4 cJ6_bitCount_0f7a4 1 (some .int) ∈ lw_tg := tg_of (mt_1 _ (List.mem_of_getElem? (i := 237) (by rfl))) (by rfl)
theorem tw_303 : Cond.constant RJ6 265 (1431655765) ∈ lw_tg := tg_of (mt_1 _ (List.mem_of_getElem? (i := 238) (by rfl))) (by rfl)
theorem tw_304 : Cond.constant RJ6 266 (858993459) ∈ lw_tg := tg_of (mt_1 _ (List.mem_of_getElem? (i := 239) (by rfl))) (by rfl)
theorem tw_305 : Cond.constant RJ6 267 (252645135) ∈ lw_tg := tg_of (mt_2 _ (List.mem_of_getElem? (i := 0) (by rfl))) (by rfl)
theorem tw_306 : Cond.methodLink RL 39 yX3_pass ∈ lw_tg := tg_of (mt_3 _ (List.mem_of_getElem? (i := 130) (by rfl))) (by rfl)
theorem tw_307 : Cond.instanceMethod yX3_pass ∈ lw_tg := tg_of (mt_3 _ (List.mem_of_getElem? (i := 131) (by rfl))) (by rfl)
theorem tw_308 : Cond.selects RX3 yX3_pass yX3_pass ∈ lw_tg := tg_of (mt_3 _ (List.mem_of_getElem? (i := 132) (by rfl))) (by rfl)
theorem tw_309 : Cond.code yX3_pass cX3_pass 3 (some .int) ∈ lw_tg := tg_of (mt_3 _ (List.mem_of_getElem? (i := 133) (by rfl))) (by rfl)
theorem tw_310 : Cond.methodLink RX3 146 yX3_passError ∈ lw_tg := tg_of (mt_3 _ (List.mem_of_getElem? (i := 134) (by rfl))) (by rfl)
theorem tw_311 : Cond.instanceMethod yX3_passError ∈ lw_tg := tg_of (mt_3 _ (List.mem_of_getElem? (i := 136) (by rfl))) (by rfl)
theorem tw_312 : Cond.selects RX3 yX3_passError yX3_passError ∈ lw_tg := tg_of (mp_3 _ (List.mem_of_getElem? (l := lw_privs_3) (i := 9) (by rfl))) (by rfl)
theorem tw_313 : Cond.code yX3_passError cX3_passError 2 (some .int) ∈ lw_tg := tg_of (mt_3 _ (List.mem_of_getElem? (i := 137) (by rfl))) (by rfl)
theorem tw_314 : Cond.constantLong RX3 105 (99) ∈ lw_tg := tg_of (mt_3 _ (List.mem_of_getElem? (i := 138) (by rfl))) (by rfl)
theorem tw_315 : Cond.methodLink RX3 149 yX3_ticks ∈ lw_tg := tg_of (mt_3 _ (List.mem_of_getElem? (i := 139) (by rfl))) (by rfl)
theorem tw_316 : Cond.instanceMethod yX3_ticks ∈ lw_tg := tg_of (mt_3 _ (List.mem_of_getElem? (i := 141) (by rfl))) (by rfl)
theorem tw_317 : Cond.selects RX3 yX3_ticks yX3_ticks ∈ lw_tg := tg_of (mp_3 _ (List.mem_of_getElem? (l := lw_privs_3) (i := 10) (by rfl))) (by rfl)
theorem tw_318 : Cond.code yX3_ticks cX3_ticks 5 (some .int) ∈ lw_tg := tg_of (mt_3 _ (List.mem_of_getElem? (i := 142) (by rfl))) (by rfl)
theorem tw_319 : Cond.methodLink RX3 78 yX3_tick ∈ lw_tg := tg_of (mt_3 _ (List.mem_of_getElem? (i := 143) (by rfl))) (by rfl)
theorem tw_320 : Cond.instanceMethod yX3_tick ∈ lw_tg := tg_of (mt_3 _ (List.mem_of_getElem? (i := 145) (by rfl))) (by rfl)
theorem tw_321 : Cond.selects RX3 yX3_tick yX3_tick ∈ lw_tg := tg_of (mp_3 _ (List.mem_of_getElem? (l := lw_privs_3) (i := 11) (by rfl))) (by rfl)
theorem tw_322 : Cond.code yX3_tick cX3_tick 5 (some .int) ∈ lw_tg := tg_of (mt_3 _ (List.mem_of_getElem? (i := 146) (by rfl))) (by rfl)
theorem tw_323 : Cond.methodLink RX3 60 yX3_current ∈ lw_tg := tg_of (mt_3 _ (List.mem_of_getElem? (i := 147) (by rfl))) (by rfl)
theorem tw_324 : Cond.instanceMethod yX3_current ∈ lw_tg := tg_of (mt_3 _ (List.mem_of_getElem? (i := 149) (by rfl))) (by rfl)
theorem tw_325 : Cond.selects RX3 yX3_current yX3_current ∈ lw_tg := tg_of (mp_3 _ (List.mem_of_getElem? (l := lw_privs_3) (i := 12) (by rfl))) (by rfl)
theorem tw_326 : Cond.code yX3_current cX3_current 6 (some .int) ∈ lw_tg := tg_of (mt_3 _ (List.mem_of_getElem? (i := 150) (by rfl))) (by rfl)
theorem tw_327 : Cond.fieldLink RX3 52 "FuseBoardsModel" "faultCurrent" "I" ∈ lw_tg := tg_of (mt_3 _ (List.mem_of_getElem? (i := 1) (by rfl))) (by rfl)
theorem tw_328 : Cond.methodLink RX3 44 yX3_isFed ∈ lw_tg := tg_of (mt_3 _ (List.mem_of_getElem? (i := 151) (by rfl))) (by rfl)
theorem tw_329 : Cond.instanceMethod yX3_isFed ∈ lw_tg := tg_of (mt_3 _ (List.mem_of_getElem? (i := 153) (by rfl))) (by rfl)
theorem tw_330 : Cond.selects RX3 yX3_isFed yX3_isFed ∈ lw_tg := tg_of (mp_3 _ (List.mem_of_getElem? (l := lw_privs_3) (i := 13) (by rfl))) (by rfl)
theorem tw_331 : Cond.code yX3_isFed cX3_isFed 6 (some .boolean) ∈ lw_tg := tg_of (mt_3 _ (List.mem_of_getElem? (i := 154) (by rfl))) (by rfl)
theorem tw_332 : Cond.methodLink RX3 48 yX3_isDead ∈ lw_tg := tg_of (mt_3 _ (List.mem_of_getElem? (i := 155) (by rfl))) (by rfl)
theorem tw_333 : Cond.instanceMethod yX3_isDead ∈ lw_tg := tg_of (mt_3 _ (List.mem_of_getElem? (i := 157) (by rfl))) (by rfl)
theorem tw_334 : Cond.selects RX3 yX3_isDead yX3_isDead ∈ lw_tg := tg_of (mp_3 _ (List.mem_of_getElem? (l := lw_privs_3) (i := 14) (by rfl))) (by rfl)
theorem tw_335 : Cond.code yX3_isDead cX3_isDead 5 (some .boolean) ∈ lw_tg := tg_of (mt_3 _ (List.mem_of_getElem? (i := 158) (by rfl))) (by rfl)
theorem tw_336 : Cond.methodLink RX3 63 yX3_burns ∈ lw_tg := tg_of (mt_3 _ (List.mem_of_getElem? (i := 159) (by rfl))) (by rfl)
theorem tw_337 : Cond.instanceMethod yX3_burns ∈ lw_tg := tg_of (mt_3 _ (List.mem_of_getElem? (i := 161) (by rfl))) (by rfl)
theorem tw_338 : Cond.selects RX3 yX3_burns yX3_burns ∈ lw_tg := tg_of (mp_3 _ (List.mem_of_getElem? (l := lw_privs_3) (i := 15) (by rfl))) (by rfl)
theorem tw_339 : Cond.code yX3_burns cX3_burns 4 none ∈ lw_tg := tg_of (mt_3 _ (List.mem_of_getElem? (i := 162) (by rfl))) (by rfl)
theorem tw_340 : Cond.methodLink RX3 66 yX3_heats ∈ lw_tg := tg_of (mt_3 _ (List.mem_of_getElem? (i := 163) (by rfl))) (by rfl)
theorem tw_341 : Cond.instanceMethod yX3_heats ∈ lw_tg := tg_of (mt_3 _ (List.mem_of_getElem? (i := 165) (by rfl))) (by rfl)
theorem tw_342 : Cond.selects RX3 yX3_heats yX3_heats ∈ lw_tg := tg_of (mp_4 _ (List.mem_of_getElem? (l := lw_privs_4) (i := 0) (by rfl))) (by rfl)
theorem tw_343 : Cond.code yX3_heats cX3_heats 7 none ∈ lw_tg := tg_of (mt_3 _ (List.mem_of_getElem? (i := 166) (by rfl))) (by rfl)
theorem tw_344 : Cond.constant RX3 55 (1000000) ∈ lw_tg := tg_of (mt_3 _ (List.mem_of_getElem? (i := 167) (by rfl))) (by rfl)
theorem tw_345 : Cond.methodLink RX3 69 yX3_meltingHeat ∈ lw_tg := tg_of (mt_3 _ (List.mem_of_getElem? (i := 168) (by rfl))) (by rfl)
theorem tw_346 : Cond.instanceMethod yX3_meltingHeat ∈ lw_tg := tg_of (mt_3 _ (List.mem_of_getElem? (i := 170) (by rfl))) (by rfl)
theorem tw_347 : Cond.selects RX3 yX3_meltingHeat yX3_meltingHeat ∈ lw_tg := tg_of (mp_4 _ (List.mem_of_getElem? (l := lw_privs_4) (i := 1) (by rfl))) (by rfl)
theorem tw_348 : Cond.code yX3_meltingHeat cX3_meltingHeat 6 (some .int) ∈ lw_tg := tg_of (mt_3 _ (List.mem_of_getElem? (i := 171) (by rfl))) (by rfl)
theorem tw_349 : Cond.methodLink RX3 72 yX3_isNearest ∈ lw_tg := tg_of (mt_3 _ (List.mem_of_getElem? (i := 172) (by rfl))) (by rfl)
theorem tw_350 : Cond.instanceMethod yX3_isNearest ∈ lw_tg := tg_of (mt_3 _ (List.mem_of_getElem? (i := 174) (by rfl))) (by rfl)
theorem tw_351 : Cond.selects RX3 yX3_isNearest yX3_isNearest ∈ lw_tg := tg_of (mp_4 _ (List.mem_of_getElem? (l := lw_privs_4) (i := 2) (by rfl))) (by rfl)
theorem tw_352 : Cond.code yX3_isNearest cX3_isNearest 5 (some .boolean) ∈ lw_tg := tg_of (mt_3 _ (List.mem_of_getElem? (i := 175) (by rfl))) (by rfl)
theorem tw_353 : Cond.methodLink RX3 75 yX3_blows ∈ lw_tg := tg_of (mt_3 _ (List.mem_of_getElem? (i := 176) (by rfl))) (by rfl)
theorem tw_354 : Cond.instanceMethod yX3_blows ∈ lw_tg := tg_of (mt_3 _ (List.mem_of_getElem? (i := 178) (by rfl))) (by rfl)
theorem tw_355 : Cond.selects RX3 yX3_blows yX3_blows ∈ lw_tg := tg_of (mp_4 _ (List.mem_of_getElem? (l := lw_privs_4) (i := 3) (by rfl))) (by rfl)
theorem tw_356 : Cond.code yX3_blows cX3_blows 5 none ∈ lw_tg := tg_of (mt_3 _ (List.mem_of_getElem? (i := 179) (by rfl))) (by rfl)
theorem tw_357 : Cond.methodLink RX3 56 yX3_flag ∈ lw_tg := tg_of (mt_3 _ (List.mem_of_getElem? (i := 180) (by rfl))) (by rfl)
theorem tw_358 : Cond.static yX3_flag ∈ lw_tg := tg_of (mt_3 _ (List.mem_of_getElem? (i := 181) (by rfl))) (by rfl)
theorem tw_359 : Cond.code yX3_flag cX3_flag 1 (some .int) ∈ lw_tg := tg_of (mt_3 _ (List.mem_of_getElem? (i := 182) (by rfl))) (by rfl)
theorem tw_360 : Cond.methodLink RX3 82 yX3_ones ∈ lw_tg := tg_of (mt_3 _ (List.mem_of_getElem? (i := 183) (by rfl))) (by rfl)
theorem tw_361 : Cond.static yX3_ones ∈ lw_tg := tg_of (mt_3 _ (List.mem_of_getElem? (i := 184) (by rfl))) (by rfl)
theorem tw_362 : Cond.code yX3_ones cX3_ones 3 (some .int) ∈ lw_tg := tg_of (mt_3 _ (List.mem_of_getElem? (i := 185) (by rfl))) (by rfl)
theorem tw_363 : Cond.methodLink RL 40 yX2_of ∈ lw_tg := tg_of (mt_2 _ (List.mem_of_getElem? (i := 1) (by rfl))) (by rfl)
theorem tw_364 : Cond.instanceMethod yX2_of ∈ lw_tg := tg_of (mt_2 _ (List.mem_of_getElem? (i := 2) (by rfl))) (by rfl)
theorem tw_365 : Cond.selects RX2 yX2_of yX2_of ∈ lw_tg := tg_of (mt_2 _ (List.mem_of_getElem? (i := 3) (by rfl))) (by rfl)
theorem tw_366 : Cond.code yX2_of cX2_of 3 (some .int) ∈ lw_tg := tg_of (mt_2 _ (List.mem_of_getElem? (i := 4) (by rfl))) (by rfl)
theorem tw_367 : Cond.methodLink RX2 72 yX0_isBoard ∈ lw_tg := tg_of (mt_2 _ (List.mem_of_getElem? (i := 5) (by rfl))) (by rfl)
theorem tw_368 : Cond.methodLink RX2 76 yX0_aboutBoard ∈ lw_tg := tg_of (mt_2 _ (List.mem_of_getElem? (i := 6) (by rfl))) (by rfl)
theorem tw_369 : Cond.instanceMethod yX0_aboutBoard ∈ lw_tg := tg_of (mt_2 _ (List.mem_of_getElem? (i := 7) (by rfl))) (by rfl)
theorem tw_370 : Cond.selects RX0 yX0_aboutBoard yX0_aboutBoard ∈ lw_tg := tg_of (mt_2 _ (List.mem_of_getElem? (i := 8) (by rfl))) (by rfl)
theorem tw_371 : Cond.code yX0_aboutBoard cX0_aboutBoard 3 (some .int) ∈ lw_tg := tg_of (mt_2 _ (List.mem_of_getElem? (i := 9) (by rfl))) (by rfl)
theorem tw_372 : Cond.methodLink RX0 112 yX0_current ∈ lw_tg := tg_of (mt_2 _ (List.mem_of_getElem? (i := 10) (by rfl))) (by rfl)
theorem tw_373 : Cond.instanceMethod yX0_current ∈ lw_tg := tg_of (mt_2 _ (List.mem_of_getElem? (i := 12) (by rfl))) (by rfl)
theorem tw_374 : Cond.selects RX0 yX0_current yX0_current ∈ lw_tg := tg_of (mp_1 _ (List.mem_of_getElem? (l := lw_privs_1) (i := 14) (by rfl))) (by rfl)
theorem tw_375 : Cond.code yX0_current cX0_current 2 (some .int) ∈ lw_tg := tg_of (mt_2 _ (List.mem_of_getElem? (i := 13) (by rfl))) (by rfl)
theorem tw_376 : Cond.methodLink RX0 115 yX0_boardsAhead ∈ lw_tg := tg_of (mt_2 _ (List.mem_of_getElem? (i := 14) (by rfl))) (by rfl)
theorem tw_377 : Cond.instanceMethod yX0_boardsAhead ∈ lw_tg := tg_of (mt_2 _ (List.mem_of_getElem? (i := 16) (by rfl))) (by rfl)
theorem tw_378 : Cond.selects RX0 yX0_boardsAhead yX0_boardsAhead ∈ lw_tg := tg_of (mp_1 _ (List.mem_of_getElem? (l := lw_privs_1) (i := 15) (by rfl))) (by rfl)
theorem tw_379 : Cond.code yX0_boardsAhead cX0_boardsAhead 5 (some .int) ∈ lw_tg := tg_of (mt_2 _ (List.mem_of_getElem? (i := 17) (by rfl))) (by rfl)
theorem tw_380 : Cond.methodLink RL 43 yX3_of ∈ lw_tg := tg_of (mt_3 _ (List.mem_of_getElem? (i := 186) (by rfl))) (by rfl)
theorem tw_381 : Cond.instanceMethod yX3_of ∈ lw_tg := tg_of (mt_3 _ (List.mem_of_getElem? (i := 187) (by rfl))) (by rfl)
theorem tw_382 : Cond.selects RX3 yX3_of yX3_of ∈ lw_tg := tg_of (mt_3 _ (List.mem_of_getElem? (i := 188) (by rfl))) (by rfl)
theorem tw_383 : Cond.code yX3_of cX3_of 4 (some .int) ∈ lw_tg := tg_of (mt_3 _ (List.mem_of_getElem? (i := 189) (by rfl))) (by rfl)
theorem tw_384 : Cond.methodLink RX3 152 yX3_depth ∈ lw_tg := tg_of (mt_3 _ (List.mem_of_getElem? (i := 190) (by rfl))) (by rfl)
theorem tw_385 : Cond.instanceMethod yX3_depth ∈ lw_tg := tg_of (mt_3 _ (List.mem_of_getElem? (i := 192) (by rfl))) (by rfl)
theorem tw_386 : Cond.selects RX3 yX3_depth yX3_depth ∈ lw_tg := tg_of (mp_4 _ (List.mem_of_getElem? (l := lw_privs_4) (i := 4) (by rfl))) (by rfl)
theorem tw_387 : Cond.code yX3_depth cX3_depth 4 (some .int) ∈ lw_tg := tg_of (mt_3 _ (List.mem_of_getElem? (i := 193) (by rfl))) (by rfl)
theorem tw_388 : Cond.methodLink RL 44 yX2_ofLoad ∈ lw_tg := tg_of (mt_2 _ (List.mem_of_getElem? (i := 18) (by rfl))) (by rfl)
theorem tw_389 : Cond.instanceMethod yX2_ofLoad ∈ lw_tg := tg_of (mt_2 _ (List.mem_of_getElem? (i := 19) (by rfl))) (by rfl)
theorem tw_390 : Cond.selects RX2 yX2_ofLoad yX2_ofLoad ∈ lw_tg := tg_of (mt_2 _ (List.mem_of_getElem? (i := 20) (by rfl))) (by rfl)
theorem tw_391 : Cond.code yX2_ofLoad cX2_ofLoad 3 (some .int) ∈ lw_tg := tg_of (mt_2 _ (List.mem_of_getElem? (i := 21) (by rfl))) (by rfl)
theorem tw_392 : Cond.methodLink RX2 79 yX0_isLoad ∈ lw_tg := tg_of (mt_2 _ (List.mem_of_getElem? (i := 22) (by rfl))) (by rfl)
theorem tw_393 : Cond.methodLink RX2 82 yX0_aboutLoad ∈ lw_tg := tg_of (mt_2 _ (List.mem_of_getElem? (i := 23) (by rfl))) (by rfl)
theorem tw_394 : Cond.instanceMethod yX0_aboutLoad ∈ lw_tg := tg_of (mt_2 _ (List.mem_of_getElem? (i := 24) (by rfl))) (by rfl)
theorem tw_395 : Cond.selects RX0 yX0_aboutLoad yX0_aboutLoad ∈ lw_tg := tg_of (mt_2 _ (List.mem_of_getElem? (i := 25) (by rfl))) (by rfl)
theorem tw_396 : Cond.code yX0_aboutLoad cX0_aboutLoad 3 (some .int) ∈ lw_tg := tg_of (mt_2 _ (List.mem_of_getElem? (i := 26) (by rfl))) (by rfl)
theorem tw_397 : Cond.methodLink RX0 118 yX0_allBoards ∈ lw_tg := tg_of (mt_2 _ (List.mem_of_getElem? (i := 27) (by rfl))) (by rfl)
theorem tw_398 : Cond.instanceMethod yX0_allBoards ∈ lw_tg := tg_of (mt_2 _ (List.mem_of_getElem? (i := 29) (by rfl))) (by rfl)
theorem tw_399 : Cond.selects RX0 yX0_allBoards yX0_allBoards ∈ lw_tg := tg_of (mp_2 _ (List.mem_of_getElem? (l := lw_privs_2) (i := 0) (by rfl))) (by rfl)
theorem tw_400 : Cond.code yX0_allBoards cX0_allBoards 1 (some .int) ∈ lw_tg := tg_of (mt_2 _ (List.mem_of_getElem? (i := 30) (by rfl))) (by rfl)
theorem tw_401 : Cond.methodLink RX0 121 yX0_workingLoadsAt ∈ lw_tg := tg_of (mt_2 _ (List.mem_of_getElem? (i := 31) (by rfl))) (by rfl)
theorem tw_402 : Cond.instanceMethod yX0_workingLoadsAt ∈ lw_tg := tg_of (mt_2 _ (List.mem_of_getElem? (i := 32) (by rfl))) (by rfl)
theorem tw_403 : Cond.selects RX0 yX0_workingLoadsAt yX0_workingLoadsAt ∈ lw_tg := tg_of (mt_2 _ (List.mem_of_getElem? (i := 33) (by rfl))) (by rfl)
theorem tw_404 : Cond.code yX0_workingLoadsAt cX0_workingLoadsAt 5 (some .int) ∈ lw_tg := tg_of (mt_2 _ (List.mem_of_getElem? (i := 34) (by rfl))) (by rfl)
theorem tw_405 : Cond.methodLink RL 47 yX3_ofLoad ∈ lw_tg := tg_of (mt_3 _ (List.mem_of_getElem? (i := 194) (by rfl))) (by rfl)
theorem tw_406 : Cond.instanceMethod yX3_ofLoad ∈ lw_tg := tg_of (mt_3 _ (List.mem_of_getElem? (i := 195) (by rfl))) (by rfl)
theorem tw_407 : Cond.selects RX3 yX3_ofLoad yX3_ofLoad ∈ lw_tg := tg_of (mt_3 _ (List.mem_of_getElem? (i := 196) (by rfl))) (by rfl)
theorem tw_408 : Cond.code yX3_ofLoad cX3_ofLoad 3 (some .int) ∈ lw_tg := tg_of (mt_3 _ (List.mem_of_getElem? (i := 197) (by rfl))) (by rfl)
theorem tw_409 : Cond.methodLink RX3 155 yX3_works ∈ lw_tg := tg_of (mt_3 _ (List.mem_of_getElem? (i := 198) (by rfl))) (by rfl)
theorem tw_410 : Cond.instanceMethod yX3_works ∈ lw_tg := tg_of (mt_3 _ (List.mem_of_getElem? (i := 200) (by rfl))) (by rfl)
theorem tw_411 : Cond.selects RX3 yX3_works yX3_works ∈ lw_tg := tg_of (mp_4 _ (List.mem_of_getElem? (l := lw_privs_4) (i := 5) (by rfl))) (by rfl)
theorem tw_412 : Cond.code yX3_works cX3_works 2 (some .boolean) ∈ lw_tg := tg_of (mt_3 _ (List.mem_of_getElem? (i := 201) (by rfl))) (by rfl)
theorem tw_413 : Cond.methodLink RL 48 yX2_fed ∈ lw_tg := tg_of (mt_2 _ (List.mem_of_getElem? (i := 35) (by rfl))) (by rfl)
theorem tw_414 : Cond.instanceMethod yX2_fed ∈ lw_tg := tg_of (mt_2 _ (List.mem_of_getElem? (i := 36) (by rfl))) (by rfl)
theorem tw_415 : Cond.selects RX2 yX2_fed yX2_fed ∈ lw_tg := tg_of (mt_2 _ (List.mem_of_getElem? (i := 37) (by rfl))) (by rfl)
theorem tw_416 : Cond.code yX2_fed cX2_fed 2 (some .int) ∈ lw_tg := tg_of (mt_2 _ (List.mem_of_getElem? (i := 38) (by rfl))) (by rfl)
theorem tw_417 : Cond.methodLink RX2 85 yX0_fedThrough ∈ lw_tg := tg_of (mt_2 _ (List.mem_of_getElem? (i := 39) (by rfl))) (by rfl)
theorem tw_418 : Cond.methodLink RL 51 yX3_fed ∈ lw_tg := tg_of (mt_3 _ (List.mem_of_getElem? (i := 202) (by rfl))) (by rfl)
theorem tw_419 : Cond.instanceMethod yX3_fed ∈ lw_tg := tg_of (mt_3 _ (List.mem_of_getElem? (i := 203) (by rfl))) (by rfl)
theorem tw_420 : Cond.selects RX3 yX3_fed yX3_fed ∈ lw_tg := tg_of (mt_3 _ (List.mem_of_getElem? (i := 204) (by rfl))) (by rfl)
theorem tw_421 : Cond.code yX3_fed cX3_fed 4 (some .int) ∈ lw_tg := tg_of (mt_3 _ (List.mem_of_getElem? (i := 205) (by rfl))) (by rfl)
theorem tw_422 : Cond.methodLink RL 52 yX2_blown ∈ lw_tg := tg_of (mt_2 _ (List.mem_of_getElem? (i := 40) (by rfl))) (by rfl)
theorem tw_423 : Cond.instanceMethod yX2_blown ∈ lw_tg := tg_of (mt_2 _ (List.mem_of_getElem? (i := 41) (by rfl))) (by rfl)
theorem tw_424 : Cond.selects RX2 yX2_blown yX2_blown ∈ lw_tg := tg_of (mt_2 _ (List.mem_of_getElem? (i := 42) (by rfl))) (by rfl)
theorem tw_425 : Cond.code yX2_blown cX2_blown 2 (some .int) ∈ lw_tg := tg_of (mt_2 _ (List.mem_of_getElem? (i := 43) (by rfl))) (by rfl)
theorem tw_426 : Cond.methodLink RX2 88 yX0_latestBlown ∈ lw_tg := tg_of (mt_2 _ (List.mem_of_getElem? (i := 44) (by rfl))) (by rfl)
theorem tw_427 : Cond.instanceMethod yX0_latestBlown ∈ lw_tg := tg_of (mt_2 _ (List.mem_of_getElem? (i := 45) (by rfl))) (by rfl)
theorem tw_428 : Cond.selects RX0 yX0_latestBlown yX0_latestBlown ∈ lw_tg := tg_of (mt_2 _ (List.mem_of_getElem? (i := 46) (by rfl))) (by rfl)
theorem tw_429 : Cond.code yX0_latestBlown cX0_latestBlown 2 (some .int) ∈ lw_tg := tg_of (mt_2 _ (List.mem_of_getElem? (i := 47) (by rfl))) (by rfl)
theorem tw_430 : Cond.methodLink RL 55 yX3_blown ∈ lw_tg := tg_of (mt_3 _ (List.mem_of_getElem? (i := 206) (by rfl))) (by rfl)
theorem tw_431 : Cond.instanceMethod yX3_blown ∈ lw_tg := tg_of (mt_3 _ (List.mem_of_getElem? (i := 207) (by rfl))) (by rfl)
theorem tw_432 : Cond.selects RX3 yX3_blown yX3_blown ∈ lw_tg := tg_of (mt_3 _ (List.mem_of_getElem? (i := 208) (by rfl))) (by rfl)
theorem tw_433 : Cond.code yX3_blown cX3_blown 2 (some .int) ∈ lw_tg := tg_of (mt_3 _ (List.mem_of_getElem? (i := 209) (by rfl))) (by rfl)
theorem tw_434 : Cond.methodLink RL 56 yX2_count ∈ lw_tg := tg_of (mt_2 _ (List.mem_of_getElem? (i := 48) (by rfl))) (by rfl)
theorem tw_435 : Cond.instanceMethod yX2_count ∈ lw_tg := tg_of (mt_2 _ (List.mem_of_getElem? (i := 49) (by rfl))) (by rfl)
theorem tw_436 : Cond.selects RX2 yX2_count yX2_count ∈ lw_tg := tg_of (mt_2 _ (List.mem_of_getElem? (i := 50) (by rfl))) (by rfl)
theorem tw_437 : Cond.code yX2_count cX2_count 2 (some .int) ∈ lw_tg := tg_of (mt_2 _ (List.mem_of_getElem? (i := 51) (by rfl))) (by rfl)
theorem tw_438 : Cond.methodLink RX2 91 yX1_length ∈ lw_tg := tg_of (mt_2 _ (List.mem_of_getElem? (i := 52) (by rfl))) (by rfl)
theorem tw_439 : Cond.instanceMethod yX1_length ∈ lw_tg := tg_of (mt_2 _ (List.mem_of_getElem? (i := 53) (by rfl))) (by rfl)
theorem tw_440 : Cond.selects RX1 yX1_length yX1_length ∈ lw_tg := tg_of (mt_2 _ (List.mem_of_getElem? (i := 54) (by rfl))) (by rfl)
theorem tw_441 : Cond.code yX1_length cX1_length 1 (some .int) ∈ lw_tg := tg_of (mt_2 _ (List.mem_of_getElem? (i := 55) (by rfl))) (by rfl)
theorem tw_442 : Cond.methodLink RX2 95 yX0_aboutHouse ∈ lw_tg := tg_of (mt_2 _ (List.mem_of_getElem? (i := 56) (by rfl))) (by rfl)
theorem tw_443 : Cond.instanceMethod yX0_aboutHouse ∈ lw_tg := tg_of (mt_2 _ (List.mem_of_getElem? (i := 57) (by rfl))) (by rfl)
theorem tw_444 : Cond.selects RX0 yX0_aboutHouse yX0_aboutHouse ∈ lw_tg := tg_of (mt_2 _ (List.mem_of_getElem? (i := 58) (by rfl))) (by rfl)
theorem tw_445 : Cond.code yX0_aboutHouse cX0_aboutHouse 2 (some .int) ∈ lw_tg := tg_of (mt_2 _ (List.mem_of_getElem? (i := 59) (by rfl))) (by rfl)
theorem tw_446 : Cond.methodLink RX0 124 yX0_burningBoards ∈ lw_tg := tg_of (mt_2 _ (List.mem_of_getElem? (i := 60) (by rfl))) (by rfl)
theorem tw_447 : Cond.instanceMethod yX0_burningBoards ∈ lw_tg := tg_of (mt_2 _ (List.mem_of_getElem? (i := 62) (by rfl))) (by rfl)
theorem tw_448 : Cond.selects RX0 yX0_burningBoards yX0_burningBoards ∈ lw_tg := tg_of (mp_2 _ (List.mem_of_getElem? (l := lw_privs_2) (i := 1) (by rfl))) (by rfl)
theorem tw_449 : Cond.code yX0_burningBoards cX0_burningBoards 3 (some .int) ∈ lw_tg := tg_of (mt_2 _ (List.mem_of_getElem? (i := 63) (by rfl))) (by rfl)
theorem tw_450 : Cond.methodLink RL 59 yX3_count ∈ lw_tg := tg_of (mt_3 _ (List.mem_of_getElem? (i := 210) (by rfl))) (by rfl)
theorem tw_451 : Cond.instanceMethod yX3_count ∈ lw_tg := tg_of (mt_3 _ (List.mem_of_getElem? (i := 211) (by rfl))) (by rfl)
theorem tw_452 : Cond.selects RX3 yX3_count yX3_count ∈ lw_tg := tg_of (mt_3 _ (List.mem_of_getElem? (i := 212) (by rfl))) (by rfl)
theorem tw_453 : Cond.code yX3_count cX3_count 2 (some .int) ∈ lw_tg := tg_of (mt_3 _ (List.mem_of_getElem? (i := 213) (by rfl))) (by rfl)
theorem tw_454 : Cond.fieldLink RX3 165 "FuseBoardsModel" "typed" "I" ∈ lw_tg := tg_of (mt_2 _ (List.mem_of_getElem? (i := 239) (by rfl))) (by rfl)
theorem tw_455 : Cond.methodLink RX3 158 yX3_boards ∈ lw_tg := tg_of (mt_3 _ (List.mem_of_getElem? (i := 214) (by rfl))) (by rfl)
theorem tw_456 : Cond.instanceMethod yX3_boards ∈ lw_tg := tg_of (mt_3 _ (List.mem_of_getElem? (i := 216) (by rfl))) (by rfl)
theorem tw_457 : Cond.selects RX3 yX3_boards yX3_boards ∈ lw_tg := tg_of (mp_4 _ (List.mem_of_getElem? (l := lw_privs_4) (i := 6) (by rfl))) (by rfl)
theorem tw_458 : Cond.code yX3_boards cX3_boards 5 (some .int) ∈ lw_tg := tg_of (mt_3 _ (List.mem_of_getElem? (i := 217) (by rfl))) (by rfl)
theorem tw_459 : Cond.methodLink RX3 161 yX3_working ∈ lw_tg := tg_of (mt_3 _ (List.mem_of_getElem? (i := 218) (by rfl))) (by rfl)
theorem tw_460 : Cond.instanceMethod yX3_working ∈ lw_tg := tg_of (mt_3 _ (List.mem_of_getElem? (i := 220) (by rfl))) (by rfl)
theorem tw_461 : Cond.selects RX3 yX3_working yX3_working ∈ lw_tg := tg_of (mp_4 _ (List.mem_of_getElem? (l := lw_privs_4) (i := 7) (by rfl))) (by rfl)
theorem tw_462 : Cond.code yX3_working cX3_working 3 (some .int) ∈ lw_tg := tg_of (mt_3 _ (List.mem_of_getElem? (i := 221) (by rfl))) (by rfl)
theorem tw_463 : Cond.methodLink RL 60 yX2_next ∈ lw_tg := tg_of (mt_2 _ (List.mem_of_getElem? (i := 64) (by rfl))) (by rfl)
theorem tw_464 : Cond.instanceMethod yX2_next ∈ lw_tg := tg_of (mt_2 _ (List.mem_of_getElem? (i := 65) (by rfl))) (by rfl)
theorem tw_465 : Cond.selects RX2 yX2_next yX2_next ∈ lw_tg := tg_of (mt_2 _ (List.mem_of_getElem? (i := 66) (by rfl))) (by rfl)
theorem tw_466 : Cond.code yX2_next cX2_next 2 (some .int) ∈ lw_tg := tg_of (mt_2 _ (List.mem_of_getElem? (i := 67) (by rfl))) (by rfl)
theorem tw_467 : Cond.methodLink RX2 98 yX2_isTrialQuestion ∈ lw_tg := tg_of (mt_2 _ (List.mem_of_getElem? (i := 68) (by rfl))) (by rfl)
theorem tw_468 : Cond.static yX2_isTrialQuestion ∈ lw_tg := tg_of (mt_2 _ (List.mem_of_getElem? (i := 69) (by rfl))) (by rfl)
theorem tw_469 : Cond.code yX2_isTrialQuestion cX2_isTrialQuestion 1 (some .boolean) ∈ lw_tg := tg_of (mt_2 _ (List.mem_of_getElem? (i := 70) (by rfl))) (by rfl)
theorem tw_470 : Cond.methodLink RX2 101 yX0_copyFrom ∈ lw_tg := tg_of (mt_2 _ (List.mem_of_getElem? (i := 71) (by rfl))) (by rfl)
theorem tw_471 : Cond.instanceMethod yX0_copyFrom ∈ lw_tg := tg_of (mt_2 _ (List.mem_of_getElem? (i := 72) (by rfl))) (by rfl)
theorem tw_472 : Cond.selects RX0 yX0_copyFrom yX0_copyFrom ∈ lw_tg := tg_of (mt_2 _ (List.mem_of_getElem? (i := 73) (by rfl))) (by rfl)
theorem tw_473 : Cond.code yX0_copyFrom cX0_copyFrom 2 none ∈ lw_tg := tg_of (mt_2 _ (List.mem_of_getElem? (i := 74) (by rfl))) (by rfl)
theorem tw_474 : Cond.methodLink RX2 105 yX2_firstBlow ∈ lw_tg := tg_of (mt_2 _ (List.mem_of_getElem? (i := 75) (by rfl))) (by rfl)
theorem tw_475 : Cond.instanceMethod yX2_firstBlow ∈ lw_tg := tg_of (mt_2 _ (List.mem_of_getElem? (i := 77) (by rfl))) (by rfl)
theorem tw_476 : Cond.selects RX2 yX2_firstBlow yX2_firstBlow ∈ lw_tg := tg_of (mp_2 _ (List.mem_of_getElem? (l := lw_privs_2) (i := 2) (by rfl))) (by rfl)
theorem tw_477 : Cond.code yX2_firstBlow cX2_firstBlow 4 (some .int) ∈ lw_tg := tg_of (mt_2 _ (List.mem_of_getElem? (i := 78) (by rfl))) (by rfl)
theorem tw_478 : Cond.methodLink RX2 159 yX0_tick ∈ lw_tg := tg_of (mt_2 _ (List.mem_of_getElem? (i := 79) (by rfl))) (by rfl)
theorem tw_479 : Cond.methodLink RX2 162 yX2_lowest ∈ lw_tg := tg_of (mt_2 _ (List.mem_of_getElem? (i := 80) (by rfl))) (by rfl)
theorem tw_480 : Cond.static yX2_lowest ∈ lw_tg := tg_of (mt_2 _ (List.mem_of_getElem? (i := 81) (by rfl))) (by rfl)
theorem tw_481 : Cond.code yX2_lowest cX2_lowest 2 (some .int) ∈ lw_tg := tg_of (mt_2 _ (List.mem_of_getElem? (i := 82) (by rfl))) (by rfl)
theorem tw_482 : Cond.methodLink RL 63 yX3_next ∈ lw_tg := tg_of (mt_3 _ (List.mem_of_getElem? (i := 222) (by rfl))) (by rfl)
theorem tw_483 : Cond.instanceMethod yX3_next ∈ lw_tg := tg_of (mt_3 _ (List.mem_of_getElem? (i := 223) (by rfl))) (by rfl)
theorem tw_484 : Cond.selects RX3 yX3_next yX3_next ∈ lw_tg := tg_of (mt_3 _ (List.mem_of_getElem? (i := 224) (by rfl))) (by rfl)
theorem tw_485 : Cond.code yX3_next cX3_next 2 (some .int) ∈ lw_tg := tg_of (mt_3 _ (List.mem_of_getElem? (i := 225) (by rfl))) (by rfl)
theorem tw_486 : Cond.methodLink RX3 171 yX3_first ∈ lw_tg := tg_of (mt_3 _ (List.mem_of_getElem? (i := 226) (by rfl))) (by rfl)
theorem tw_487 : Cond.instanceMethod yX3_first ∈ lw_tg := tg_of (mt_3 _ (List.mem_of_getElem? (i := 228) (by rfl))) (by rfl)
theorem tw_488 : Cond.selects RX3 yX3_first yX3_first ∈ lw_tg := tg_of (mp_4 _ (List.mem_of_getElem? (l := lw_privs_4) (i := 8) (by rfl))) (by rfl)
theorem tw_489 : Cond.code yX3_first cX3_first 4 (some .int) ∈ lw_tg := tg_of (mt_3 _ (List.mem_of_getElem? (i := 229) (by rfl))) (by rfl)
theorem tw_490 : Cond.methodLink RX3 168 yX3_lowest ∈ lw_tg := tg_of (mt_3 _ (List.mem_of_getElem? (i := 230) (by rfl))) (by rfl)
theorem tw_491 : Cond.static yX3_lowest ∈ lw_tg := tg_of (mt_3 _ (List.mem_of_getElem? (i := 231) (by rfl))) (by rfl)
theorem tw_492 : Cond.code yX3_lowest cX3_lowest 2 (some .int) ∈ lw_tg := tg_of (mt_3 _ (List.mem_of_getElem? (i := 232) (by rfl))) (by rfl)
theorem tw_493 : Cond.methodLink RL 64 yX2_test ∈ lw_tg := tg_of (mt_2 _ (List.mem_of_getElem? (i := 83) (by rfl))) (by rfl)
theorem tw_494 : Cond.instanceMethod yX2_test ∈ lw_tg := tg_of (mt_2 _ (List.mem_of_getElem? (i := 84) (by rfl))) (by rfl)
theorem tw_495 : Cond.selects RX2 yX2_test yX2_test ∈ lw_tg := tg_of (mt_2 _ (List.mem_of_getElem? (i := 85) (by rfl))) (by rfl)
theorem tw_496 : Cond.code yX2_test cX2_test 4 (some .int) ∈ lw_tg := tg_of (mt_2 _ (List.mem_of_getElem? (i := 86) (by rfl))) (by rfl)
theorem tw_497 : Cond.methodLink RX2 108 yX2_tryFault ∈ lw_tg := tg_of (mt_2 _ (List.mem_of_getElem? (i := 87) (by rfl))) (by rfl)
theorem tw_498 : Cond.instanceMethod yX2_tryFault ∈ lw_tg := tg_of (mt_2 _ (List.mem_of_getElem? (i := 89) (by rfl))) (by rfl)
theorem tw_499 : Cond.selects RX2 yX2_tryFault yX2_tryFault ∈ lw_tg := tg_of (mp_2 _ (List.mem_of_getElem? (l := lw_privs_2) (i := 3) (by rfl))) (by rfl)
theorem tw_500 : Cond.code yX2_tryFault cX2_tryFault 4 (some .int) ∈ lw_tg := tg_of (mt_2 _ (List.mem_of_getElem? (i := 90) (by rfl))) (by rfl)
theorem tw_501 : Cond.methodLink RX2 155 yX0_leaveOnlyFault ∈ lw_tg := tg_of (mt_2 _ (List.mem_of_getElem? (i := 91) (by rfl))) (by rfl)
theorem tw_502 : Cond.instanceMethod yX0_leaveOnlyFault ∈ lw_tg := tg_of (mt_2 _ (List.mem_of_getElem? (i := 92) (by rfl))) (by rfl)
theorem tw_503 : Cond.selects RX0 yX0_leaveOnlyFault yX0_leaveOnlyFault ∈ lw_tg := tg_of (mt_2 _ (List.mem_of_getElem? (i := 93) (by rfl))) (by rfl)
theorem tw_504 : Cond.code yX0_leaveOnlyFault cX0_leaveOnlyFault 3 none ∈ lw_tg := tg_of (mt_2 _ (List.mem_of_getElem? (i := 94) (by rfl))) (by rfl)
theorem tw_505 : Cond.methodLink RX0 55 yJ7_fill_fda19 ∈ lw_tg := tg_of (mt_2 _ (List.mem_of_getElem? (i := 95) (by rfl))) (by rfl)
theorem tw_506 : Cond.static yJ7_fill_fda19 ∈ lw_tg := tg_of (mt_2 _ (List.mem_of_getElem? (i := 96) (by rfl))) (by rfl)
theorem tw_507 : Cond.code yJ7_fill_fda19 cJ7_fill_fda19 5 none ∈ lw_tg := tg_of (mt_2 _ (List.mem_of_getElem? (i := 97) (by rfl))) (by rfl)
theorem tw_508 : Cond.methodLink RJ7 13 yJ7_rangeCheck_23922 ∈ lw_tg := tg_of (mt_2 _ (List.mem_of_getElem? (i := 98) (by rfl))) (by rfl)
theorem tw_509 : Cond.static yJ7_rangeCheck_23922 ∈ lw_tg := tg_of (mt_2 _ (List.mem_of_getElem? (i := 99) (by rfl))) (by rfl)
theorem tw_510 : Cond.code yJ7_rangeCheck_23922 cJ7_rangeCheck_23922 3 none ∈ lw_tg := tg_of (mt_2 _ (List.mem_of_getElem? (i := 100) (by rfl))) (by rfl)
theorem tw_511 : Cond.methodLink RL 67 yX3_test ∈ lw_tg := tg_of (mt_3 _ (List.mem_of_getElem? (i := 233) (by rfl))) (by rfl)
theorem tw_512 : Cond.instanceMethod yX3_test ∈ lw_tg := tg_of (mt_3 _ (List.mem_of_getElem? (i := 234) (by rfl))) (by rfl)
theorem tw_513 : Cond.selects RX3 yX3_test yX3_test ∈ lw_tg := tg_of (mt_3 _ (List.mem_of_getElem? (i := 235) (by rfl))) (by rfl)
theorem tw_514 : Cond.code yX3_test cX3_test 4 (some .int) ∈ lw_tg := tg_of (mt_3 _ (List.mem_of_getElem? (i := 236) (by rfl))) (by rfl)
theorem tw_515 : Cond.constantLong RX3 174 (9999) ∈ lw_tg := tg_of (mt_3 _ (List.mem_of_getElem? (i := 237) (by rfl))) (by rfl)
theorem tw_516 : Cond.methodLink RX3 176 yX3_tests ∈ lw_tg := tg_of (mt_3 _ (List.mem_of_getElem? (i := 238) (by rfl))) (by rfl)
theorem tw_517 : Cond.instanceMethod yX3_tests ∈ lw_tg := tg_of (mt_4 _ (List.mem_of_getElem? (i := 0) (by rfl))) (by rfl)
theorem tw_518 : Cond.selects RX3 yX3_tests yX3_tests ∈ lw_tg := tg_of (mp_4 _ (List.mem_of_getElem? (l := lw_privs_4) (i := 9) (by rfl))) (by rfl)
theorem tw_519 : Cond.code yX3_tests cX3_tests 6 (some .int) ∈ lw_tg := tg_of (mt_4 _ (List.mem_of_getElem? (i := 1) (by rfl))) (by rfl)
theorem tw_520 : Cond.methodLink RL 68 yX2_unfair ∈ lw_tg := tg_of (mt_2 _ (List.mem_of_getElem? (i := 101) (by rfl))) (by rfl)
theorem tw_521 : Cond.instanceMethod yX2_unfair ∈ lw_tg := tg_of (mt_2 _ (List.mem_of_getElem? (i := 102) (by rfl))) (by rfl)
theorem tw_522 : Cond.selects RX2 yX2_unfair yX2_unfair ∈ lw_tg := tg_of (mt_2 _ (List.mem_of_getElem? (i := 103) (by rfl))) (by rfl)
theorem tw_523 : Cond.code yX2_unfair cX2_unfair 5 (some .int) ∈ lw_tg := tg_of (mt_2 _ (List.mem_of_getElem? (i := 104) (by rfl))) (by rfl)
theorem tw_524 : Cond.methodLink RX2 111 yX0_boards ∈ lw_tg := tg_of (mt_2 _ (List.mem_of_getElem? (i := 105) (by rfl))) (by rfl)
theorem tw_525 : Cond.instanceMethod yX0_boards ∈ lw_tg := tg_of (mt_2 _ (List.mem_of_getElem? (i := 106) (by rfl))) (by rfl)
theorem tw_526 : Cond.selects RX0 yX0_boards yX0_boards ∈ lw_tg := tg_of (mt_2 _ (List.mem_of_getElem? (i := 107) (by rfl))) (by rfl)
theorem tw_527 : Cond.code yX0_boards cX0_boards 1 (some .int) ∈ lw_tg := tg_of (mt_2 _ (List.mem_of_getElem? (i := 108) (by rfl))) (by rfl)
theorem tw_528 : Cond.methodLink RX2 114 yX0_rating ∈ lw_tg := tg_of (mt_2 _ (List.mem_of_getElem? (i := 109) (by rfl))) (by rfl)
theorem tw_529 : Cond.instanceMethod yX0_rating ∈ lw_tg := tg_of (mt_2 _ (List.mem_of_getElem? (i := 110) (by rfl))) (by rfl)
theorem tw_530 : Cond.selects RX0 yX0_rating yX0_rating ∈ lw_tg := tg_of (mt_2 _ (List.mem_of_getElem? (i := 111) (by rfl))) (by rfl)
theorem tw_531 : Cond.code yX0_rating cX0_rating 2 (some .int) ∈ lw_tg := tg_of (mt_2 _ (List.mem_of_getElem? (i := 112) (by rfl))) (by rfl)
theorem tw_532 : Cond.methodLink RL 71 yX3_unfair ∈ lw_tg := tg_of (mt_4 _ (List.mem_of_getElem? (i := 2) (by rfl))) (by rfl)
theorem tw_533 : Cond.instanceMethod yX3_unfair ∈ lw_tg := tg_of (mt_4 _ (List.mem_of_getElem? (i := 3) (by rfl))) (by rfl)
theorem tw_534 : Cond.selects RX3 yX3_unfair yX3_unfair ∈ lw_tg := tg_of (mt_4 _ (List.mem_of_getElem? (i := 4) (by rfl))) (by rfl)
theorem tw_535 : Cond.code yX3_unfair cX3_unfair 5 (some .int) ∈ lw_tg := tg_of (mt_4 _ (List.mem_of_getElem? (i := 5) (by rfl))) (by rfl)
theorem tw_536 : Cond.constantLong RX3 179 (20) ∈ lw_tg := tg_of (mt_4 _ (List.mem_of_getElem? (i := 6) (by rfl))) (by rfl)
theorem tw_537 : Cond.methodLink RL 72 yX2_ifOpen ∈ lw_tg := tg_of (mt_2 _ (List.mem_of_getElem? (i := 113) (by rfl))) (by rfl)
theorem tw_538 : Cond.instanceMethod yX2_ifOpen ∈ lw_tg := tg_of (mt_2 _ (List.mem_of_getElem? (i := 114) (by rfl))) (by rfl)
theorem tw_539 : Cond.selects RX2 yX2_ifOpen yX2_ifOpen ∈ lw_tg := tg_of (mt_2 _ (List.mem_of_getElem? (i := 115) (by rfl))) (by rfl)
theorem tw_540 : Cond.code yX2_ifOpen cX2_ifOpen 2 (some .int) ∈ lw_tg := tg_of (mt_2 _ (List.mem_of_getElem? (i := 116) (by rfl))) (by rfl)
theorem tw_541 : Cond.methodLink RX2 117 yX0_workingLoadsAt ∈ lw_tg := tg_of (mt_2 _ (List.mem_of_getElem? (i := 117) (by rfl))) (by rfl)
theorem tw_542 : Cond.methodLink RL 75 yX3_ifOpen ∈ lw_tg := tg_of (mt_4 _ (List.mem_of_getElem? (i := 7) (by rfl))) (by rfl)
theorem tw_543 : Cond.instanceMethod yX3_ifOpen ∈ lw_tg := tg_of (mt_4 _ (List.mem_of_getElem? (i := 8) (by rfl))) (by rfl)
theorem tw_544 : Cond.selects RX3 yX3_ifOpen yX3_ifOpen ∈ lw_tg := tg_of (mt_4 _ (List.mem_of_getElem? (i := 9) (by rfl))) (by rfl)
theorem tw_545 : Cond.code yX3_ifOpen cX3_ifOpen 4 (some .int) ∈ lw_tg := tg_of (mt_4 _ (List.mem_of_getElem? (i := 10) (by rfl))) (by rfl)
theorem tw_546 : Cond.methodLink RL 78 yX2_put ∈ lw_tg := tg_of (mt_2 _ (List.mem_of_getElem? (i := 118) (by rfl))) (by rfl)
theorem tw_547 : Cond.instanceMethod yX2_put ∈ lw_tg := tg_of (mt_2 _ (List.mem_of_getElem? (i := 119) (by rfl))) (by rfl)
theorem tw_548 : Cond.selects RX2 yX2_put yX2_put ∈ lw_tg := tg_of (mt_2 _ (List.mem_of_getElem? (i := 120) (by rfl))) (by rfl)
theorem tw_549 : Cond.code yX2_put cX2_put 3 (some .int) ∈ lw_tg := tg_of (mt_2 _ (List.mem_of_getElem? (i := 121) (by rfl))) (by rfl)
theorem tw_550 : Cond.methodLink RX2 120 yX1_append ∈ lw_tg := tg_of (mt_2 _ (List.mem_of_getElem? (i := 122) (by rfl))) (by rfl)
theorem tw_551 : Cond.instanceMethod yX1_append ∈ lw_tg := tg_of (mt_2 _ (List.mem_of_getElem? (i := 123) (by rfl))) (by rfl)
theorem tw_552 : Cond.selects RX1 yX1_append yX1_append ∈ lw_tg := tg_of (mt_2 _ (List.mem_of_getElem? (i := 124) (by rfl))) (by rfl)
theorem tw_553 : Cond.code yX1_append cX1_append 5 (some .int) ∈ lw_tg := tg_of (mt_2 _ (List.mem_of_getElem? (i := 125) (by rfl))) (by rfl)
theorem tw_554 : Cond.methodLink RX1 34 yX1_countCharacters ∈ lw_tg := tg_of (mt_2 _ (List.mem_of_getElem? (i := 126) (by rfl))) (by rfl)
theorem tw_555 : Cond.static yX1_countCharacters ∈ lw_tg := tg_of (mt_2 _ (List.mem_of_getElem? (i := 127) (by rfl))) (by rfl)
theorem tw_556 : Cond.code yX1_countCharacters cX1_countCharacters 4 (some .int) ∈ lw_tg := tg_of (mt_2 _ (List.mem_of_getElem? (i := 128) (by rfl))) (by rfl)
theorem tw_557 : Cond.methodLink RX1 38 yX1_codeIn ∈ lw_tg := tg_of (mt_2 _ (List.mem_of_getElem? (i := 129) (by rfl))) (by rfl)
theorem tw_558 : Cond.static yX1_codeIn ∈ lw_tg := tg_of (mt_2 _ (List.mem_of_getElem? (i := 130) (by rfl))) (by rfl)
theorem tw_559 : Cond.code yX1_codeIn cX1_codeIn 3 (some .int) ∈ lw_tg := tg_of (mt_2 _ (List.mem_of_getElem? (i := 131) (by rfl))) (by rfl)
theorem tw_560 : Cond.methodLink RL 82 yX3_put ∈ lw_tg := tg_of (mt_4 _ (List.mem_of_getElem? (i := 11) (by rfl))) (by rfl)
theorem tw_561 : Cond.instanceMethod yX3_put ∈ lw_tg := tg_of (mt_4 _ (List.mem_of_getElem? (i := 12) (by rfl))) (by rfl)
theorem tw_562 : Cond.selects RX3 yX3_put yX3_put ∈ lw_tg := tg_of (mt_4 _ (List.mem_of_getElem? (i := 13) (by rfl))) (by rfl)
theorem tw_563 : Cond.code yX3_put cX3_put 5 (some .int) ∈ lw_tg := tg_of (mt_4 _ (List.mem_of_getElem? (i := 14) (by rfl))) (by rfl)
theorem tw_564 : Cond.constantLong RX3 181 (255) ∈ lw_tg := tg_of (mt_4 _ (List.mem_of_getElem? (i := 18) (by rfl))) (by rfl)
theorem tw_565 : Cond.methodLink RX3 187 yX3_charactersOf ∈ lw_tg := tg_of (mt_4 _ (List.mem_of_getElem? (i := 15) (by rfl))) (by rfl)
theorem tw_566 : Cond.static yX3_charactersOf ∈ lw_tg := tg_of (mt_4 _ (List.mem_of_getElem? (i := 16) (by rfl))) (by rfl)
theorem tw_567 : Cond.code yX3_charactersOf cX3_charactersOf 5 (some .int) ∈ lw_tg := tg_of (mt_4 _ (List.mem_of_getElem? (i := 17) (by rfl))) (by rfl)
theorem tw_568 : Cond.constantLong RX3 183 (33) ∈ lw_tg := tg_of (mt_4 _ (List.mem_of_getElem? (i := 19) (by rfl))) (by rfl)
theorem tw_569 : Cond.constantLong RX3 185 (126) ∈ lw_tg := tg_of (mt_4 _ (List.mem_of_getElem? (i := 20) (by rfl))) (by rfl)
theorem tw_570 : Cond.methodLink RL 83 yX2_wipe ∈ lw_tg := tg_of (mt_2 _ (List.mem_of_getElem? (i := 132) (by rfl))) (by rfl)
theorem tw_571 : Cond.instanceMethod yX2_wipe ∈ lw_tg := tg_of (mt_2 _ (List.mem_of_getElem? (i := 133) (by rfl))) (by rfl)
theorem tw_572 : Cond.selects RX2 yX2_wipe yX2_wipe ∈ lw_tg := tg_of (mt_2 _ (List.mem_of_getElem? (i := 134) (by rfl))) (by rfl)
theorem tw_573 : Cond.code yX2_wipe cX2_wipe 1 (some .int) ∈ lw_tg := tg_of (mt_2 _ (List.mem_of_getElem? (i := 135) (by rfl))) (by rfl)
theorem tw_574 : Cond.methodLink RX2 124 yX1_clear ∈ lw_tg := tg_of (mt_2 _ (List.mem_of_getElem? (i := 136) (by rfl))) (by rfl)
theorem tw_575 : Cond.instanceMethod yX1_clear ∈ lw_tg := tg_of (mt_2 _ (List.mem_of_getElem? (i := 137) (by rfl))) (by rfl)
theorem tw_576 : Cond.selects RX1 yX1_clear yX1_clear ∈ lw_tg := tg_of (mt_2 _ (List.mem_of_getElem? (i := 138) (by rfl))) (by rfl)
theorem tw_577 : Cond.code yX1_clear cX1_clear 2 (some .int) ∈ lw_tg := tg_of (mt_2 _ (List.mem_of_getElem? (i := 139) (by rfl))) (by rfl)
theorem tw_578 : Cond.methodLink RL 87 yX3_wipe ∈ lw_tg := tg_of (mt_4 _ (List.mem_of_getElem? (i := 21) (by rfl))) (by rfl)
theorem tw_579 : Cond.instanceMethod yX3_wipe ∈ lw_tg := tg_of (mt_4 _ (List.mem_of_getElem? (i := 22) (by rfl))) (by rfl)
theorem tw_580 : Cond.selects RX3 yX3_wipe yX3_wipe ∈ lw_tg := tg_of (mt_4 _ (List.mem_of_getElem? (i := 23) (by rfl))) (by rfl)
theorem tw_581 : Cond.code yX3_wipe cX3_wipe 2 (some .int) ∈ lw_tg := tg_of (mt_4 _ (List.mem_of_getElem? (i := 24) (by rfl))) (by rfl)
theorem tw_582 : Cond.methodLink RL 88 yX2_fault ∈ lw_tg := tg_of (mt_2 _ (List.mem_of_getElem? (i := 140) (by rfl))) (by rfl)
theorem tw_583 : Cond.instanceMethod yX2_fault ∈ lw_tg := tg_of (mt_2 _ (List.mem_of_getElem? (i := 141) (by rfl))) (by rfl)
theorem tw_584 : Cond.selects RX2 yX2_fault yX2_fault ∈ lw_tg := tg_of (mt_2 _ (List.mem_of_getElem? (i := 142) (by rfl))) (by rfl)
theorem tw_585 : Cond.code yX2_fault cX2_fault 1 (some .int) ∈ lw_tg := tg_of (mt_2 _ (List.mem_of_getElem? (i := 143) (by rfl))) (by rfl)
theorem tw_586 : Cond.methodLink RX2 127 yX1_findFault ∈ lw_tg := tg_of (mt_2 _ (List.mem_of_getElem? (i := 144) (by rfl))) (by rfl)
theorem tw_587 : Cond.instanceMethod yX1_findFault ∈ lw_tg := tg_of (mt_2 _ (List.mem_of_getElem? (i := 145) (by rfl))) (by rfl)
theorem tw_588 : Cond.selects RX1 yX1_findFault yX1_findFault ∈ lw_tg := tg_of (mt_2 _ (List.mem_of_getElem? (i := 146) (by rfl))) (by rfl)
theorem tw_589 : Cond.code yX1_findFault cX1_findFault 3 (some .int) ∈ lw_tg := tg_of (mt_2 _ (List.mem_of_getElem? (i := 147) (by rfl))) (by rfl)
theorem tw_590 : Cond.methodLink RX1 42 yX1_readFirstOrder ∈ lw_tg := tg_of (mt_2 _ (List.mem_of_getElem? (i := 148) (by rfl))) (by rfl)
theorem tw_591 : Cond.instanceMethod yX1_readFirstOrder ∈ lw_tg := tg_of (mt_2 _ (List.mem_of_getElem? (i := 149) (by rfl))) (by rfl)
theorem tw_592 : Cond.selects RX1 yX1_readFirstOrder yX1_readFirstOrder ∈ lw_tg := tg_of (mt_2 _ (List.mem_of_getElem? (i := 150) (by rfl))) (by rfl)
theorem tw_593 : Cond.code yX1_readFirstOrder cX1_readFirstOrder 1 (some .boolean) ∈ lw_tg := tg_of (mt_2 _ (List.mem_of_getElem? (i := 151) (by rfl))) (by rfl)
theorem tw_594 : Cond.methodLink RX1 49 yX1_readOrder ∈ lw_tg := tg_of (mt_2 _ (List.mem_of_getElem? (i := 152) (by rfl))) (by rfl)
theorem tw_595 : Cond.instanceMethod yX1_readOrder ∈ lw_tg := tg_of (mt_2 _ (List.mem_of_getElem? (i := 154) (by rfl))) (by rfl)
theorem tw_596 : Cond.selects RX1 yX1_readOrder yX1_readOrder ∈ lw_tg := tg_of (mp_2 _ (List.mem_of_getElem? (l := lw_privs_2) (i := 4) (by rfl))) (by rfl)
theorem tw_597 : Cond.code yX1_readOrder cX1_readOrder 1 (some .boolean) ∈ lw_tg := tg_of (mt_2 _ (List.mem_of_getElem? (i := 155) (by rfl))) (by rfl)
theorem tw_598 : Cond.methodLink RX1 56 yX1_codeHere ∈ lw_tg := tg_of (mt_2 _ (List.mem_of_getElem? (i := 156) (by rfl))) (by rfl)
theorem tw_599 : Cond.instanceMethod yX1_codeHere ∈ lw_tg := tg_of (mt_2 _ (List.mem_of_getElem? (i := 158) (by rfl))) (by rfl)
theorem tw_600 : Cond.selects RX1 yX1_codeHere yX1_codeHere ∈ lw_tg := tg_of (mp_2 _ (List.mem_of_getElem? (l := lw_privs_2) (i := 5) (by rfl))) (by rfl)
theorem tw_601 : Cond.code yX1_codeHere cX1_codeHere 1 (some .int) ∈ lw_tg := tg_of (mt_2 _ (List.mem_of_getElem? (i := 159) (by rfl))) (by rfl)
theorem tw_602 : Cond.methodLink RX1 52 yX1_skip ∈ lw_tg := tg_of (mt_2 _ (List.mem_of_getElem? (i := 160) (by rfl))) (by rfl)
theorem tw_603 : Cond.instanceMethod yX1_skip ∈ lw_tg := tg_of (mt_2 _ (List.mem_of_getElem? (i := 162) (by rfl))) (by rfl)
theorem tw_604 : Cond.selects RX1 yX1_skip yX1_skip ∈ lw_tg := tg_of (mp_2 _ (List.mem_of_getElem? (l := lw_privs_2) (i := 6) (by rfl))) (by rfl)
theorem tw_605 : Cond.code yX1_skip cX1_skip 2 (some .boolean) ∈ lw_tg := tg_of (mt_2 _ (List.mem_of_getElem? (i := 163) (by rfl))) (by rfl)
theorem tw_606 : Cond.methodLink RX1 60 yX1_readDigit ∈ lw_tg := tg_of (mt_2 _ (List.mem_of_getElem? (i := 164) (by rfl))) (by rfl)
theorem tw_607 : Cond.instanceMethod yX1_readDigit ∈ lw_tg := tg_of (mt_2 _ (List.mem_of_getElem? (i := 166) (by rfl))) (by rfl)
theorem tw_608 : Cond.selects RX1 yX1_readDigit yX1_readDigit ∈ lw_tg := tg_of (mp_2 _ (List.mem_of_getElem? (l := lw_privs_2) (i := 7) (by rfl))) (by rfl)
theorem tw_609 : Cond.code yX1_readDigit cX1_readDigit 1 (some .boolean) ∈ lw_tg := tg_of (mt_2 _ (List.mem_of_getElem? (i := 167) (by rfl))) (by rfl)
theorem tw_610 : Cond.methodLink RX1 69 yX1_isDigitHere ∈ lw_tg := tg_of (mt_2 _ (List.mem_of_getElem? (i := 168) (by rfl))) (by rfl)
theorem tw_611 : Cond.instanceMethod yX1_isDigitHere ∈ lw_tg := tg_of (mt_2 _ (List.mem_of_getElem? (i := 170) (by rfl))) (by rfl)
theorem tw_612 : Cond.selects RX1 yX1_isDigitHere yX1_isDigitHere ∈ lw_tg := tg_of (mp_2 _ (List.mem_of_getElem? (l := lw_privs_2) (i := 8) (by rfl))) (by rfl)
theorem tw_613 : Cond.code yX1_isDigitHere cX1_isDigitHere 1 (some .boolean) ∈ lw_tg := tg_of (mt_2 _ (List.mem_of_getElem? (i := 171) (by rfl))) (by rfl)
theorem tw_614 : Cond.methodLink RX1 63 yX1_readNumber ∈ lw_tg := tg_of (mt_2 _ (List.mem_of_getElem? (i := 172) (by rfl))) (by rfl)
theorem tw_615 : Cond.instanceMethod yX1_readNumber ∈ lw_tg := tg_of (mt_2 _ (List.mem_of_getElem? (i := 174) (by rfl))) (by rfl)
theorem tw_616 : Cond.selects RX1 yX1_readNumber yX1_readNumber ∈ lw_tg := tg_of (mp_2 _ (List.mem_of_getElem? (l := lw_privs_2) (i := 9) (by rfl))) (by rfl)
theorem tw_617 : Cond.code yX1_readNumber cX1_readNumber 2 (some .boolean) ∈ lw_tg := tg_of (mt_2 _ (List.mem_of_getElem? (i := 175) (by rfl))) (by rfl)
theorem tw_618 : Cond.methodLink RX1 66 yX1_readKind ∈ lw_tg := tg_of (mt_2 _ (List.mem_of_getElem? (i := 176) (by rfl))) (by rfl)
theorem tw_619 : Cond.instanceMethod yX1_readKind ∈ lw_tg := tg_of (mt_2 _ (List.mem_of_getElem? (i := 178) (by rfl))) (by rfl)
theorem tw_620 : Cond.selects RX1 yX1_readKind yX1_readKind ∈ lw_tg := tg_of (mp_2 _ (List.mem_of_getElem? (l := lw_privs_2) (i := 10) (by rfl))) (by rfl)
theorem tw_621 : Cond.code yX1_readKind cX1_readKind 1 (some .boolean) ∈ lw_tg := tg_of (mt_2 _ (List.mem_of_getElem? (i := 179) (by rfl))) (by rfl)
theorem tw_622 : Cond.methodLink RX1 46 yX1_readNextOrder ∈ lw_tg := tg_of (mt_2 _ (List.mem_of_getElem? (i := 180) (by rfl))) (by rfl)
theorem tw_623 : Cond.instanceMethod yX1_readNextOrder ∈ lw_tg := tg_of (mt_2 _ (List.mem_of_getElem? (i := 181) (by rfl))) (by rfl)
theorem tw_624 : Cond.selects RX1 yX1_readNextOrder yX1_readNextOrder ∈ lw_tg := tg_of (mt_2 _ (List.mem_of_getElem? (i := 182) (by rfl))) (by rfl)
theorem tw_625 : Cond.code yX1_readNextOrder cX1_readNextOrder 1 (some .boolean) ∈ lw_tg := tg_of (mt_2 _ (List.mem_of_getElem? (i := 183) (by rfl))) (by rfl)
theorem tw_626 : Cond.methodLink RL 91 yX3_fault ∈ lw_tg := tg_of (mt_4 _ (List.mem_of_getElem? (i := 25) (by rfl))) (by rfl)
theorem tw_627 : Cond.instanceMethod yX3_fault ∈ lw_tg := tg_of (mt_4 _ (List.mem_of_getElem? (i := 26) (by rfl))) (by rfl)
theorem tw_628 : Cond.selects RX3 yX3_fault yX3_fault ∈ lw_tg := tg_of (mt_4 _ (List.mem_of_getElem? (i := 27) (by rfl))) (by rfl)
theorem tw_629 : Cond.code yX3_fault cX3_fault 2 (some .int) ∈ lw_tg := tg_of (mt_4 _ (List.mem_of_getElem? (i := 28) (by rfl))) (by rfl)
theorem tw_630 : Cond.fieldLink RX3 191 "FuseBoardsModel" "spot" "I" ∈ lw_tg := tg_of (mt_3 _ (List.mem_of_getElem? (i := 4) (by rfl))) (by rfl)
theorem tw_631 : Cond.methodLink RX3 228 yX3_readsOrder ∈ lw_tg := tg_of (mt_4 _ (List.mem_of_getElem? (i := 29) (by rfl))) (by rfl)
theorem tw_632 : Cond.instanceMethod yX3_readsOrder ∈ lw_tg := tg_of (mt_4 _ (List.mem_of_getElem? (i := 31) (by rfl))) (by rfl)
theorem tw_633 : Cond.selects RX3 yX3_readsOrder yX3_readsOrder ∈ lw_tg := tg_of (mp_4 _ (List.mem_of_getElem? (l := lw_privs_4) (i := 10) (by rfl))) (by rfl)
theorem tw_634 : Cond.code yX3_readsOrder cX3_readsOrder 1 (some .boolean) ∈ lw_tg := tg_of (mt_4 _ (List.mem_of_getElem? (i := 32) (by rfl))) (by rfl)
theorem tw_635 : Cond.fieldLink RX3 219 "FuseBoardsModel" "letter" "I" ∈ lw_tg := tg_of (mt_3 _ (List.mem_of_getElem? (i := 5) (by rfl))) (by rfl)
theorem tw_636 : Cond.fieldLink RX3 212 "FuseBoardsModel" "two" "I" ∈ lw_tg := tg_of (mt_3 _ (List.mem_of_getElem? (i := 7) (by rfl))) (by rfl)
theorem tw_637 : Cond.methodLink RX3 222 yX3_readsFuse ∈ lw_tg := tg_of (mt_4 _ (List.mem_of_getElem? (i := 33) (by rfl))) (by rfl)
theorem tw_638 : Cond.instanceMethod yX3_readsFuse ∈ lw_tg := tg_of (mt_4 _ (List.mem_of_getElem? (i := 35) (by rfl))) (by rfl)
theorem tw_639 : Cond.selects RX3 yX3_readsFuse yX3_readsFuse ∈ lw_tg := tg_of (mp_4 _ (List.mem_of_getElem? (l := lw_privs_4) (i := 11) (by rfl))) (by rfl)
theorem tw_640 : Cond.code yX3_readsFuse cX3_readsFuse 1 (some .boolean) ∈ lw_tg := tg_of (mt_4 _ (List.mem_of_getElem? (i := 36) (by rfl))) (by rfl)
theorem tw_641 : Cond.fieldLink RX3 206 "FuseBoardsModel" "one" "I" ∈ lw_tg := tg_of (mt_3 _ (List.mem_of_getElem? (i := 6) (by rfl))) (by rfl)
theorem tw_642 : Cond.methodLink RX3 197 yX3_digit ∈ lw_tg := tg_of (mt_4 _ (List.mem_of_getElem? (i := 37) (by rfl))) (by rfl)
theorem tw_643 : Cond.instanceMethod yX3_digit ∈ lw_tg := tg_of (mt_4 _ (List.mem_of_getElem? (i := 39) (by rfl))) (by rfl)
theorem tw_644 : Cond.selects RX3 yX3_digit yX3_digit ∈ lw_tg := tg_of (mp_4 _ (List.mem_of_getElem? (l := lw_privs_4) (i := 12) (by rfl))) (by rfl)
theorem tw_645 : Cond.code yX3_digit cX3_digit 2 (some .int) ∈ lw_tg := tg_of (mt_4 _ (List.mem_of_getElem? (i := 40) (by rfl))) (by rfl)
theorem tw_646 : Cond.methodLink RX3 194 yX3_isHere ∈ lw_tg := tg_of (mt_4 _ (List.mem_of_getElem? (i := 41) (by rfl))) (by rfl)
theorem tw_647 : Cond.instanceMethod yX3_isHere ∈ lw_tg := tg_of (mt_4 _ (List.mem_of_getElem? (i := 43) (by rfl))) (by rfl)
theorem tw_648 : Cond.selects RX3 yX3_isHere yX3_isHere ∈ lw_tg := tg_of (mp_4 _ (List.mem_of_getElem? (l := lw_privs_4) (i := 13) (by rfl))) (by rfl)
theorem tw_649 : Cond.code yX3_isHere cX3_isHere 3 (some .boolean) ∈ lw_tg := tg_of (mt_4 _ (List.mem_of_getElem? (i := 44) (by rfl))) (by rfl)
theorem tw_650 : Cond.methodLink RX3 200 yX3_takes ∈ lw_tg := tg_of (mt_4 _ (List.mem_of_getElem? (i := 45) (by rfl))) (by rfl)
theorem tw_651 : Cond.instanceMethod yX3_takes ∈ lw_tg := tg_of (mt_4 _ (List.mem_of_getElem? (i := 47) (by rfl))) (by rfl)
theorem tw_652 : Cond.selects RX3 yX3_takes yX3_takes ∈ lw_tg := tg_of (mp_4 _ (List.mem_of_getElem? (l := lw_privs_4) (i := 14) (by rfl))) (by rfl)
theorem tw_653 : Cond.code yX3_takes cX3_takes 3 (some .boolean) ∈ lw_tg := tg_of (mt_4 _ (List.mem_of_getElem? (i := 48) (by rfl))) (by rfl)
theorem tw_654 : Cond.methodLink RX3 209 yX3_number ∈ lw_tg := tg_of (mt_4 _ (List.mem_of_getElem? (i := 49) (by rfl))) (by rfl)
theorem tw_655 : Cond.instanceMethod yX3_number ∈ lw_tg := tg_of (mt_4 _ (List.mem_of_getElem? (i := 51) (by rfl))) (by rfl)
theorem tw_656 : Cond.selects RX3 yX3_number yX3_number ∈ lw_tg := tg_of (mp_4 _ (List.mem_of_getElem? (l := lw_privs_4) (i := 15) (by rfl))) (by rfl)
theorem tw_657 : Cond.code yX3_number cX3_number 2 (some .int) ∈ lw_tg := tg_of (mt_4 _ (List.mem_of_getElem? (i := 52) (by rfl))) (by rfl)
theorem tw_658 : Cond.methodLink RX3 215 yX3_readsKind ∈ lw_tg := tg_of (mt_4 _ (List.mem_of_getElem? (i := 53) (by rfl))) (by rfl)
theorem tw_659 : Cond.instanceMethod yX3_readsKind ∈ lw_tg := tg_of (mt_4 _ (List.mem_of_getElem? (i := 55) (by rfl))) (by rfl)
theorem tw_660 : Cond.selects RX3 yX3_readsKind yX3_readsKind ∈ lw_tg := tg_of (mp_5 _ (List.mem_of_getElem? (l := lw_privs_5) (i := 0) (by rfl))) (by rfl)
theorem tw_661 : Cond.code yX3_readsKind cX3_readsKind 1 (some .boolean) ∈ lw_tg := tg_of (mt_4 _ (List.mem_of_getElem? (i := 56) (by rfl))) (by rfl)
theorem tw_662 : Cond.fieldLink RX3 203 "FuseBoardsModel" "three" "I" ∈ lw_tg := tg_of (mt_3 _ (List.mem_of_getElem? (i := 8) (by rfl))) (by rfl)
theorem tw_663 : Cond.methodLink RX3 225 yX3_readsLoad ∈ lw_tg := tg_of (mt_4 _ (List.mem_of_getElem? (i := 57) (by rfl))) (by rfl)
theorem tw_664 : Cond.instanceMethod yX3_readsLoad ∈ lw_tg := tg_of (mt_4 _ (List.mem_of_getElem? (i := 59) (by rfl))) (by rfl)
theorem tw_665 : Cond.selects RX3 yX3_readsLoad yX3_readsLoad ∈ lw_tg := tg_of (mp_5 _ (List.mem_of_getElem? (l := lw_privs_5) (i := 1) (by rfl))) (by rfl)
theorem tw_666 : Cond.code yX3_readsLoad cX3_readsLoad 1 (some .boolean) ∈ lw_tg := tg_of (mt_4 _ (List.mem_of_getElem? (i := 60) (by rfl))) (by rfl)
theorem tw_667 : Cond.methodLink RL 92 yX2_carryOut ∈ lw_tg := tg_of (mt_2 _ (List.mem_of_getElem? (i := 184) (by rfl))) (by rfl)
theorem tw_668 : Cond.instanceMethod yX2_carryOut ∈ lw_tg := tg_of (mt_2 _ (List.mem_of_getElem? (i := 185) (by rfl))) (by rfl)
theorem tw_669 : Cond.selects RX2 yX2_carryOut yX2_carryOut ∈ lw_tg := tg_of (mt_2 _ (List.mem_of_getElem? (i := 186) (by rfl))) (by rfl)
theorem tw_670 : Cond.code yX2_carryOut cX2_carryOut 3 (some .int) ∈ lw_tg := tg_of (mt_2 _ (List.mem_of_getElem? (i := 187) (by rfl))) (by rfl)
theorem tw_671 : Cond.methodLink RX2 130 yX1_readFirstOrder ∈ lw_tg := tg_of (mt_2 _ (List.mem_of_getElem? (i := 188) (by rfl))) (by rfl)
theorem tw_672 : Cond.methodLink RX2 134 yX2_obeyOrder ∈ lw_tg := tg_of (mt_2 _ (List.mem_of_getElem? (i := 189) (by rfl))) (by rfl)
theorem tw_673 : Cond.instanceMethod yX2_obeyOrder ∈ lw_tg := tg_of (mt_2 _ (List.mem_of_getElem? (i := 191) (by rfl))) (by rfl)
theorem tw_674 : Cond.selects RX2 yX2_obeyOrder yX2_obeyOrder ∈ lw_tg := tg_of (mp_2 _ (List.mem_of_getElem? (l := lw_privs_2) (i := 11) (by rfl))) (by rfl)
theorem tw_675 : Cond.code yX2_obeyOrder cX2_obeyOrder 1 (some .int) ∈ lw_tg := tg_of (mt_2 _ (List.mem_of_getElem? (i := 192) (by rfl))) (by rfl)
theorem tw_676 : Cond.methodLink RX2 165 yX1_letter ∈ lw_tg := tg_of (mt_2 _ (List.mem_of_getElem? (i := 193) (by rfl))) (by rfl)
theorem tw_677 : Cond.instanceMethod yX1_letter ∈ lw_tg := tg_of (mt_2 _ (List.mem_of_getElem? (i := 194) (by rfl))) (by rfl)
theorem tw_678 : Cond.selects RX1 yX1_letter yX1_letter ∈ lw_tg := tg_of (mt_2 _ (List.mem_of_getElem? (i := 195) (by rfl))) (by rfl)
theorem tw_679 : Cond.code yX1_letter cX1_letter 1 (some .int) ∈ lw_tg := tg_of (mt_2 _ (List.mem_of_getElem? (i := 196) (by rfl))) (by rfl)
theorem tw_680 : Cond.methodLink RX2 168 yX1_digit ∈ lw_tg := tg_of (mt_2 _ (List.mem_of_getElem? (i := 197) (by rfl))) (by rfl)
theorem tw_681 : Cond.instanceMethod yX1_digit ∈ lw_tg := tg_of (mt_2 _ (List.mem_of_getElem? (i := 198) (by rfl))) (by rfl)
theorem tw_682 : Cond.selects RX1 yX1_digit yX1_digit ∈ lw_tg := tg_of (mt_2 _ (List.mem_of_getElem? (i := 199) (by rfl))) (by rfl)
theorem tw_683 : Cond.code yX1_digit cX1_digit 1 (some .int) ∈ lw_tg := tg_of (mt_2 _ (List.mem_of_getElem? (i := 200) (by rfl))) (by rfl)
theorem tw_684 : Cond.methodLink RX2 171 yX1_number ∈ lw_tg := tg_of (mt_2 _ (List.mem_of_getElem? (i := 201) (by rfl))) (by rfl)
theorem tw_685 : Cond.instanceMethod yX1_number ∈ lw_tg := tg_of (mt_2 _ (List.mem_of_getElem? (i := 202) (by rfl))) (by rfl)
theorem tw_686 : Cond.selects RX1 yX1_number yX1_number ∈ lw_tg := tg_of (mt_2 _ (List.mem_of_getElem? (i := 203) (by rfl))) (by rfl)
theorem tw_687 : Cond.code yX1_number cX1_number 1 (some .int) ∈ lw_tg := tg_of (mt_2 _ (List.mem_of_getElem? (i := 204) (by rfl))) (by rfl)
theorem tw_688 : Cond.methodLink RX2 174 yX1_kind ∈ lw_tg := tg_of (mt_2 _ (List.mem_of_getElem? (i := 205) (by rfl))) (by rfl)
theorem tw_689 : Cond.instanceMethod yX1_kind ∈ lw_tg := tg_of (mt_2 _ (List.mem_of_getElem? (i := 206) (by rfl))) (by rfl)
theorem tw_690 : Cond.selects RX1 yX1_kind yX1_kind ∈ lw_tg := tg_of (mt_2 _ (List.mem_of_getElem? (i := 207) (by rfl))) (by rfl)
theorem tw_691 : Cond.code yX1_kind cX1_kind 1 (some .int) ∈ lw_tg := tg_of (mt_2 _ (List.mem_of_getElem? (i := 208) (by rfl))) (by rfl)
theorem tw_692 : Cond.methodLink RX2 137 yX1_readNextOrder ∈ lw_tg := tg_of (mt_2 _ (List.mem_of_getElem? (i := 209) (by rfl))) (by rfl)
theorem tw_693 : Cond.methodLink RL 95 yX3_carryOut ∈ lw_tg := tg_of (mt_4 _ (List.mem_of_getElem? (i := 61) (by rfl))) (by rfl)
theorem tw_694 : Cond.instanceMethod yX3_carryOut ∈ lw_tg := tg_of (mt_4 _ (List.mem_of_getElem? (i := 62) (by rfl))) (by rfl)
theorem tw_695 : Cond.selects RX3 yX3_carryOut yX3_carryOut ∈ lw_tg := tg_of (mt_4 _ (List.mem_of_getElem? (i := 63) (by rfl))) (by rfl)
theorem tw_696 : Cond.code yX3_carryOut cX3_carryOut 5 (some .int) ∈ lw_tg := tg_of (mt_4 _ (List.mem_of_getElem? (i := 64) (by rfl))) (by rfl)
theorem tw_697 : Cond.methodLink RX3 231 yX3_fault ∈ lw_tg := tg_of (mt_4 _ (List.mem_of_getElem? (i := 65) (by rfl))) (by rfl)
theorem tw_698 : Cond.methodLink RX3 234 yX3_orderError ∈ lw_tg := tg_of (mt_4 _ (List.mem_of_getElem? (i := 66) (by rfl))) (by rfl)
theorem tw_699 : Cond.instanceMethod yX3_orderError ∈ lw_tg := tg_of (mt_4 _ (List.mem_of_getElem? (i := 68) (by rfl))) (by rfl)
theorem tw_700 : Cond.selects RX3 yX3_orderError yX3_orderError ∈ lw_tg := tg_of (mp_5 _ (List.mem_of_getElem? (l := lw_privs_5) (i := 2) (by rfl))) (by rfl)
theorem tw_701 : Cond.code yX3_orderError cX3_orderError 1 (some .int) ∈ lw_tg := tg_of (mt_4 _ (List.mem_of_getElem? (i := 69) (by rfl))) (by rfl)
theorem tw_702 : Cond.methodLink RX3 237 yX3_does ∈ lw_tg := tg_of (mt_4 _ (List.mem_of_getElem? (i := 70) (by rfl))) (by rfl)
theorem tw_703 : Cond.instanceMethod yX3_does ∈ lw_tg := tg_of (mt_4 _ (List.mem_of_getElem? (i := 72) (by rfl))) (by rfl)
theorem tw_704 : Cond.selects RX3 yX3_does yX3_does ∈ lw_tg := tg_of (mp_5 _ (List.mem_of_getElem? (l := lw_privs_5) (i := 3) (by rfl))) (by rfl)
theorem tw_705 : Cond.code yX3_does cX3_does 1 (some .int) ∈ lw_tg := tg_of (mt_4 _ (List.mem_of_getElem? (i := 73) (by rfl))) (by rfl)
theorem tw_706 : Cond.methodLink RL 96 yX2_undo ∈ lw_tg := tg_of (mt_2 _ (List.mem_of_getElem? (i := 210) (by rfl))) (by rfl)
theorem tw_707 : Cond.instanceMethod yX2_undo ∈ lw_tg := tg_of (mt_2 _ (List.mem_of_getElem? (i := 211) (by rfl))) (by rfl)
theorem tw_708 : Cond.selects RX2 yX2_undo yX2_undo ∈ lw_tg := tg_of (mt_2 _ (List.mem_of_getElem? (i := 212) (by rfl))) (by rfl)
theorem tw_709 : Cond.code yX2_undo cX2_undo 1 (some .int) ∈ lw_tg := tg_of (mt_2 _ (List.mem_of_getElem? (i := 213) (by rfl))) (by rfl)
theorem tw_710 : Cond.methodLink RX2 140 yX0_readFrom ∈ lw_tg := tg_of (mt_2 _ (List.mem_of_getElem? (i := 214) (by rfl))) (by rfl)
theorem tw_711 : Cond.instanceMethod yX0_readFrom ∈ lw_tg := tg_of (mt_2 _ (List.mem_of_getElem? (i := 215) (by rfl))) (by rfl)
theorem tw_712 : Cond.selects RX0 yX0_readFrom yX0_readFrom ∈ lw_tg := tg_of (mt_2 _ (List.mem_of_getElem? (i := 216) (by rfl))) (by rfl)
theorem tw_713 : Cond.code yX0_readFrom cX0_readFrom 2 none ∈ lw_tg := tg_of (mt_2 _ (List.mem_of_getElem? (i := 217) (by rfl))) (by rfl)
theorem tw_714 : Cond.methodLink RL 99 yX3_undo ∈ lw_tg := tg_of (mt_4 _ (List.mem_of_getElem? (i := 74) (by rfl))) (by rfl)
theorem tw_715 : Cond.instanceMethod yX3_undo ∈ lw_tg := tg_of (mt_4 _ (List.mem_of_getElem? (i := 75) (by rfl))) (by rfl)
theorem tw_716 : Cond.selects RX3 yX3_undo yX3_undo ∈ lw_tg := tg_of (mt_4 _ (List.mem_of_getElem? (i := 76) (by rfl))) (by rfl)
theorem tw_717 : Cond.code yX3_undo cX3_undo 1 (some .int) ∈ lw_tg := tg_of (mt_4 _ (List.mem_of_getElem? (i := 77) (by rfl))) (by rfl)
theorem tw_718 : Cond.methodLink RL 100 yX2_save ∈ lw_tg := tg_of (mt_2 _ (List.mem_of_getElem? (i := 218) (by rfl))) (by rfl)
theorem tw_719 : Cond.instanceMethod yX2_save ∈ lw_tg := tg_of (mt_2 _ (List.mem_of_getElem? (i := 219) (by rfl))) (by rfl)
theorem tw_720 : Cond.selects RX2 yX2_save yX2_save ∈ lw_tg := tg_of (mt_2 _ (List.mem_of_getElem? (i := 220) (by rfl))) (by rfl)
theorem tw_721 : Cond.code yX2_save cX2_save 2 (some .int) ∈ lw_tg := tg_of (mt_2 _ (List.mem_of_getElem? (i := 221) (by rfl))) (by rfl)
theorem tw_722 : Cond.methodLink RX2 144 yX2_isSlot ∈ lw_tg := tg_of (mt_2 _ (List.mem_of_getElem? (i := 222) (by rfl))) (by rfl)
theorem tw_723 : Cond.static yX2_isSlot ∈ lw_tg := tg_of (mt_2 _ (List.mem_of_getElem? (i := 223) (by rfl))) (by rfl)
theorem tw_724 : Cond.code yX2_isSlot cX2_isSlot 1 (some .boolean) ∈ lw_tg := tg_of (mt_2 _ (List.mem_of_getElem? (i := 224) (by rfl))) (by rfl)
theorem tw_725 : Cond.methodLink RL 103 yX3_save ∈ lw_tg := tg_of (mt_4 _ (List.mem_of_getElem? (i := 78) (by rfl))) (by rfl)
theorem tw_726 : Cond.instanceMethod yX3_save ∈ lw_tg := tg_of (mt_4 _ (List.mem_of_getElem? (i := 79) (by rfl))) (by rfl)
theorem tw_727 : Cond.selects RX3 yX3_save yX3_save ∈ lw_tg := tg_of (mt_4 _ (List.mem_of_getElem? (i := 80) (by rfl))) (by rfl)
theorem tw_728 : Cond.code yX3_save cX3_save 2 (some .int) ∈ lw_tg := tg_of (mt_4 _ (List.mem_of_getElem? (i := 81) (by rfl))) (by rfl)
theorem tw_729 : Cond.methodLink RX3 240 yX3_isSlot ∈ lw_tg := tg_of (mt_4 _ (List.mem_of_getElem? (i := 82) (by rfl))) (by rfl)
theorem tw_730 : Cond.static yX3_isSlot ∈ lw_tg := tg_of (mt_4 _ (List.mem_of_getElem? (i := 83) (by rfl))) (by rfl)
theorem tw_731 : Cond.code yX3_isSlot cX3_isSlot 1 (some .boolean) ∈ lw_tg := tg_of (mt_4 _ (List.mem_of_getElem? (i := 84) (by rfl))) (by rfl)
theorem tw_732 : Cond.methodLink RL 104 yX2_restore ∈ lw_tg := tg_of (mt_2 _ (List.mem_of_getElem? (i := 225) (by rfl))) (by rfl)
theorem tw_733 : Cond.instanceMethod yX2_restore ∈ lw_tg := tg_of (mt_2 _ (List.mem_of_getElem? (i := 226) (by rfl))) (by rfl)
theorem tw_734 : Cond.selects RX2 yX2_restore yX2_restore ∈ lw_tg := tg_of (mt_2 _ (List.mem_of_getElem? (i := 227) (by rfl))) (by rfl)
theorem tw_735 : Cond.code yX2_restore cX2_restore 2 (some .int) ∈ lw_tg := tg_of (mt_2 _ (List.mem_of_getElem? (i := 228) (by rfl))) (by rfl)
theorem tw_736 : Cond.methodLink RL 107 yX3_restore ∈ lw_tg := tg_of (mt_4 _ (List.mem_of_getElem? (i := 85) (by rfl))) (by rfl)
theorem tw_737 : Cond.instanceMethod yX3_restore ∈ lw_tg := tg_of (mt_4 _ (List.mem_of_getElem? (i := 86) (by rfl))) (by rfl)
theorem tw_738 : Cond.selects RX3 yX3_restore yX3_restore ∈ lw_tg := tg_of (mt_4 _ (List.mem_of_getElem? (i := 87) (by rfl))) (by rfl)
theorem tw_739 : Cond.code yX3_restore cX3_restore 2 (some .int) ∈ lw_tg := tg_of (mt_4 _ (List.mem_of_getElem? (i := 88) (by rfl))) (by rfl)
end
section
theorem dX0_init_0 : decode cX0_init 0 = .ok (.aload_n 0, 1) := by decide +kernel
theorem dX0_init_1 : decode cX0_init 1 = .ok (.invokespecial 5, 3) := by decide +kernel
theorem dX0_init_4 : decode cX0_init 4 = .ok (.aload_n 0, 1) := by decide +kernel
theorem dX0_init_5 : decode cX0_init 5 = .ok (.bipush 125, 2) := by decide +kernel
theorem dX0_init_7 : decode cX0_init 7 = .ok (.newarray .int, 2) := by decide +kernel
theorem dX0_init_9 : decode cX0_init 9 = .ok (.putfield 11, 3) := by decide +kernel
theorem dX0_init_12 : decode cX0_init 12 = .ok (.aload_n 0, 1) := by decide +kernel
theorem dX0_init_13 : decode cX0_init 13 = .ok (.bipush 10, 2) := by decide +kernel
theorem dX0_init_15 : decode cX0_init 15 = .ok (.newarray .int, 2) := by decide +kernel
theorem dX0_init_17 : decode cX0_init 17 = .ok (.putfield 15, 3) := by decide +kernel
theorem dX0_init_20 : decode cX0_init 20 = .ok (.aload_n 0, 1) := by decide +kernel
theorem dX0_init_21 : decode cX0_init 21 = .ok (.getfield 11, 3) := by decide +kernel
theorem dX0_init_24 : decode cX0_init 24 = .ok (.iconst 0, 1) := by decide +kernel
theorem dX0_init_25 : decode cX0_init 25 = .ok (.iconst 1, 1) := by decide +kernel
theorem dX0_init_26 : decode cX0_init 26 = .ok (.iastore, 1) := by decide +kernel
theorem dX0_init_27 : decode cX0_init 27 = .ok (.aload_n 0, 1) := by decide +kernel
theorem dX0_init_28 : decode cX0_init 28 = .ok (.getfield 11, 3) := by decide +kernel
theorem dX0_init_31 : decode cX0_init 31 = .ok (.iconst 1, 1) := by decide +kernel
theorem dX0_init_32 : decode cX0_init 32 = .ok (.iconst 2, 1) := by decide +kernel
theorem dX0_init_33 : decode cX0_init 33 = .ok (.iastore, 1) := by decide +kernel
theorem dX0_init_34 : decode cX0_init 34 = .ok (.aload_n 0, 1) := by decide +kernel
theorem dX0_init_35 : decode cX0_init 35 = .ok (.getfield 11, 3) := by decide +kernel
theorem dX0_init_38 : decode cX0_init 38 = .ok (.iconst 2, 1) := by decide +kernel
theorem dX0_init_39 : decode cX0_init 39 = .ok (.bipush 10, 2) := by decide +kernel
theorem dX0_init_41 : decode cX0_init 41 = .ok (.iastore, 1) := by decide +kernel
theorem dX0_init_42 : decode cX0_init 42 = .ok (.return_, 1) := by decide +kernel
theorem dX0_copyFrom_0 : decode cX0_copyFrom 0 = .ok (.aload_n 1, 1) := by decide +kernel
theorem dX0_copyFrom_1 : decode cX0_copyFrom 1 = .ok (.getfield 11, 3) := by decide +kernel
theorem dX0_copyFrom_4 : decode cX0_copyFrom 4 = .ok (.iconst 0, 1) := by decide +kernel
theorem dX0_copyFrom_5 : decode cX0_copyFrom 5 = .ok (.aload_n 0, 1) := by decide +kernel
theorem dX0_copyFrom_6 : decode cX0_copyFrom 6 = .ok (.getfield 11, 3) := by decide +kernel
theorem dX0_copyFrom_9 : decode cX0_copyFrom 9 = .ok (.iconst 0, 1) := by decide +kernel
theorem dX0_copyFrom_10 : decode cX0_copyFrom 10 = .ok (.bipush 125, 2) := by decide +kernel
theorem dX0_copyFrom_12 : decode cX0_copyFrom 12 = .ok (.invokestatic 18, 3) := by decide +kernel
theorem dX0_copyFrom_15 : decode cX0_copyFrom 15 = .ok (.return_, 1) := by decide +kernel
theorem dX0_readFrom_0 : decode cX0_readFrom 0 = .ok (.aload_n 1, 1) := by decide +kernel
theorem dX0_readFrom_1 : decode cX0_readFrom 1 = .ok (.arraylength, 1) := by decide +kernel
theorem dX0_readFrom_2 : decode cX0_readFrom 2 = .ok (.bipush 125, 2) := by decide +kernel
theorem dX0_readFrom_4 : decode cX0_readFrom 4 = .ok (.if_icmp .lt 15, 3) := by decide +kernel
theorem dX0_readFrom_7 : decode cX0_readFrom 7 = .ok (.aload_n 1, 1) := by decide +kernel
theorem dX0_readFrom_8 : decode cX0_readFrom 8 = .ok (.iconst 0, 1) := by decide +kernel
theorem dX0_readFrom_9 : decode cX0_readFrom 9 = .ok (.aload_n 0, 1) := by decide +kernel
theorem dX0_readFrom_10 : decode cX0_readFrom 10 = .ok (.getfield 11, 3) := by decide +kernel
theorem dX0_readFrom_13 : decode cX0_readFrom 13 = .ok (.iconst 0, 1) := by decide +kernel
theorem dX0_readFrom_14 : decode cX0_readFrom 14 = .ok (.bipush 125, 2) := by decide +kernel
theorem dX0_readFrom_16 : decode cX0_readFrom 16 = .ok (.invokestatic 18, 3) := by decide +kernel
theorem dX0_readFrom_19 : decode cX0_readFrom 19 = .ok (.return_, 1) := by decide +kernel
theorem dX0_writeTo_0 : decode cX0_writeTo 0 = .ok (.aload_n 1, 1) := by decide +kernel
theorem dX0_writeTo_1 : decode cX0_writeTo 1 = .ok (.arraylength, 1) := by decide +kernel
theorem dX0_writeTo_2 : decode cX0_writeTo 2 = .ok (.bipush 125, 2) := by decide +kernel
theorem dX0_writeTo_4 : decode cX0_writeTo 4 = .ok (.if_icmp .lt 15, 3) := by decide +kernel
theorem dX0_writeTo_7 : decode cX0_writeTo 7 = .ok (.aload_n 0, 1) := by decide +kernel
theorem dX0_writeTo_8 : decode cX0_writeTo 8 = .ok (.getfield 11, 3) := by decide +kernel
theorem dX0_writeTo_11 : decode cX0_writeTo 11 = .ok (.iconst 0, 1) := by decide +kernel
theorem dX0_writeTo_12 : decode cX0_writeTo 12 = .ok (.aload_n 1, 1) := by decide +kernel
theorem dX0_writeTo_13 : decode cX0_writeTo 13 = .ok (.iconst 0, 1) := by decide +kernel
theorem dX0_writeTo_14 : decode cX0_writeTo 14 = .ok (.bipush 125, 2) := by decide +kernel
theorem dX0_writeTo_16 : decode cX0_writeTo 16 = .ok (.invokestatic 18, 3) := by decide +kernel
theorem dX0_writeTo_19 : decode cX0_writeTo 19 = .ok (.return_, 1) := by decide +kernel
theorem dX0_boards_0 : decode cX0_boards 0 = .ok (.aload_n 0, 1) := by decide +kernel
theorem dX0_boards_1 : decode cX0_boards 1 = .ok (.getfield 11, 3) := by decide +kernel
theorem dX0_boards_4 : decode cX0_boards 4 = .ok (.iconst 4, 1) := by decide +kernel
theorem dX0_boards_5 : decode cX0_boards 5 = .ok (.iaload, 1) := by decide +kernel
theorem dX0_boards_6 : decode cX0_boards 6 = .ok (.ireturn, 1) := by decide +kernel
theorem dX0_isBoard_0 : decode cX0_isBoard 0 = .ok (.iload_n 1, 1) := by decide +kernel
theorem dX0_isBoard_1 : decode cX0_isBoard 1 = .ok (.ifCond .lt 17, 3) := by decide +kernel
theorem dX0_isBoard_4 : decode cX0_isBoard 4 = .ok (.iload_n 1, 1) := by decide +kernel
theorem dX0_isBoard_5 : decode cX0_isBoard 5 = .ok (.aload_n 0, 1) := by decide +kernel
theorem dX0_isBoard_6 : decode cX0_isBoard 6 = .ok (.getfield 11, 3) := by decide +kernel
theorem dX0_isBoard_9 : decode cX0_isBoard 9 = .ok (.iconst 4, 1) := by decide +kernel
theorem dX0_isBoard_10 : decode cX0_isBoard 10 = .ok (.iaload, 1) := by decide +kernel
theorem dX0_isBoard_11 : decode cX0_isBoard 11 = .ok (.if_icmp .ge 7, 3) := by decide +kernel
theorem dX0_isBoard_14 : decode cX0_isBoard 14 = .ok (.iconst 1, 1) := by decide +kernel
theorem dX0_isBoard_15 : decode cX0_isBoard 15 = .ok (.goto 4, 3) := by decide +kernel
theorem dX0_isBoard_18 : decode cX0_isBoard 18 = .ok (.iconst 0, 1) := by decide +kernel
theorem dX0_isBoard_19 : decode cX0_isBoard 19 = .ok (.ireturn, 1) := by decide +kernel
theorem dX0_isLoad_0 : decode cX0_isLoad 0 = .ok (.iload_n 1, 1) := by decide +kernel
theorem dX0_isLoad_1 : decode cX0_isLoad 1 = .ok (.ifCond .lt 17, 3) := by decide +kernel
theorem dX0_isLoad_4 : decode cX0_isLoad 4 = .ok (.iload_n 1, 1) := by decide +kernel
theorem dX0_isLoad_5 : decode cX0_isLoad 5 = .ok (.aload_n 0, 1) := by decide +kernel
theorem dX0_isLoad_6 : decode cX0_isLoad 6 = .ok (.getfield 11, 3) := by decide +kernel
theorem dX0_isLoad_9 : decode cX0_isLoad 9 = .ok (.iconst 5, 1) := by decide +kernel
theorem dX0_isLoad_10 : decode cX0_isLoad 10 = .ok (.iaload, 1) := by decide +kernel
theorem dX0_isLoad_11 : decode cX0_isLoad 11 = .ok (.if_icmp .ge 7, 3) := by decide +kernel
theorem dX0_isLoad_14 : decode cX0_isLoad 14 = .ok (.iconst 1, 1) := by decide +kernel
theorem dX0_isLoad_15 : decode cX0_isLoad 15 = .ok (.goto 4, 3) := by decide +kernel
theorem dX0_isLoad_18 : decode cX0_isLoad 18 = .ok (.iconst 0, 1) := by decide +kernel
theorem dX0_isLoad_19 : decode cX0_isLoad 19 = .ok (.ireturn, 1) := by decide +kernel
theorem dX0_rating_0 : decode cX0_rating 0 = .ok (.aload_n 0, 1) := by decide +kernel
theorem dX0_rating_1 : decode cX0_rating 1 = .ok (.iload_n 1, 1) := by decide +kernel
theorem dX0_rating_2 : decode cX0_rating 2 = .ok (.invokevirtual 24, 3) := by decide +kernel
theorem dX0_rating_5 : decode cX0_rating 5 = .ok (.ifCond .eq 15, 3) := by decide +kernel
theorem dX0_rating_8 : decode cX0_rating 8 = .ok (.aload_n 0, 1) := by decide +kernel
theorem dX0_rating_9 : decode cX0_rating 9 = .ok (.getfield 11, 3) := by decide +kernel
theorem dX0_rating_12 : decode cX0_rating 12 = .ok (.bipush 27, 2) := by decide +kernel
theorem dX0_rating_14 : decode cX0_rating 14 = .ok (.iload_n 1, 1) := by decide +kernel
theorem dX0_rating_15 : decode cX0_rating 15 = .ok (.iadd, 1) := by decide +kernel
theorem dX0_rating_16 : decode cX0_rating 16 = .ok (.iaload, 1) := by decide +kernel
theorem dX0_rating_17 : decode cX0_rating 17 = .ok (.goto 4, 3) := by decide +kernel
theorem dX0_rating_20 : decode cX0_rating 20 = .ok (.iconst 0, 1) := by decide +kernel
theorem dX0_rating_21 : decode cX0_rating 21 = .ok (.ireturn, 1) := by decide +kernel
theorem dX0_changeSetting_0 : decode cX0_changeSetting 0 = .ok (.iload_n 1, 1) := by decide +kernel
theorem dX0_changeSetting_1 : decode cX0_changeSetting 1 = .ok (.ifCond .lt 8, 3) := by decide +kernel
theorem dX0_changeSetting_4 : decode cX0_changeSetting 4 = .ok (.iload_n 1, 1) := by decide +kernel
theorem dX0_changeSetting_5 : decode cX0_changeSetting 5 = .ok (.iconst 2, 1) := by decide +kernel
theorem dX0_changeSetting_6 : decode cX0_changeSetting 6 = .ok (.if_icmp .le 6, 3) := by decide +kernel
theorem dX0_changeSetting_9 : decode cX0_changeSetting 9 = .ok (.bipush (-2), 2) := by decide +kernel
theorem dX0_changeSetting_11 : decode cX0_changeSetting 11 = .ok (.ireturn, 1) := by decide +kernel
theorem dX0_changeSetting_12 : decode cX0_changeSetting 12 = .ok (.iload_n 2, 1) := by decide +kernel
theorem dX0_changeSetting_13 : decode cX0_changeSetting 13 = .ok (.getstatic 28, 3) := by decide +kernel
theorem dX0_changeSetting_16 : decode cX0_changeSetting 16 = .ok (.iload_n 1, 1) := by decide +kernel
theorem dX0_changeSetting_17 : decode cX0_changeSetting 17 = .ok (.iaload, 1) := by decide +kernel
theorem dX0_changeSetting_18 : decode cX0_changeSetting 18 = .ok (.if_icmp .lt 12, 3) := by decide +kernel
theorem dX0_changeSetting_21 : decode cX0_changeSetting 21 = .ok (.iload_n 2, 1) := by decide +kernel
theorem dX0_changeSetting_22 : decode cX0_changeSetting 22 = .ok (.getstatic 31, 3) := by decide +kernel
theorem dX0_changeSetting_25 : decode cX0_changeSetting 25 = .ok (.iload_n 1, 1) := by decide +kernel
theorem dX0_changeSetting_26 : decode cX0_changeSetting 26 = .ok (.iaload, 1) := by decide +kernel
theorem dX0_changeSetting_27 : decode cX0_changeSetting 27 = .ok (.if_icmp .le 6, 3) := by decide +kernel
theorem dX0_changeSetting_30 : decode cX0_changeSetting 30 = .ok (.bipush (-2), 2) := by decide +kernel
theorem dX0_changeSetting_32 : decode cX0_changeSetting 32 = .ok (.ireturn, 1) := by decide +kernel
theorem dX0_changeSetting_33 : decode cX0_changeSetting 33 = .ok (.aload_n 0, 1) := by decide +kernel
theorem dX0_changeSetting_34 : decode cX0_changeSetting 34 = .ok (.getfield 11, 3) := by decide +kernel
theorem dX0_changeSetting_37 : decode cX0_changeSetting 37 = .ok (.iload_n 1, 1) := by decide +kernel
theorem dX0_changeSetting_38 : decode cX0_changeSetting 38 = .ok (.iaload, 1) := by decide +kernel
theorem dX0_changeSetting_39 : decode cX0_changeSetting 39 = .ok (.istore_n 3, 1) := by decide +kernel
theorem dX0_changeSetting_40 : decode cX0_changeSetting 40 = .ok (.aload_n 0, 1) := by decide +kernel
theorem dX0_changeSetting_41 : decode cX0_changeSetting 41 = .ok (.getfield 11, 3) := by decide +kernel
theorem dX0_changeSetting_44 : decode cX0_changeSetting 44 = .ok (.iload_n 1, 1) := by decide +kernel
theorem dX0_changeSetting_45 : decode cX0_changeSetting 45 = .ok (.iload_n 2, 1) := by decide +kernel
theorem dX0_changeSetting_46 : decode cX0_changeSetting 46 = .ok (.iastore, 1) := by decide +kernel
theorem dX0_changeSetting_47 : decode cX0_changeSetting 47 = .ok (.iload_n 3, 1) := by decide +kernel
theorem dX0_changeSetting_48 : decode cX0_changeSetting 48 = .ok (.ireturn, 1) := by decide +kernel
theorem dX0_addBoard_0 : decode cX0_addBoard 0 = .ok (.aload_n 0, 1) := by decide +kernel
theorem dX0_addBoard_1 : decode cX0_addBoard 1 = .ok (.getfield 11, 3) := by decide +kernel
theorem dX0_addBoard_4 : decode cX0_addBoard 4 = .ok (.iconst 4, 1) := by decide +kernel
theorem dX0_addBoard_5 : decode cX0_addBoard 5 = .ok (.iaload, 1) := by decide +kernel
theorem dX0_addBoard_6 : decode cX0_addBoard 6 = .ok (.istore 4, 2) := by decide +kernel
theorem dX0_addBoard_8 : decode cX0_addBoard 8 = .ok (.iload 4, 2) := by decide +kernel
theorem dX0_addBoard_10 : decode cX0_addBoard 10 = .ok (.ifCond .le 13, 3) := by decide +kernel
theorem dX0_addBoard_13 : decode cX0_addBoard 13 = .ok (.aload_n 0, 1) := by decide +kernel
theorem dX0_addBoard_14 : decode cX0_addBoard 14 = .ok (.iload_n 1, 1) := by decide +kernel
theorem dX0_addBoard_15 : decode cX0_addBoard 15 = .ok (.invokevirtual 24, 3) := by decide +kernel
theorem dX0_addBoard_18 : decode cX0_addBoard 18 = .ok (.ifCond .ne 5, 3) := by decide +kernel
theorem dX0_addBoard_21 : decode cX0_addBoard 21 = .ok (.iconst (-1), 1) := by decide +kernel
theorem dX0_addBoard_22 : decode cX0_addBoard 22 = .ok (.ireturn, 1) := by decide +kernel
theorem dX0_addBoard_23 : decode cX0_addBoard 23 = .ok (.iload_n 2, 1) := by decide +kernel
theorem dX0_addBoard_24 : decode cX0_addBoard 24 = .ok (.iload_n 3, 1) := by decide +kernel
theorem dX0_addBoard_25 : decode cX0_addBoard 25 = .ok (.invokestatic 34, 3) := by decide +kernel
theorem dX0_addBoard_28 : decode cX0_addBoard 28 = .ok (.ifCond .ne 6, 3) := by decide +kernel
theorem dX0_addBoard_31 : decode cX0_addBoard 31 = .ok (.bipush (-2), 2) := by decide +kernel
theorem dX0_addBoard_33 : decode cX0_addBoard 33 = .ok (.ireturn, 1) := by decide +kernel
theorem dX0_addBoard_34 : decode cX0_addBoard 34 = .ok (.iload 4, 2) := by decide +kernel
theorem dX0_addBoard_36 : decode cX0_addBoard 36 = .ok (.bipush 10, 2) := by decide +kernel
theorem dX0_addBoard_38 : decode cX0_addBoard 38 = .ok (.if_icmp .lt 6, 3) := by decide +kernel
theorem dX0_addBoard_41 : decode cX0_addBoard 41 = .ok (.bipush (-4), 2) := by decide +kernel
theorem dX0_addBoard_43 : decode cX0_addBoard 43 = .ok (.ireturn, 1) := by decide +kernel
theorem dX0_addBoard_44 : decode cX0_addBoard 44 = .ok (.aload_n 0, 1) := by decide +kernel
theorem dX0_addBoard_45 : decode cX0_addBoard 45 = .ok (.getfield 11, 3) := by decide +kernel
theorem dX0_addBoard_48 : decode cX0_addBoard 48 = .ok (.bipush 17, 2) := by decide +kernel
theorem dX0_addBoard_50 : decode cX0_addBoard 50 = .ok (.iload 4, 2) := by decide +kernel
theorem dX0_addBoard_52 : decode cX0_addBoard 52 = .ok (.iadd, 1) := by decide +kernel
theorem dX0_addBoard_53 : decode cX0_addBoard 53 = .ok (.iload 4, 2) := by decide +kernel
theorem dX0_addBoard_55 : decode cX0_addBoard 55 = .ok (.ifCond .ne 7, 3) := by decide +kernel
theorem dX0_addBoard_58 : decode cX0_addBoard 58 = .ok (.iconst 0, 1) := by decide +kernel
theorem dX0_addBoard_59 : decode cX0_addBoard 59 = .ok (.goto 4, 3) := by decide +kernel
theorem dX0_addBoard_62 : decode cX0_addBoard 62 = .ok (.iload_n 1, 1) := by decide +kernel
theorem dX0_addBoard_63 : decode cX0_addBoard 63 = .ok (.iastore, 1) := by decide +kernel
theorem dX0_addBoard_64 : decode cX0_addBoard 64 = .ok (.aload_n 0, 1) := by decide +kernel
theorem dX0_addBoard_65 : decode cX0_addBoard 65 = .ok (.iload 4, 2) := by decide +kernel
theorem dX0_addBoard_67 : decode cX0_addBoard 67 = .ok (.iload_n 2, 1) := by decide +kernel
theorem dX0_addBoard_68 : decode cX0_addBoard 68 = .ok (.iload_n 3, 1) := by decide +kernel
theorem dX0_addBoard_69 : decode cX0_addBoard 69 = .ok (.invokevirtual 38, 3) := by decide +kernel
theorem dX0_addBoard_72 : decode cX0_addBoard 72 = .ok (.aload_n 0, 1) := by decide +kernel
theorem dX0_addBoard_73 : decode cX0_addBoard 73 = .ok (.getfield 11, 3) := by decide +kernel
theorem dX0_addBoard_76 : decode cX0_addBoard 76 = .ok (.iconst 4, 1) := by decide +kernel
theorem dX0_addBoard_77 : decode cX0_addBoard 77 = .ok (.iload 4, 2) := by decide +kernel
theorem dX0_addBoard_79 : decode cX0_addBoard 79 = .ok (.iconst 1, 1) := by decide +kernel
theorem dX0_addBoard_80 : decode cX0_addBoard 80 = .ok (.iadd, 1) := by decide +kernel
theorem dX0_addBoard_81 : decode cX0_addBoard 81 = .ok (.iastore, 1) := by decide +kernel
theorem dX0_addBoard_82 : decode cX0_addBoard 82 = .ok (.iload 4, 2) := by decide +kernel
theorem dX0_addBoard_84 : decode cX0_addBoard 84 = .ok (.ireturn, 1) := by decide +kernel
theorem dX0_addLoad_0 : decode cX0_addLoad 0 = .ok (.aload_n 0, 1) := by decide +kernel
theorem dX0_addLoad_1 : decode cX0_addLoad 1 = .ok (.getfield 11, 3) := by decide +kernel
theorem dX0_addLoad_4 : decode cX0_addLoad 4 = .ok (.iconst 5, 1) := by decide +kernel
theorem dX0_addLoad_5 : decode cX0_addLoad 5 = .ok (.iaload, 1) := by decide +kernel
theorem dX0_addLoad_6 : decode cX0_addLoad 6 = .ok (.istore_n 3, 1) := by decide +kernel
theorem dX0_addLoad_7 : decode cX0_addLoad 7 = .ok (.aload_n 0, 1) := by decide +kernel
theorem dX0_addLoad_8 : decode cX0_addLoad 8 = .ok (.iload_n 1, 1) := by decide +kernel
theorem dX0_addLoad_9 : decode cX0_addLoad 9 = .ok (.invokevirtual 24, 3) := by decide +kernel
theorem dX0_addLoad_12 : decode cX0_addLoad 12 = .ok (.ifCond .ne 5, 3) := by decide +kernel
theorem dX0_addLoad_15 : decode cX0_addLoad 15 = .ok (.iconst (-1), 1) := by decide +kernel
theorem dX0_addLoad_16 : decode cX0_addLoad 16 = .ok (.ireturn, 1) := by decide +kernel
theorem dX0_addLoad_17 : decode cX0_addLoad 17 = .ok (.iload_n 2, 1) := by decide +kernel
theorem dX0_addLoad_18 : decode cX0_addLoad 18 = .ok (.iconst 1, 1) := by decide +kernel
theorem dX0_addLoad_19 : decode cX0_addLoad 19 = .ok (.if_icmp .lt 10, 3) := by decide +kernel
theorem dX0_addLoad_22 : decode cX0_addLoad 22 = .ok (.iload_n 2, 1) := by decide +kernel
theorem dX0_addLoad_23 : decode cX0_addLoad 23 = .ok (.sipush 200, 3) := by decide +kernel
theorem dX0_addLoad_26 : decode cX0_addLoad 26 = .ok (.if_icmp .le 6, 3) := by decide +kernel
theorem dX0_addLoad_29 : decode cX0_addLoad 29 = .ok (.bipush (-2), 2) := by decide +kernel
theorem dX0_addLoad_31 : decode cX0_addLoad 31 = .ok (.ireturn, 1) := by decide +kernel
theorem dX0_addLoad_32 : decode cX0_addLoad 32 = .ok (.iload_n 3, 1) := by decide +kernel
theorem dX0_addLoad_33 : decode cX0_addLoad 33 = .ok (.bipush 14, 2) := by decide +kernel
theorem dX0_addLoad_35 : decode cX0_addLoad 35 = .ok (.if_icmp .lt 6, 3) := by decide +kernel
theorem dX0_addLoad_38 : decode cX0_addLoad 38 = .ok (.bipush (-4), 2) := by decide +kernel
theorem dX0_addLoad_40 : decode cX0_addLoad 40 = .ok (.ireturn, 1) := by decide +kernel
theorem dX0_addLoad_41 : decode cX0_addLoad 41 = .ok (.aload_n 0, 1) := by decide +kernel
theorem dX0_addLoad_42 : decode cX0_addLoad 42 = .ok (.getfield 11, 3) := by decide +kernel
theorem dX0_addLoad_45 : decode cX0_addLoad 45 = .ok (.bipush 97, 2) := by decide +kernel
theorem dX0_addLoad_47 : decode cX0_addLoad 47 = .ok (.iload_n 3, 1) := by decide +kernel
theorem dX0_addLoad_48 : decode cX0_addLoad 48 = .ok (.iadd, 1) := by decide +kernel
theorem dX0_addLoad_49 : decode cX0_addLoad 49 = .ok (.iload_n 1, 1) := by decide +kernel
theorem dX0_addLoad_50 : decode cX0_addLoad 50 = .ok (.iastore, 1) := by decide +kernel
theorem dX0_addLoad_51 : decode cX0_addLoad 51 = .ok (.aload_n 0, 1) := by decide +kernel
theorem dX0_addLoad_52 : decode cX0_addLoad 52 = .ok (.getfield 11, 3) := by decide +kernel
theorem dX0_addLoad_55 : decode cX0_addLoad 55 = .ok (.bipush 111, 2) := by decide +kernel
theorem dX0_addLoad_57 : decode cX0_addLoad 57 = .ok (.iload_n 3, 1) := by decide +kernel
theorem dX0_addLoad_58 : decode cX0_addLoad 58 = .ok (.iadd, 1) := by decide +kernel
theorem dX0_addLoad_59 : decode cX0_addLoad 59 = .ok (.iload_n 2, 1) := by decide +kernel
theorem dX0_addLoad_60 : decode cX0_addLoad 60 = .ok (.iastore, 1) := by decide +kernel
theorem dX0_addLoad_61 : decode cX0_addLoad 61 = .ok (.aload_n 0, 1) := by decide +kernel
theorem dX0_addLoad_62 : decode cX0_addLoad 62 = .ok (.getfield 11, 3) := by decide +kernel
theorem dX0_addLoad_65 : decode cX0_addLoad 65 = .ok (.iconst 5, 1) := by decide +kernel
theorem dX0_addLoad_66 : decode cX0_addLoad 66 = .ok (.iload_n 3, 1) := by decide +kernel
theorem dX0_addLoad_67 : decode cX0_addLoad 67 = .ok (.iconst 1, 1) := by decide +kernel
theorem dX0_addLoad_68 : decode cX0_addLoad 68 = .ok (.iadd, 1) := by decide +kernel
theorem dX0_addLoad_69 : decode cX0_addLoad 69 = .ok (.iastore, 1) := by decide +kernel
theorem dX0_addLoad_70 : decode cX0_addLoad 70 = .ok (.iload_n 3, 1) := by decide +kernel
theorem dX0_addLoad_71 : decode cX0_addLoad 71 = .ok (.ireturn, 1) := by decide +kernel
theorem dX0_switchLoad_0 : decode cX0_switchLoad 0 = .ok (.aload_n 0, 1) := by decide +kernel
theorem dX0_switchLoad_1 : decode cX0_switchLoad 1 = .ok (.iload_n 1, 1) := by decide +kernel
theorem dX0_switchLoad_2 : decode cX0_switchLoad 2 = .ok (.invokevirtual 42, 3) := by decide +kernel
theorem dX0_switchLoad_5 : decode cX0_switchLoad 5 = .ok (.ifCond .ne 5, 3) := by decide +kernel
theorem dX0_switchLoad_8 : decode cX0_switchLoad 8 = .ok (.iconst (-1), 1) := by decide +kernel
theorem dX0_switchLoad_9 : decode cX0_switchLoad 9 = .ok (.ireturn, 1) := by decide +kernel
theorem dX0_switchLoad_10 : decode cX0_switchLoad 10 = .ok (.aload_n 0, 1) := by decide +kernel
theorem dX0_switchLoad_11 : decode cX0_switchLoad 11 = .ok (.getfield 11, 3) := by decide +kernel
theorem dX0_switchLoad_14 : decode cX0_switchLoad 14 = .ok (.bipush 6, 2) := by decide +kernel
theorem dX0_switchLoad_16 : decode cX0_switchLoad 16 = .ok (.dup2, 1) := by decide +kernel
theorem dX0_switchLoad_17 : decode cX0_switchLoad 17 = .ok (.iaload, 1) := by decide +kernel
theorem dX0_switchLoad_18 : decode cX0_switchLoad 18 = .ok (.iconst 1, 1) := by decide +kernel
theorem dX0_switchLoad_19 : decode cX0_switchLoad 19 = .ok (.iload_n 1, 1) := by decide +kernel
theorem dX0_switchLoad_20 : decode cX0_switchLoad 20 = .ok (.ishl, 1) := by decide +kernel
theorem dX0_switchLoad_21 : decode cX0_switchLoad 21 = .ok (.ixor, 1) := by decide +kernel
theorem dX0_switchLoad_22 : decode cX0_switchLoad 22 = .ok (.iastore, 1) := by decide +kernel
theorem dX0_switchLoad_23 : decode cX0_switchLoad 23 = .ok (.aload_n 0, 1) := by decide +kernel
theorem dX0_switchLoad_24 : decode cX0_switchLoad 24 = .ok (.getfield 11, 3) := by decide +kernel
theorem dX0_switchLoad_27 : decode cX0_switchLoad 27 = .ok (.bipush 6, 2) := by decide +kernel
theorem dX0_switchLoad_29 : decode cX0_switchLoad 29 = .ok (.iaload, 1) := by decide +kernel
theorem dX0_switchLoad_30 : decode cX0_switchLoad 30 = .ok (.iload_n 1, 1) := by decide +kernel
theorem dX0_switchLoad_31 : decode cX0_switchLoad 31 = .ok (.ishr, 1) := by decide +kernel
theorem dX0_switchLoad_32 : decode cX0_switchLoad 32 = .ok (.iconst 1, 1) := by decide +kernel
theorem dX0_switchLoad_33 : decode cX0_switchLoad 33 = .ok (.iand, 1) := by decide +kernel
theorem dX0_switchLoad_34 : decode cX0_switchLoad 34 = .ok (.ireturn, 1) := by decide +kernel
theorem dX0_changeFuse_0 : decode cX0_changeFuse 0 = .ok (.aload_n 0, 1) := by decide +kernel
theorem dX0_changeFuse_1 : decode cX0_changeFuse 1 = .ok (.iload_n 1, 1) := by decide +kernel
theorem dX0_changeFuse_2 : decode cX0_changeFuse 2 = .ok (.invokevirtual 24, 3) := by decide +kernel
theorem dX0_changeFuse_5 : decode cX0_changeFuse 5 = .ok (.ifCond .ne 5, 3) := by decide +kernel
theorem dX0_changeFuse_8 : decode cX0_changeFuse 8 = .ok (.iconst (-1), 1) := by decide +kernel
theorem dX0_changeFuse_9 : decode cX0_changeFuse 9 = .ok (.ireturn, 1) := by decide +kernel
theorem dX0_changeFuse_10 : decode cX0_changeFuse 10 = .ok (.iload_n 2, 1) := by decide +kernel
theorem dX0_changeFuse_11 : decode cX0_changeFuse 11 = .ok (.iload_n 3, 1) := by decide +kernel
theorem dX0_changeFuse_12 : decode cX0_changeFuse 12 = .ok (.invokestatic 34, 3) := by decide +kernel
theorem dX0_changeFuse_15 : decode cX0_changeFuse 15 = .ok (.ifCond .ne 6, 3) := by decide +kernel
theorem dX0_changeFuse_18 : decode cX0_changeFuse 18 = .ok (.bipush (-2), 2) := by decide +kernel
theorem dX0_changeFuse_20 : decode cX0_changeFuse 20 = .ok (.ireturn, 1) := by decide +kernel
theorem dX0_changeFuse_21 : decode cX0_changeFuse 21 = .ok (.aload_n 0, 1) := by decide +kernel
theorem dX0_changeFuse_22 : decode cX0_changeFuse 22 = .ok (.getfield 11, 3) := by decide +kernel
theorem dX0_changeFuse_25 : decode cX0_changeFuse 25 = .ok (.bipush 47, 2) := by decide +kernel
theorem dX0_changeFuse_27 : decode cX0_changeFuse 27 = .ok (.iload_n 1, 1) := by decide +kernel
theorem dX0_changeFuse_28 : decode cX0_changeFuse 28 = .ok (.iadd, 1) := by decide +kernel
theorem dX0_changeFuse_29 : decode cX0_changeFuse 29 = .ok (.iaload, 1) := by decide +kernel
theorem dX0_changeFuse_30 : decode cX0_changeFuse 30 = .ok (.ifCond .le 6, 3) := by decide +kernel
theorem dX0_changeFuse_33 : decode cX0_changeFuse 33 = .ok (.bipush (-5), 2) := by decide +kernel
theorem dX0_changeFuse_35 : decode cX0_changeFuse 35 = .ok (.ireturn, 1) := by decide +kernel
theorem dX0_changeFuse_36 : decode cX0_changeFuse 36 = .ok (.aload_n 0, 1) := by decide +kernel
theorem dX0_changeFuse_37 : decode cX0_changeFuse 37 = .ok (.getfield 11, 3) := by decide +kernel
theorem dX0_changeFuse_40 : decode cX0_changeFuse 40 = .ok (.bipush 27, 2) := by decide +kernel
theorem dX0_changeFuse_42 : decode cX0_changeFuse 42 = .ok (.iload_n 1, 1) := by decide +kernel
theorem dX0_changeFuse_43 : decode cX0_changeFuse 43 = .ok (.iadd, 1) := by decide +kernel
theorem dX0_changeFuse_44 : decode cX0_changeFuse 44 = .ok (.iaload, 1) := by decide +kernel
theorem dX0_changeFuse_45 : decode cX0_changeFuse 45 = .ok (.istore 4, 2) := by decide +kernel
theorem dX0_changeFuse_47 : decode cX0_changeFuse 47 = .ok (.aload_n 0, 1) := by decide +kernel
theorem dX0_changeFuse_48 : decode cX0_changeFuse 48 = .ok (.iload_n 1, 1) := by decide +kernel
theorem dX0_changeFuse_49 : decode cX0_changeFuse 49 = .ok (.iload_n 2, 1) := by decide +kernel
theorem dX0_changeFuse_50 : decode cX0_changeFuse 50 = .ok (.iload_n 3, 1) := by decide +kernel
theorem dX0_changeFuse_51 : decode cX0_changeFuse 51 = .ok (.invokevirtual 38, 3) := by decide +kernel
theorem dX0_changeFuse_54 : decode cX0_changeFuse 54 = .ok (.iload 4, 2) := by decide +kernel
theorem dX0_changeFuse_56 : decode cX0_changeFuse 56 = .ok (.ireturn, 1) := by decide +kernel
theorem dX0_letPass_0 : decode cX0_letPass 0 = .ok (.iload_n 1, 1) := by decide +kernel
theorem dX0_letPass_1 : decode cX0_letPass 1 = .ok (.iconst 1, 1) := by decide +kernel
theorem dX0_letPass_2 : decode cX0_letPass 2 = .ok (.if_icmp .lt 9, 3) := by decide +kernel
theorem dX0_letPass_5 : decode cX0_letPass 5 = .ok (.iload_n 1, 1) := by decide +kernel
theorem dX0_letPass_6 : decode cX0_letPass 6 = .ok (.bipush 99, 2) := by decide +kernel
theorem dX0_letPass_8 : decode cX0_letPass 8 = .ok (.if_icmp .le 6, 3) := by decide +kernel
theorem dX0_letPass_11 : decode cX0_letPass 11 = .ok (.bipush (-2), 2) := by decide +kernel
theorem dX0_letPass_13 : decode cX0_letPass 13 = .ok (.ireturn, 1) := by decide +kernel
theorem dX0_letPass_14 : decode cX0_letPass 14 = .ok (.aload_n 0, 1) := by decide +kernel
theorem dX0_letPass_15 : decode cX0_letPass 15 = .ok (.getfield 11, 3) := by decide +kernel
theorem dX0_letPass_18 : decode cX0_letPass 18 = .ok (.iconst 3, 1) := by decide +kernel
theorem dX0_letPass_19 : decode cX0_letPass 19 = .ok (.iaload, 1) := by decide +kernel
theorem dX0_letPass_20 : decode cX0_letPass 20 = .ok (.iload_n 1, 1) := by decide +kernel
theorem dX0_letPass_21 : decode cX0_letPass 21 = .ok (.iadd, 1) := by decide +kernel
theorem dX0_letPass_22 : decode cX0_letPass 22 = .ok (.sipush 9999, 3) := by decide +kernel
theorem dX0_letPass_25 : decode cX0_letPass 25 = .ok (.if_icmp .le 6, 3) := by decide +kernel
theorem dX0_letPass_28 : decode cX0_letPass 28 = .ok (.bipush (-5), 2) := by decide +kernel
theorem dX0_letPass_30 : decode cX0_letPass 30 = .ok (.ireturn, 1) := by decide +kernel
theorem dX0_letPass_31 : decode cX0_letPass 31 = .ok (.iconst 0, 1) := by decide +kernel
theorem dX0_letPass_32 : decode cX0_letPass 32 = .ok (.istore_n 2, 1) := by decide +kernel
theorem dX0_letPass_33 : decode cX0_letPass 33 = .ok (.iconst 0, 1) := by decide +kernel
theorem dX0_letPass_34 : decode cX0_letPass 34 = .ok (.istore_n 3, 1) := by decide +kernel
theorem dX0_letPass_35 : decode cX0_letPass 35 = .ok (.iload_n 3, 1) := by decide +kernel
theorem dX0_letPass_36 : decode cX0_letPass 36 = .ok (.iload_n 1, 1) := by decide +kernel
theorem dX0_letPass_37 : decode cX0_letPass 37 = .ok (.if_icmp .ge 19, 3) := by decide +kernel
theorem dX0_letPass_40 : decode cX0_letPass 40 = .ok (.iload_n 2, 1) := by decide +kernel
theorem dX0_letPass_41 : decode cX0_letPass 41 = .ok (.aload_n 0, 1) := by decide +kernel
theorem dX0_letPass_42 : decode cX0_letPass 42 = .ok (.invokevirtual 45, 3) := by decide +kernel
theorem dX0_letPass_45 : decode cX0_letPass 45 = .ok (.invokestatic 49, 3) := by decide +kernel
theorem dX0_letPass_48 : decode cX0_letPass 48 = .ok (.iadd, 1) := by decide +kernel
theorem dX0_letPass_49 : decode cX0_letPass 49 = .ok (.istore_n 2, 1) := by decide +kernel
theorem dX0_letPass_50 : decode cX0_letPass 50 = .ok (.iinc 3 1, 3) := by decide +kernel
theorem dX0_letPass_53 : decode cX0_letPass 53 = .ok (.goto (-18), 3) := by decide +kernel
theorem dX0_letPass_56 : decode cX0_letPass 56 = .ok (.iload_n 2, 1) := by decide +kernel
theorem dX0_letPass_57 : decode cX0_letPass 57 = .ok (.ireturn, 1) := by decide +kernel
theorem dX0_leaveOnlyFault_0 : decode cX0_leaveOnlyFault 0 = .ok (.aload_n 0, 1) := by decide +kernel
theorem dX0_leaveOnlyFault_1 : decode cX0_leaveOnlyFault 1 = .ok (.getfield 11, 3) := by decide +kernel
theorem dX0_leaveOnlyFault_4 : decode cX0_leaveOnlyFault 4 = .ok (.bipush 57, 2) := by decide +kernel
theorem dX0_leaveOnlyFault_6 : decode cX0_leaveOnlyFault 6 = .ok (.bipush 67, 2) := by decide +kernel
theorem dX0_leaveOnlyFault_8 : decode cX0_leaveOnlyFault 8 = .ok (.iconst 0, 1) := by decide +kernel
theorem dX0_leaveOnlyFault_9 : decode cX0_leaveOnlyFault 9 = .ok (.invokestatic 55, 3) := by decide +kernel
theorem dX0_leaveOnlyFault_12 : decode cX0_leaveOnlyFault 12 = .ok (.aload_n 0, 1) := by decide +kernel
theorem dX0_leaveOnlyFault_13 : decode cX0_leaveOnlyFault 13 = .ok (.getfield 11, 3) := by decide +kernel
theorem dX0_leaveOnlyFault_16 : decode cX0_leaveOnlyFault 16 = .ok (.bipush 97, 2) := by decide +kernel
theorem dX0_leaveOnlyFault_18 : decode cX0_leaveOnlyFault 18 = .ok (.iload_n 1, 1) := by decide +kernel
theorem dX0_leaveOnlyFault_19 : decode cX0_leaveOnlyFault 19 = .ok (.iastore, 1) := by decide +kernel
theorem dX0_leaveOnlyFault_20 : decode cX0_leaveOnlyFault 20 = .ok (.aload_n 0, 1) := by decide +kernel
theorem dX0_leaveOnlyFault_21 : decode cX0_leaveOnlyFault 21 = .ok (.getfield 11, 3) := by decide +kernel
theorem dX0_leaveOnlyFault_24 : decode cX0_leaveOnlyFault 24 = .ok (.bipush 111, 2) := by decide +kernel
theorem dX0_leaveOnlyFault_26 : decode cX0_leaveOnlyFault 26 = .ok (.iload_n 2, 1) := by decide +kernel
theorem dX0_leaveOnlyFault_27 : decode cX0_leaveOnlyFault 27 = .ok (.iastore, 1) := by decide +kernel
theorem dX0_leaveOnlyFault_28 : decode cX0_leaveOnlyFault 28 = .ok (.aload_n 0, 1) := by decide +kernel
theorem dX0_leaveOnlyFault_29 : decode cX0_leaveOnlyFault 29 = .ok (.getfield 11, 3) := by decide +kernel
theorem dX0_leaveOnlyFault_32 : decode cX0_leaveOnlyFault 32 = .ok (.iconst 5, 1) := by decide +kernel
theorem dX0_leaveOnlyFault_33 : decode cX0_leaveOnlyFault 33 = .ok (.iconst 1, 1) := by decide +kernel
theorem dX0_leaveOnlyFault_34 : decode cX0_leaveOnlyFault 34 = .ok (.iastore, 1) := by decide +kernel
theorem dX0_leaveOnlyFault_35 : decode cX0_leaveOnlyFault 35 = .ok (.aload_n 0, 1) := by decide +kernel
theorem dX0_leaveOnlyFault_36 : decode cX0_leaveOnlyFault 36 = .ok (.getfield 11, 3) := by decide +kernel
theorem dX0_leaveOnlyFault_39 : decode cX0_leaveOnlyFault 39 = .ok (.bipush 6, 2) := by decide +kernel
theorem dX0_leaveOnlyFault_41 : decode cX0_leaveOnlyFault 41 = .ok (.iconst 1, 1) := by decide +kernel
theorem dX0_leaveOnlyFault_42 : decode cX0_leaveOnlyFault 42 = .ok (.iastore, 1) := by decide +kernel
theorem dX0_leaveOnlyFault_43 : decode cX0_leaveOnlyFault 43 = .ok (.return_, 1) := by decide +kernel
theorem dX0_isFuse_0 : decode cX0_isFuse 0 = .ok (.iload_n 0, 1) := by decide +kernel
theorem dX0_isFuse_1 : decode cX0_isFuse 1 = .ok (.iconst 1, 1) := by decide +kernel
theorem dX0_isFuse_2 : decode cX0_isFuse 2 = .ok (.if_icmp .lt 22, 3) := by decide +kernel
theorem dX0_isFuse_5 : decode cX0_isFuse 5 = .ok (.iload_n 0, 1) := by decide +kernel
theorem dX0_isFuse_6 : decode cX0_isFuse 6 = .ok (.bipush 100, 2) := by decide +kernel
theorem dX0_isFuse_8 : decode cX0_isFuse 8 = .ok (.if_icmp .gt 16, 3) := by decide +kernel
theorem dX0_isFuse_11 : decode cX0_isFuse 11 = .ok (.iload_n 1, 1) := by decide +kernel
theorem dX0_isFuse_12 : decode cX0_isFuse 12 = .ok (.ifCond .lt 12, 3) := by decide +kernel
theorem dX0_isFuse_15 : decode cX0_isFuse 15 = .ok (.iload_n 1, 1) := by decide +kernel
theorem dX0_isFuse_16 : decode cX0_isFuse 16 = .ok (.iconst 2, 1) := by decide +kernel
theorem dX0_isFuse_17 : decode cX0_isFuse 17 = .ok (.if_icmp .gt 7, 3) := by decide +kernel
theorem dX0_isFuse_20 : decode cX0_isFuse 20 = .ok (.iconst 1, 1) := by decide +kernel
theorem dX0_isFuse_21 : decode cX0_isFuse 21 = .ok (.goto 4, 3) := by decide +kernel
theorem dX0_isFuse_24 : decode cX0_isFuse 24 = .ok (.iconst 0, 1) := by decide +kernel
theorem dX0_isFuse_25 : decode cX0_isFuse 25 = .ok (.ireturn, 1) := by decide +kernel
theorem dX0_putNewFuse_0 : decode cX0_putNewFuse 0 = .ok (.aload_n 0, 1) := by decide +kernel
theorem dX0_putNewFuse_1 : decode cX0_putNewFuse 1 = .ok (.getfield 11, 3) := by decide +kernel
theorem dX0_putNewFuse_4 : decode cX0_putNewFuse 4 = .ok (.bipush 27, 2) := by decide +kernel
theorem dX0_putNewFuse_6 : decode cX0_putNewFuse 6 = .ok (.iload_n 1, 1) := by decide +kernel
theorem dX0_putNewFuse_7 : decode cX0_putNewFuse 7 = .ok (.iadd, 1) := by decide +kernel
theorem dX0_putNewFuse_8 : decode cX0_putNewFuse 8 = .ok (.iload_n 2, 1) := by decide +kernel
theorem dX0_putNewFuse_9 : decode cX0_putNewFuse 9 = .ok (.iastore, 1) := by decide +kernel
theorem dX0_putNewFuse_10 : decode cX0_putNewFuse 10 = .ok (.aload_n 0, 1) := by decide +kernel
theorem dX0_putNewFuse_11 : decode cX0_putNewFuse 11 = .ok (.getfield 11, 3) := by decide +kernel
theorem dX0_putNewFuse_14 : decode cX0_putNewFuse 14 = .ok (.bipush 37, 2) := by decide +kernel
theorem dX0_putNewFuse_16 : decode cX0_putNewFuse 16 = .ok (.iload_n 1, 1) := by decide +kernel
theorem dX0_putNewFuse_17 : decode cX0_putNewFuse 17 = .ok (.iadd, 1) := by decide +kernel
theorem dX0_putNewFuse_18 : decode cX0_putNewFuse 18 = .ok (.iload_n 3, 1) := by decide +kernel
theorem dX0_putNewFuse_19 : decode cX0_putNewFuse 19 = .ok (.iastore, 1) := by decide +kernel
theorem dX0_putNewFuse_20 : decode cX0_putNewFuse 20 = .ok (.aload_n 0, 1) := by decide +kernel
theorem dX0_putNewFuse_21 : decode cX0_putNewFuse 21 = .ok (.getfield 11, 3) := by decide +kernel
theorem dX0_putNewFuse_24 : decode cX0_putNewFuse 24 = .ok (.bipush 47, 2) := by decide +kernel
theorem dX0_putNewFuse_26 : decode cX0_putNewFuse 26 = .ok (.iload_n 1, 1) := by decide +kernel
theorem dX0_putNewFuse_27 : decode cX0_putNewFuse 27 = .ok (.iadd, 1) := by decide +kernel
theorem dX0_putNewFuse_28 : decode cX0_putNewFuse 28 = .ok (.iconst 0, 1) := by decide +kernel
theorem dX0_putNewFuse_29 : decode cX0_putNewFuse 29 = .ok (.iastore, 1) := by decide +kernel
theorem dX0_putNewFuse_30 : decode cX0_putNewFuse 30 = .ok (.aload_n 0, 1) := by decide +kernel
theorem dX0_putNewFuse_31 : decode cX0_putNewFuse 31 = .ok (.getfield 11, 3) := by decide +kernel
theorem dX0_putNewFuse_34 : decode cX0_putNewFuse 34 = .ok (.bipush 57, 2) := by decide +kernel
theorem dX0_putNewFuse_36 : decode cX0_putNewFuse 36 = .ok (.iload_n 1, 1) := by decide +kernel
theorem dX0_putNewFuse_37 : decode cX0_putNewFuse 37 = .ok (.iadd, 1) := by decide +kernel
theorem dX0_putNewFuse_38 : decode cX0_putNewFuse 38 = .ok (.iconst 0, 1) := by decide +kernel
theorem dX0_putNewFuse_39 : decode cX0_putNewFuse 39 = .ok (.iastore, 1) := by decide +kernel
theorem dX0_putNewFuse_40 : decode cX0_putNewFuse 40 = .ok (.aload_n 0, 1) := by decide +kernel
theorem dX0_putNewFuse_41 : decode cX0_putNewFuse 41 = .ok (.getfield 11, 3) := by decide +kernel
theorem dX0_putNewFuse_44 : decode cX0_putNewFuse 44 = .ok (.bipush 67, 2) := by decide +kernel
theorem dX0_putNewFuse_46 : decode cX0_putNewFuse 46 = .ok (.iload_n 1, 1) := by decide +kernel
theorem dX0_putNewFuse_47 : decode cX0_putNewFuse 47 = .ok (.iadd, 1) := by decide +kernel
theorem dX0_putNewFuse_48 : decode cX0_putNewFuse 48 = .ok (.iconst 0, 1) := by decide +kernel
theorem dX0_putNewFuse_49 : decode cX0_putNewFuse 49 = .ok (.iastore, 1) := by decide +kernel
theorem dX0_putNewFuse_50 : decode cX0_putNewFuse 50 = .ok (.aload_n 0, 1) := by decide +kernel
theorem dX0_putNewFuse_51 : decode cX0_putNewFuse 51 = .ok (.getfield 11, 3) := by decide +kernel
theorem dX0_putNewFuse_54 : decode cX0_putNewFuse 54 = .ok (.bipush 77, 2) := by decide +kernel
theorem dX0_putNewFuse_56 : decode cX0_putNewFuse 56 = .ok (.iload_n 1, 1) := by decide +kernel
theorem dX0_putNewFuse_57 : decode cX0_putNewFuse 57 = .ok (.iadd, 1) := by decide +kernel
theorem dX0_putNewFuse_58 : decode cX0_putNewFuse 58 = .ok (.iconst 0, 1) := by decide +kernel
theorem dX0_putNewFuse_59 : decode cX0_putNewFuse 59 = .ok (.iastore, 1) := by decide +kernel
theorem dX0_putNewFuse_60 : decode cX0_putNewFuse 60 = .ok (.aload_n 0, 1) := by decide +kernel
theorem dX0_putNewFuse_61 : decode cX0_putNewFuse 61 = .ok (.getfield 11, 3) := by decide +kernel
theorem dX0_putNewFuse_64 : decode cX0_putNewFuse 64 = .ok (.bipush 7, 2) := by decide +kernel
theorem dX0_putNewFuse_66 : decode cX0_putNewFuse 66 = .ok (.dup2, 1) := by decide +kernel
theorem dX0_putNewFuse_67 : decode cX0_putNewFuse 67 = .ok (.iaload, 1) := by decide +kernel
theorem dX0_putNewFuse_68 : decode cX0_putNewFuse 68 = .ok (.iconst 1, 1) := by decide +kernel
theorem dX0_putNewFuse_69 : decode cX0_putNewFuse 69 = .ok (.iload_n 1, 1) := by decide +kernel
theorem dX0_putNewFuse_70 : decode cX0_putNewFuse 70 = .ok (.ishl, 1) := by decide +kernel
theorem dX0_putNewFuse_71 : decode cX0_putNewFuse 71 = .ok (.iconst (-1), 1) := by decide +kernel
theorem dX0_putNewFuse_72 : decode cX0_putNewFuse 72 = .ok (.ixor, 1) := by decide +kernel
theorem dX0_putNewFuse_73 : decode cX0_putNewFuse 73 = .ok (.iand, 1) := by decide +kernel
theorem dX0_putNewFuse_74 : decode cX0_putNewFuse 74 = .ok (.iastore, 1) := by decide +kernel
theorem dX0_putNewFuse_75 : decode cX0_putNewFuse 75 = .ok (.return_, 1) := by decide +kernel
theorem dX0_tick_0 : decode cX0_tick 0 = .ok (.aload_n 0, 1) := by decide +kernel
theorem dX0_tick_1 : decode cX0_tick 1 = .ok (.invokevirtual 61, 3) := by decide +kernel
theorem dX0_tick_4 : decode cX0_tick 4 = .ok (.aload_n 0, 1) := by decide +kernel
theorem dX0_tick_5 : decode cX0_tick 5 = .ok (.invokevirtual 64, 3) := by decide +kernel
theorem dX0_tick_8 : decode cX0_tick 8 = .ok (.iconst 0, 1) := by decide +kernel
theorem dX0_tick_9 : decode cX0_tick 9 = .ok (.istore_n 1, 1) := by decide +kernel
theorem dX0_tick_10 : decode cX0_tick 10 = .ok (.iload_n 1, 1) := by decide +kernel
theorem dX0_tick_11 : decode cX0_tick 11 = .ok (.aload_n 0, 1) := by decide +kernel
theorem dX0_tick_12 : decode cX0_tick 12 = .ok (.getfield 11, 3) := by decide +kernel
theorem dX0_tick_15 : decode cX0_tick 15 = .ok (.iconst 4, 1) := by decide +kernel
theorem dX0_tick_16 : decode cX0_tick 16 = .ok (.iaload, 1) := by decide +kernel
theorem dX0_tick_17 : decode cX0_tick 17 = .ok (.if_icmp .ge 28, 3) := by decide +kernel
theorem dX0_tick_20 : decode cX0_tick 20 = .ok (.aload_n 0, 1) := by decide +kernel
theorem dX0_tick_21 : decode cX0_tick 21 = .ok (.iload_n 1, 1) := by decide +kernel
theorem dX0_tick_22 : decode cX0_tick 22 = .ok (.invokevirtual 67, 3) := by decide +kernel
theorem dX0_tick_25 : decode cX0_tick 25 = .ok (.ifCond .ne 14, 3) := by decide +kernel
theorem dX0_tick_28 : decode cX0_tick 28 = .ok (.aload_n 0, 1) := by decide +kernel
theorem dX0_tick_29 : decode cX0_tick 29 = .ok (.iload_n 1, 1) := by decide +kernel
theorem dX0_tick_30 : decode cX0_tick 30 = .ok (.aload_n 0, 1) := by decide +kernel
theorem dX0_tick_31 : decode cX0_tick 31 = .ok (.getfield 15, 3) := by decide +kernel
theorem dX0_tick_34 : decode cX0_tick 34 = .ok (.iload_n 1, 1) := by decide +kernel
theorem dX0_tick_35 : decode cX0_tick 35 = .ok (.iaload, 1) := by decide +kernel
theorem dX0_tick_36 : decode cX0_tick 36 = .ok (.invokevirtual 70, 3) := by decide +kernel
theorem dX0_tick_39 : decode cX0_tick 39 = .ok (.iinc 1 1, 3) := by decide +kernel
theorem dX0_tick_42 : decode cX0_tick 42 = .ok (.goto (-32), 3) := by decide +kernel
theorem dX0_tick_45 : decode cX0_tick 45 = .ok (.aload_n 0, 1) := by decide +kernel
theorem dX0_tick_46 : decode cX0_tick 46 = .ok (.aload_n 0, 1) := by decide +kernel
theorem dX0_tick_47 : decode cX0_tick 47 = .ok (.invokevirtual 74, 3) := by decide +kernel
theorem dX0_tick_50 : decode cX0_tick 50 = .ok (.invokevirtual 77, 3) := by decide +kernel
theorem dX0_tick_53 : decode cX0_tick 53 = .ok (.istore_n 1, 1) := by decide +kernel
theorem dX0_tick_54 : decode cX0_tick 54 = .ok (.iconst 0, 1) := by decide +kernel
theorem dX0_tick_55 : decode cX0_tick 55 = .ok (.istore_n 2, 1) := by decide +kernel
theorem dX0_tick_56 : decode cX0_tick 56 = .ok (.iload_n 2, 1) := by decide +kernel
theorem dX0_tick_57 : decode cX0_tick 57 = .ok (.aload_n 0, 1) := by decide +kernel
theorem dX0_tick_58 : decode cX0_tick 58 = .ok (.getfield 11, 3) := by decide +kernel
theorem dX0_tick_61 : decode cX0_tick 61 = .ok (.iconst 4, 1) := by decide +kernel
theorem dX0_tick_62 : decode cX0_tick 62 = .ok (.iaload, 1) := by decide +kernel
theorem dX0_tick_63 : decode cX0_tick 63 = .ok (.if_icmp .ge 22, 3) := by decide +kernel
theorem dX0_tick_66 : decode cX0_tick 66 = .ok (.iload_n 1, 1) := by decide +kernel
theorem dX0_tick_67 : decode cX0_tick 67 = .ok (.iload_n 2, 1) := by decide +kernel
theorem dX0_tick_68 : decode cX0_tick 68 = .ok (.ishr, 1) := by decide +kernel
theorem dX0_tick_69 : decode cX0_tick 69 = .ok (.iconst 1, 1) := by decide +kernel
theorem dX0_tick_70 : decode cX0_tick 70 = .ok (.iand, 1) := by decide +kernel
theorem dX0_tick_71 : decode cX0_tick 71 = .ok (.ifCond .eq 8, 3) := by decide +kernel
theorem dX0_tick_74 : decode cX0_tick 74 = .ok (.aload_n 0, 1) := by decide +kernel
theorem dX0_tick_75 : decode cX0_tick 75 = .ok (.iload_n 2, 1) := by decide +kernel
theorem dX0_tick_76 : decode cX0_tick 76 = .ok (.invokevirtual 80, 3) := by decide +kernel
theorem dX0_tick_79 : decode cX0_tick 79 = .ok (.iinc 2 1, 3) := by decide +kernel
theorem dX0_tick_82 : decode cX0_tick 82 = .ok (.goto (-26), 3) := by decide +kernel
theorem dX0_tick_85 : decode cX0_tick 85 = .ok (.aload_n 0, 1) := by decide +kernel
theorem dX0_tick_86 : decode cX0_tick 86 = .ok (.getfield 11, 3) := by decide +kernel
theorem dX0_tick_89 : decode cX0_tick 89 = .ok (.iconst 3, 1) := by decide +kernel
theorem dX0_tick_90 : decode cX0_tick 90 = .ok (.dup2, 1) := by decide +kernel
theorem dX0_tick_91 : decode cX0_tick 91 = .ok (.iaload, 1) := by decide +kernel
theorem dX0_tick_92 : decode cX0_tick 92 = .ok (.iconst 1, 1) := by decide +kernel
theorem dX0_tick_93 : decode cX0_tick 93 = .ok (.iadd, 1) := by decide +kernel
theorem dX0_tick_94 : decode cX0_tick 94 = .ok (.iastore, 1) := by decide +kernel
theorem dX0_tick_95 : decode cX0_tick 95 = .ok (.iload_n 1, 1) := by decide +kernel
theorem dX0_tick_96 : decode cX0_tick 96 = .ok (.ireturn, 1) := by decide +kernel
theorem dX0_addUpCurrents_0 : decode cX0_addUpCurrents 0 = .ok (.aload_n 0, 1) := by decide +kernel
theorem dX0_addUpCurrents_1 : decode cX0_addUpCurrents 1 = .ok (.getfield 15, 3) := by decide +kernel
theorem dX0_addUpCurrents_4 : decode cX0_addUpCurrents 4 = .ok (.iconst 0, 1) := by decide +kernel
theorem dX0_addUpCurrents_5 : decode cX0_addUpCurrents 5 = .ok (.invokestatic 84, 3) := by decide +kernel
theorem dX0_addUpCurrents_8 : decode cX0_addUpCurrents 8 = .ok (.aload_n 0, 1) := by decide +kernel
theorem dX0_addUpCurrents_9 : decode cX0_addUpCurrents 9 = .ok (.invokevirtual 87, 3) := by decide +kernel
theorem dX0_addUpCurrents_12 : decode cX0_addUpCurrents 12 = .ok (.istore_n 1, 1) := by decide +kernel
theorem dX0_addUpCurrents_13 : decode cX0_addUpCurrents 13 = .ok (.iconst 0, 1) := by decide +kernel
theorem dX0_addUpCurrents_14 : decode cX0_addUpCurrents 14 = .ok (.istore_n 2, 1) := by decide +kernel
theorem dX0_addUpCurrents_15 : decode cX0_addUpCurrents 15 = .ok (.iload_n 2, 1) := by decide +kernel
theorem dX0_addUpCurrents_16 : decode cX0_addUpCurrents 16 = .ok (.aload_n 0, 1) := by decide +kernel
theorem dX0_addUpCurrents_17 : decode cX0_addUpCurrents 17 = .ok (.getfield 11, 3) := by decide +kernel
theorem dX0_addUpCurrents_20 : decode cX0_addUpCurrents 20 = .ok (.iconst 5, 1) := by decide +kernel
theorem dX0_addUpCurrents_21 : decode cX0_addUpCurrents 21 = .ok (.iaload, 1) := by decide +kernel
theorem dX0_addUpCurrents_22 : decode cX0_addUpCurrents 22 = .ok (.if_icmp .ge 71, 3) := by decide +kernel
theorem dX0_addUpCurrents_25 : decode cX0_addUpCurrents 25 = .ok (.aload_n 0, 1) := by decide +kernel
theorem dX0_addUpCurrents_26 : decode cX0_addUpCurrents 26 = .ok (.getfield 11, 3) := by decide +kernel
theorem dX0_addUpCurrents_29 : decode cX0_addUpCurrents 29 = .ok (.bipush 6, 2) := by decide +kernel
theorem dX0_addUpCurrents_31 : decode cX0_addUpCurrents 31 = .ok (.iaload, 1) := by decide +kernel
theorem dX0_addUpCurrents_32 : decode cX0_addUpCurrents 32 = .ok (.iload_n 2, 1) := by decide +kernel
theorem dX0_addUpCurrents_33 : decode cX0_addUpCurrents 33 = .ok (.ishr, 1) := by decide +kernel
theorem dX0_addUpCurrents_34 : decode cX0_addUpCurrents 34 = .ok (.iconst 1, 1) := by decide +kernel
theorem dX0_addUpCurrents_35 : decode cX0_addUpCurrents 35 = .ok (.iand, 1) := by decide +kernel
theorem dX0_addUpCurrents_36 : decode cX0_addUpCurrents 36 = .ok (.ifCond .eq 23, 3) := by decide +kernel
theorem dX0_addUpCurrents_39 : decode cX0_addUpCurrents 39 = .ok (.iload_n 1, 1) := by decide +kernel
theorem dX0_addUpCurrents_40 : decode cX0_addUpCurrents 40 = .ok (.aload_n 0, 1) := by decide +kernel
theorem dX0_addUpCurrents_41 : decode cX0_addUpCurrents 41 = .ok (.getfield 11, 3) := by decide +kernel
theorem dX0_addUpCurrents_44 : decode cX0_addUpCurrents 44 = .ok (.bipush 97, 2) := by decide +kernel
theorem dX0_addUpCurrents_46 : decode cX0_addUpCurrents 46 = .ok (.iload_n 2, 1) := by decide +kernel
theorem dX0_addUpCurrents_47 : decode cX0_addUpCurrents 47 = .ok (.iadd, 1) := by decide +kernel
theorem dX0_addUpCurrents_48 : decode cX0_addUpCurrents 48 = .ok (.iaload, 1) := by decide +kernel
theorem dX0_addUpCurrents_49 : decode cX0_addUpCurrents 49 = .ok (.ishr, 1) := by decide +kernel
theorem dX0_addUpCurrents_50 : decode cX0_addUpCurrents 50 = .ok (.iconst 1, 1) := by decide +kernel
theorem dX0_addUpCurrents_51 : decode cX0_addUpCurrents 51 = .ok (.iand, 1) := by decide +kernel
theorem dX0_addUpCurrents_52 : decode cX0_addUpCurrents 52 = .ok (.ifCond .ne 7, 3) := by decide +kernel
theorem dX0_addUpCurrents_55 : decode cX0_addUpCurrents 55 = .ok (.iconst 1, 1) := by decide +kernel
theorem dX0_addUpCurrents_56 : decode cX0_addUpCurrents 56 = .ok (.goto 4, 3) := by decide +kernel
theorem dX0_addUpCurrents_59 : decode cX0_addUpCurrents 59 = .ok (.iconst 0, 1) := by decide +kernel
theorem dX0_addUpCurrents_60 : decode cX0_addUpCurrents 60 = .ok (.istore_n 3, 1) := by decide +kernel
theorem dX0_addUpCurrents_61 : decode cX0_addUpCurrents 61 = .ok (.iload_n 3, 1) := by decide +kernel
theorem dX0_addUpCurrents_62 : decode cX0_addUpCurrents 62 = .ok (.ifCond .eq 25, 3) := by decide +kernel
theorem dX0_addUpCurrents_65 : decode cX0_addUpCurrents 65 = .ok (.aload_n 0, 1) := by decide +kernel
theorem dX0_addUpCurrents_66 : decode cX0_addUpCurrents 66 = .ok (.aload_n 0, 1) := by decide +kernel
theorem dX0_addUpCurrents_67 : decode cX0_addUpCurrents 67 = .ok (.getfield 11, 3) := by decide +kernel
theorem dX0_addUpCurrents_70 : decode cX0_addUpCurrents 70 = .ok (.bipush 97, 2) := by decide +kernel
theorem dX0_addUpCurrents_72 : decode cX0_addUpCurrents 72 = .ok (.iload_n 2, 1) := by decide +kernel
theorem dX0_addUpCurrents_73 : decode cX0_addUpCurrents 73 = .ok (.iadd, 1) := by decide +kernel
theorem dX0_addUpCurrents_74 : decode cX0_addUpCurrents 74 = .ok (.iaload, 1) := by decide +kernel
theorem dX0_addUpCurrents_75 : decode cX0_addUpCurrents 75 = .ok (.aload_n 0, 1) := by decide +kernel
theorem dX0_addUpCurrents_76 : decode cX0_addUpCurrents 76 = .ok (.getfield 11, 3) := by decide +kernel
theorem dX0_addUpCurrents_79 : decode cX0_addUpCurrents 79 = .ok (.bipush 111, 2) := by decide +kernel
theorem dX0_addUpCurrents_81 : decode cX0_addUpCurrents 81 = .ok (.iload_n 2, 1) := by decide +kernel
theorem dX0_addUpCurrents_82 : decode cX0_addUpCurrents 82 = .ok (.iadd, 1) := by decide +kernel
theorem dX0_addUpCurrents_83 : decode cX0_addUpCurrents 83 = .ok (.iaload, 1) := by decide +kernel
theorem dX0_addUpCurrents_84 : decode cX0_addUpCurrents 84 = .ok (.invokevirtual 90, 3) := by decide +kernel
theorem dX0_addUpCurrents_87 : decode cX0_addUpCurrents 87 = .ok (.iinc 2 1, 3) := by decide +kernel
theorem dX0_addUpCurrents_90 : decode cX0_addUpCurrents 90 = .ok (.goto (-75), 3) := by decide +kernel
theorem dX0_addUpCurrents_93 : decode cX0_addUpCurrents 93 = .ok (.aload_n 0, 1) := by decide +kernel
theorem dX0_addUpCurrents_94 : decode cX0_addUpCurrents 94 = .ok (.getfield 11, 3) := by decide +kernel
theorem dX0_addUpCurrents_97 : decode cX0_addUpCurrents 97 = .ok (.iconst 4, 1) := by decide +kernel
theorem dX0_addUpCurrents_98 : decode cX0_addUpCurrents 98 = .ok (.iaload, 1) := by decide +kernel
theorem dX0_addUpCurrents_99 : decode cX0_addUpCurrents 99 = .ok (.iconst 1, 1) := by decide +kernel
theorem dX0_addUpCurrents_100 : decode cX0_addUpCurrents 100 = .ok (.isub, 1) := by decide +kernel
theorem dX0_addUpCurrents_101 : decode cX0_addUpCurrents 101 = .ok (.istore_n 2, 1) := by decide +kernel
theorem dX0_addUpCurrents_102 : decode cX0_addUpCurrents 102 = .ok (.iload_n 2, 1) := by decide +kernel
theorem dX0_addUpCurrents_103 : decode cX0_addUpCurrents 103 = .ok (.ifCond .le 28, 3) := by decide +kernel
theorem dX0_addUpCurrents_106 : decode cX0_addUpCurrents 106 = .ok (.aload_n 0, 1) := by decide +kernel
theorem dX0_addUpCurrents_107 : decode cX0_addUpCurrents 107 = .ok (.aload_n 0, 1) := by decide +kernel
theorem dX0_addUpCurrents_108 : decode cX0_addUpCurrents 108 = .ok (.getfield 11, 3) := by decide +kernel
theorem dX0_addUpCurrents_111 : decode cX0_addUpCurrents 111 = .ok (.bipush 17, 2) := by decide +kernel
theorem dX0_addUpCurrents_113 : decode cX0_addUpCurrents 113 = .ok (.iload_n 2, 1) := by decide +kernel
theorem dX0_addUpCurrents_114 : decode cX0_addUpCurrents 114 = .ok (.iadd, 1) := by decide +kernel
theorem dX0_addUpCurrents_115 : decode cX0_addUpCurrents 115 = .ok (.iaload, 1) := by decide +kernel
theorem dX0_addUpCurrents_116 : decode cX0_addUpCurrents 116 = .ok (.aload_n 0, 1) := by decide +kernel
theorem dX0_addUpCurrents_117 : decode cX0_addUpCurrents 117 = .ok (.getfield 15, 3) := by decide +kernel
theorem dX0_addUpCurrents_120 : decode cX0_addUpCurrents 120 = .ok (.iload_n 2, 1) := by decide +kernel
theorem dX0_addUpCurrents_121 : decode cX0_addUpCurrents 121 = .ok (.iaload, 1) := by decide +kernel
theorem dX0_addUpCurrents_122 : decode cX0_addUpCurrents 122 = .ok (.invokevirtual 90, 3) := by decide +kernel
theorem dX0_addUpCurrents_125 : decode cX0_addUpCurrents 125 = .ok (.iinc 2 (-1), 3) := by decide +kernel
theorem dX0_addUpCurrents_128 : decode cX0_addUpCurrents 128 = .ok (.goto (-26), 3) := by decide +kernel
theorem dX0_addUpCurrents_131 : decode cX0_addUpCurrents 131 = .ok (.return_, 1) := by decide +kernel
theorem dX0_addFlow_0 : decode cX0_addFlow 0 = .ok (.iload_n 1, 1) := by decide +kernel
theorem dX0_addFlow_1 : decode cX0_addFlow 1 = .ok (.ifCond .lt 19, 3) := by decide +kernel
theorem dX0_addFlow_4 : decode cX0_addFlow 4 = .ok (.iload_n 1, 1) := by decide +kernel
theorem dX0_addFlow_5 : decode cX0_addFlow 5 = .ok (.bipush 10, 2) := by decide +kernel
theorem dX0_addFlow_7 : decode cX0_addFlow 7 = .ok (.if_icmp .ge 13, 3) := by decide +kernel
theorem dX0_addFlow_10 : decode cX0_addFlow 10 = .ok (.aload_n 0, 1) := by decide +kernel
theorem dX0_addFlow_11 : decode cX0_addFlow 11 = .ok (.getfield 15, 3) := by decide +kernel
theorem dX0_addFlow_14 : decode cX0_addFlow 14 = .ok (.iload_n 1, 1) := by decide +kernel
theorem dX0_addFlow_15 : decode cX0_addFlow 15 = .ok (.dup2, 1) := by decide +kernel
theorem dX0_addFlow_16 : decode cX0_addFlow 16 = .ok (.iaload, 1) := by decide +kernel
theorem dX0_addFlow_17 : decode cX0_addFlow 17 = .ok (.iload_n 2, 1) := by decide +kernel
theorem dX0_addFlow_18 : decode cX0_addFlow 18 = .ok (.iadd, 1) := by decide +kernel
theorem dX0_addFlow_19 : decode cX0_addFlow 19 = .ok (.iastore, 1) := by decide +kernel
theorem dX0_addFlow_20 : decode cX0_addFlow 20 = .ok (.return_, 1) := by decide +kernel
theorem dX0_burnArcs_0 : decode cX0_burnArcs 0 = .ok (.iconst 0, 1) := by decide +kernel
theorem dX0_burnArcs_1 : decode cX0_burnArcs 1 = .ok (.istore_n 1, 1) := by decide +kernel
theorem dX0_burnArcs_2 : decode cX0_burnArcs 2 = .ok (.iload_n 1, 1) := by decide +kernel
theorem dX0_burnArcs_3 : decode cX0_burnArcs 3 = .ok (.aload_n 0, 1) := by decide +kernel
theorem dX0_burnArcs_4 : decode cX0_burnArcs 4 = .ok (.getfield 11, 3) := by decide +kernel
theorem dX0_burnArcs_7 : decode cX0_burnArcs 7 = .ok (.iconst 4, 1) := by decide +kernel
theorem dX0_burnArcs_8 : decode cX0_burnArcs 8 = .ok (.iaload, 1) := by decide +kernel
theorem dX0_burnArcs_9 : decode cX0_burnArcs 9 = .ok (.if_icmp .ge 62, 3) := by decide +kernel
theorem dX0_burnArcs_12 : decode cX0_burnArcs 12 = .ok (.aload_n 0, 1) := by decide +kernel
theorem dX0_burnArcs_13 : decode cX0_burnArcs 13 = .ok (.getfield 11, 3) := by decide +kernel
theorem dX0_burnArcs_16 : decode cX0_burnArcs 16 = .ok (.bipush 47, 2) := by decide +kernel
theorem dX0_burnArcs_18 : decode cX0_burnArcs 18 = .ok (.iload_n 1, 1) := by decide +kernel
theorem dX0_burnArcs_19 : decode cX0_burnArcs 19 = .ok (.iadd, 1) := by decide +kernel
theorem dX0_burnArcs_20 : decode cX0_burnArcs 20 = .ok (.iaload, 1) := by decide +kernel
theorem dX0_burnArcs_21 : decode cX0_burnArcs 21 = .ok (.ifCond .ne 6, 3) := by decide +kernel
theorem dX0_burnArcs_24 : decode cX0_burnArcs 24 = .ok (.goto 41, 3) := by decide +kernel
theorem dX0_burnArcs_27 : decode cX0_burnArcs 27 = .ok (.aload_n 0, 1) := by decide +kernel
theorem dX0_burnArcs_28 : decode cX0_burnArcs 28 = .ok (.getfield 11, 3) := by decide +kernel
theorem dX0_burnArcs_31 : decode cX0_burnArcs 31 = .ok (.bipush 47, 2) := by decide +kernel
theorem dX0_burnArcs_33 : decode cX0_burnArcs 33 = .ok (.iload_n 1, 1) := by decide +kernel
theorem dX0_burnArcs_34 : decode cX0_burnArcs 34 = .ok (.iadd, 1) := by decide +kernel
theorem dX0_burnArcs_35 : decode cX0_burnArcs 35 = .ok (.dup2, 1) := by decide +kernel
theorem dX0_burnArcs_36 : decode cX0_burnArcs 36 = .ok (.iaload, 1) := by decide +kernel
theorem dX0_burnArcs_37 : decode cX0_burnArcs 37 = .ok (.iconst 1, 1) := by decide +kernel
theorem dX0_burnArcs_38 : decode cX0_burnArcs 38 = .ok (.isub, 1) := by decide +kernel
theorem dX0_burnArcs_39 : decode cX0_burnArcs 39 = .ok (.iastore, 1) := by decide +kernel
theorem dX0_burnArcs_40 : decode cX0_burnArcs 40 = .ok (.aload_n 0, 1) := by decide +kernel
theorem dX0_burnArcs_41 : decode cX0_burnArcs 41 = .ok (.getfield 11, 3) := by decide +kernel
theorem dX0_burnArcs_44 : decode cX0_burnArcs 44 = .ok (.bipush 47, 2) := by decide +kernel
theorem dX0_burnArcs_46 : decode cX0_burnArcs 46 = .ok (.iload_n 1, 1) := by decide +kernel
theorem dX0_burnArcs_47 : decode cX0_burnArcs 47 = .ok (.iadd, 1) := by decide +kernel
theorem dX0_burnArcs_48 : decode cX0_burnArcs 48 = .ok (.iaload, 1) := by decide +kernel
theorem dX0_burnArcs_49 : decode cX0_burnArcs 49 = .ok (.ifCond .ne 16, 3) := by decide +kernel
theorem dX0_burnArcs_52 : decode cX0_burnArcs 52 = .ok (.aload_n 0, 1) := by decide +kernel
theorem dX0_burnArcs_53 : decode cX0_burnArcs 53 = .ok (.getfield 11, 3) := by decide +kernel
theorem dX0_burnArcs_56 : decode cX0_burnArcs 56 = .ok (.bipush 7, 2) := by decide +kernel
theorem dX0_burnArcs_58 : decode cX0_burnArcs 58 = .ok (.dup2, 1) := by decide +kernel
theorem dX0_burnArcs_59 : decode cX0_burnArcs 59 = .ok (.iaload, 1) := by decide +kernel
theorem dX0_burnArcs_60 : decode cX0_burnArcs 60 = .ok (.iconst 1, 1) := by decide +kernel
theorem dX0_burnArcs_61 : decode cX0_burnArcs 61 = .ok (.iload_n 1, 1) := by decide +kernel
theorem dX0_burnArcs_62 : decode cX0_burnArcs 62 = .ok (.ishl, 1) := by decide +kernel
theorem dX0_burnArcs_63 : decode cX0_burnArcs 63 = .ok (.ior, 1) := by decide +kernel
theorem dX0_burnArcs_64 : decode cX0_burnArcs 64 = .ok (.iastore, 1) := by decide +kernel
theorem dX0_burnArcs_65 : decode cX0_burnArcs 65 = .ok (.iinc 1 1, 3) := by decide +kernel
theorem dX0_burnArcs_68 : decode cX0_burnArcs 68 = .ok (.goto (-66), 3) := by decide +kernel
theorem dX0_burnArcs_71 : decode cX0_burnArcs 71 = .ok (.return_, 1) := by decide +kernel
theorem dX0_warm_0 : decode cX0_warm 0 = .ok (.aload_n 0, 1) := by decide +kernel
theorem dX0_warm_1 : decode cX0_warm 1 = .ok (.getfield 11, 3) := by decide +kernel
theorem dX0_warm_4 : decode cX0_warm 4 = .ok (.bipush 27, 2) := by decide +kernel
theorem dX0_warm_6 : decode cX0_warm 6 = .ok (.iload_n 1, 1) := by decide +kernel
theorem dX0_warm_7 : decode cX0_warm 7 = .ok (.iadd, 1) := by decide +kernel
theorem dX0_warm_8 : decode cX0_warm 8 = .ok (.iaload, 1) := by decide +kernel
theorem dX0_warm_9 : decode cX0_warm 9 = .ok (.istore_n 3, 1) := by decide +kernel
theorem dX0_warm_10 : decode cX0_warm 10 = .ok (.aload_n 0, 1) := by decide +kernel
theorem dX0_warm_11 : decode cX0_warm 11 = .ok (.getfield 11, 3) := by decide +kernel
theorem dX0_warm_14 : decode cX0_warm 14 = .ok (.bipush 57, 2) := by decide +kernel
theorem dX0_warm_16 : decode cX0_warm 16 = .ok (.iload_n 1, 1) := by decide +kernel
theorem dX0_warm_17 : decode cX0_warm 17 = .ok (.iadd, 1) := by decide +kernel
theorem dX0_warm_18 : decode cX0_warm 18 = .ok (.iaload, 1) := by decide +kernel
theorem dX0_warm_19 : decode cX0_warm 19 = .ok (.istore 4, 2) := by decide +kernel
theorem dX0_warm_21 : decode cX0_warm 21 = .ok (.iload_n 2, 1) := by decide +kernel
theorem dX0_warm_22 : decode cX0_warm 22 = .ok (.iload_n 2, 1) := by decide +kernel
theorem dX0_warm_23 : decode cX0_warm 23 = .ok (.imul, 1) := by decide +kernel
theorem dX0_warm_24 : decode cX0_warm 24 = .ok (.iload_n 3, 1) := by decide +kernel
theorem dX0_warm_25 : decode cX0_warm 25 = .ok (.iload_n 3, 1) := by decide +kernel
theorem dX0_warm_26 : decode cX0_warm 26 = .ok (.imul, 1) := by decide +kernel
theorem dX0_warm_27 : decode cX0_warm 27 = .ok (.isub, 1) := by decide +kernel
theorem dX0_warm_28 : decode cX0_warm 28 = .ok (.istore 5, 2) := by decide +kernel
theorem dX0_warm_30 : decode cX0_warm 30 = .ok (.iload_n 3, 1) := by decide +kernel
theorem dX0_warm_31 : decode cX0_warm 31 = .ok (.iload_n 3, 1) := by decide +kernel
theorem dX0_warm_32 : decode cX0_warm 32 = .ok (.imul, 1) := by decide +kernel
theorem dX0_warm_33 : decode cX0_warm 33 = .ok (.iload_n 2, 1) := by decide +kernel
theorem dX0_warm_34 : decode cX0_warm 34 = .ok (.iload_n 2, 1) := by decide +kernel
theorem dX0_warm_35 : decode cX0_warm 35 = .ok (.imul, 1) := by decide +kernel
theorem dX0_warm_36 : decode cX0_warm 36 = .ok (.isub, 1) := by decide +kernel
theorem dX0_warm_37 : decode cX0_warm 37 = .ok (.istore 6, 2) := by decide +kernel
theorem dX0_warm_39 : decode cX0_warm 39 = .ok (.iload_n 2, 1) := by decide +kernel
theorem dX0_warm_40 : decode cX0_warm 40 = .ok (.iload_n 3, 1) := by decide +kernel
theorem dX0_warm_41 : decode cX0_warm 41 = .ok (.if_icmp .le 25, 3) := by decide +kernel
theorem dX0_warm_44 : decode cX0_warm 44 = .ok (.aload_n 0, 1) := by decide +kernel
theorem dX0_warm_45 : decode cX0_warm 45 = .ok (.getfield 11, 3) := by decide +kernel
theorem dX0_warm_48 : decode cX0_warm 48 = .ok (.bipush 57, 2) := by decide +kernel
theorem dX0_warm_50 : decode cX0_warm 50 = .ok (.iload_n 1, 1) := by decide +kernel
theorem dX0_warm_51 : decode cX0_warm 51 = .ok (.iadd, 1) := by decide +kernel
theorem dX0_warm_52 : decode cX0_warm 52 = .ok (.ldc 93, 2) := by decide +kernel
theorem dX0_warm_54 : decode cX0_warm 54 = .ok (.iload 4, 2) := by decide +kernel
theorem dX0_warm_56 : decode cX0_warm 56 = .ok (.iload 5, 2) := by decide +kernel
theorem dX0_warm_58 : decode cX0_warm 58 = .ok (.iadd, 1) := by decide +kernel
theorem dX0_warm_59 : decode cX0_warm 59 = .ok (.invokestatic 94, 3) := by decide +kernel
theorem dX0_warm_62 : decode cX0_warm 62 = .ok (.iastore, 1) := by decide +kernel
theorem dX0_warm_63 : decode cX0_warm 63 = .ok (.goto 32, 3) := by decide +kernel
theorem dX0_warm_66 : decode cX0_warm 66 = .ok (.aload_n 0, 1) := by decide +kernel
theorem dX0_warm_67 : decode cX0_warm 67 = .ok (.getfield 11, 3) := by decide +kernel
theorem dX0_warm_70 : decode cX0_warm 70 = .ok (.bipush 57, 2) := by decide +kernel
theorem dX0_warm_72 : decode cX0_warm 72 = .ok (.iload_n 1, 1) := by decide +kernel
theorem dX0_warm_73 : decode cX0_warm 73 = .ok (.iadd, 1) := by decide +kernel
theorem dX0_warm_74 : decode cX0_warm 74 = .ok (.iconst 0, 1) := by decide +kernel
theorem dX0_warm_75 : decode cX0_warm 75 = .ok (.iload 4, 2) := by decide +kernel
theorem dX0_warm_77 : decode cX0_warm 77 = .ok (.iload 6, 2) := by decide +kernel
theorem dX0_warm_79 : decode cX0_warm 79 = .ok (.iconst 1, 1) := by decide +kernel
theorem dX0_warm_80 : decode cX0_warm 80 = .ok (.aload_n 0, 1) := by decide +kernel
theorem dX0_warm_81 : decode cX0_warm 81 = .ok (.getfield 11, 3) := by decide +kernel
theorem dX0_warm_84 : decode cX0_warm 84 = .ok (.iconst 1, 1) := by decide +kernel
theorem dX0_warm_85 : decode cX0_warm 85 = .ok (.iaload, 1) := by decide +kernel
theorem dX0_warm_86 : decode cX0_warm 86 = .ok (.invokestatic 100, 3) := by decide +kernel
theorem dX0_warm_89 : decode cX0_warm 89 = .ok (.idiv, 1) := by decide +kernel
theorem dX0_warm_90 : decode cX0_warm 90 = .ok (.isub, 1) := by decide +kernel
theorem dX0_warm_91 : decode cX0_warm 91 = .ok (.invokestatic 100, 3) := by decide +kernel
theorem dX0_warm_94 : decode cX0_warm 94 = .ok (.iastore, 1) := by decide +kernel
theorem dX0_warm_95 : decode cX0_warm 95 = .ok (.aload_n 0, 1) := by decide +kernel
theorem dX0_warm_96 : decode cX0_warm 96 = .ok (.getfield 11, 3) := by decide +kernel
theorem dX0_warm_99 : decode cX0_warm 99 = .ok (.bipush 37, 2) := by decide +kernel
theorem dX0_warm_101 : decode cX0_warm 101 = .ok (.iload_n 1, 1) := by decide +kernel
theorem dX0_warm_102 : decode cX0_warm 102 = .ok (.iadd, 1) := by decide +kernel
theorem dX0_warm_103 : decode cX0_warm 103 = .ok (.iaload, 1) := by decide +kernel
theorem dX0_warm_104 : decode cX0_warm 104 = .ok (.iconst 2, 1) := by decide +kernel
theorem dX0_warm_105 : decode cX0_warm 105 = .ok (.if_icmp .ne 15, 3) := by decide +kernel
theorem dX0_warm_108 : decode cX0_warm 108 = .ok (.iconst 2, 1) := by decide +kernel
theorem dX0_warm_109 : decode cX0_warm 109 = .ok (.iload_n 2, 1) := by decide +kernel
theorem dX0_warm_110 : decode cX0_warm 110 = .ok (.imul, 1) := by decide +kernel
theorem dX0_warm_111 : decode cX0_warm 111 = .ok (.iload_n 3, 1) := by decide +kernel
theorem dX0_warm_112 : decode cX0_warm 112 = .ok (.if_icmp .le 8, 3) := by decide +kernel
theorem dX0_warm_115 : decode cX0_warm 115 = .ok (.aload_n 0, 1) := by decide +kernel
theorem dX0_warm_116 : decode cX0_warm 116 = .ok (.iload_n 1, 1) := by decide +kernel
theorem dX0_warm_117 : decode cX0_warm 117 = .ok (.invokevirtual 103, 3) := by decide +kernel
theorem dX0_warm_120 : decode cX0_warm 120 = .ok (.return_, 1) := by decide +kernel
theorem dX0_creep_0 : decode cX0_creep 0 = .ok (.aload_n 0, 1) := by decide +kernel
theorem dX0_creep_1 : decode cX0_creep 1 = .ok (.getfield 11, 3) := by decide +kernel
theorem dX0_creep_4 : decode cX0_creep 4 = .ok (.bipush 77, 2) := by decide +kernel
theorem dX0_creep_6 : decode cX0_creep 6 = .ok (.iload_n 1, 1) := by decide +kernel
theorem dX0_creep_7 : decode cX0_creep 7 = .ok (.iadd, 1) := by decide +kernel
theorem dX0_creep_8 : decode cX0_creep 8 = .ok (.dup2, 1) := by decide +kernel
theorem dX0_creep_9 : decode cX0_creep 9 = .ok (.iaload, 1) := by decide +kernel
theorem dX0_creep_10 : decode cX0_creep 10 = .ok (.iconst 1, 1) := by decide +kernel
theorem dX0_creep_11 : decode cX0_creep 11 = .ok (.iadd, 1) := by decide +kernel
theorem dX0_creep_12 : decode cX0_creep 12 = .ok (.iastore, 1) := by decide +kernel
theorem dX0_creep_13 : decode cX0_creep 13 = .ok (.aload_n 0, 1) := by decide +kernel
theorem dX0_creep_14 : decode cX0_creep 14 = .ok (.getfield 11, 3) := by decide +kernel
theorem dX0_creep_17 : decode cX0_creep 17 = .ok (.bipush 77, 2) := by decide +kernel
theorem dX0_creep_19 : decode cX0_creep 19 = .ok (.iload_n 1, 1) := by decide +kernel
theorem dX0_creep_20 : decode cX0_creep 20 = .ok (.iadd, 1) := by decide +kernel
theorem dX0_creep_21 : decode cX0_creep 21 = .ok (.iaload, 1) := by decide +kernel
theorem dX0_creep_22 : decode cX0_creep 22 = .ok (.aload_n 0, 1) := by decide +kernel
theorem dX0_creep_23 : decode cX0_creep 23 = .ok (.getfield 11, 3) := by decide +kernel
theorem dX0_creep_26 : decode cX0_creep 26 = .ok (.iconst 2, 1) := by decide +kernel
theorem dX0_creep_27 : decode cX0_creep 27 = .ok (.iaload, 1) := by decide +kernel
theorem dX0_creep_28 : decode cX0_creep 28 = .ok (.if_icmp .ge 4, 3) := by decide +kernel
theorem dX0_creep_31 : decode cX0_creep 31 = .ok (.return_, 1) := by decide +kernel
theorem dX0_creep_32 : decode cX0_creep 32 = .ok (.aload_n 0, 1) := by decide +kernel
theorem dX0_creep_33 : decode cX0_creep 33 = .ok (.getfield 11, 3) := by decide +kernel
theorem dX0_creep_36 : decode cX0_creep 36 = .ok (.bipush 77, 2) := by decide +kernel
theorem dX0_creep_38 : decode cX0_creep 38 = .ok (.iload_n 1, 1) := by decide +kernel
theorem dX0_creep_39 : decode cX0_creep 39 = .ok (.iadd, 1) := by decide +kernel
theorem dX0_creep_40 : decode cX0_creep 40 = .ok (.iconst 0, 1) := by decide +kernel
theorem dX0_creep_41 : decode cX0_creep 41 = .ok (.iastore, 1) := by decide +kernel
theorem dX0_creep_42 : decode cX0_creep 42 = .ok (.aload_n 0, 1) := by decide +kernel
theorem dX0_creep_43 : decode cX0_creep 43 = .ok (.getfield 11, 3) := by decide +kernel
theorem dX0_creep_46 : decode cX0_creep 46 = .ok (.bipush 67, 2) := by decide +kernel
theorem dX0_creep_48 : decode cX0_creep 48 = .ok (.iload_n 1, 1) := by decide +kernel
theorem dX0_creep_49 : decode cX0_creep 49 = .ok (.iadd, 1) := by decide +kernel
theorem dX0_creep_50 : decode cX0_creep 50 = .ok (.dup2, 1) := by decide +kernel
theorem dX0_creep_51 : decode cX0_creep 51 = .ok (.iaload, 1) := by decide +kernel
theorem dX0_creep_52 : decode cX0_creep 52 = .ok (.iconst 1, 1) := by decide +kernel
theorem dX0_creep_53 : decode cX0_creep 53 = .ok (.iadd, 1) := by decide +kernel
theorem dX0_creep_54 : decode cX0_creep 54 = .ok (.iastore, 1) := by decide +kernel
theorem dX0_creep_55 : decode cX0_creep 55 = .ok (.return_, 1) := by decide +kernel
theorem dX0_molten_0 : decode cX0_molten 0 = .ok (.iconst 0, 1) := by decide +kernel
theorem dX0_molten_1 : decode cX0_molten 1 = .ok (.istore_n 1, 1) := by decide +kernel
theorem dX0_molten_2 : decode cX0_molten 2 = .ok (.iconst 0, 1) := by decide +kernel
theorem dX0_molten_3 : decode cX0_molten 3 = .ok (.istore_n 2, 1) := by decide +kernel
theorem dX0_molten_4 : decode cX0_molten 4 = .ok (.iload_n 2, 1) := by decide +kernel
theorem dX0_molten_5 : decode cX0_molten 5 = .ok (.aload_n 0, 1) := by decide +kernel
theorem dX0_molten_6 : decode cX0_molten 6 = .ok (.getfield 11, 3) := by decide +kernel
theorem dX0_molten_9 : decode cX0_molten 9 = .ok (.iconst 4, 1) := by decide +kernel
theorem dX0_molten_10 : decode cX0_molten 10 = .ok (.iaload, 1) := by decide +kernel
theorem dX0_molten_11 : decode cX0_molten 11 = .ok (.if_icmp .ge 40, 3) := by decide +kernel
theorem dX0_molten_14 : decode cX0_molten 14 = .ok (.aload_n 0, 1) := by decide +kernel
theorem dX0_molten_15 : decode cX0_molten 15 = .ok (.iload_n 2, 1) := by decide +kernel
theorem dX0_molten_16 : decode cX0_molten 16 = .ok (.invokevirtual 67, 3) := by decide +kernel
theorem dX0_molten_19 : decode cX0_molten 19 = .ok (.ifCond .ne 26, 3) := by decide +kernel
theorem dX0_molten_22 : decode cX0_molten 22 = .ok (.aload_n 0, 1) := by decide +kernel
theorem dX0_molten_23 : decode cX0_molten 23 = .ok (.getfield 11, 3) := by decide +kernel
theorem dX0_molten_26 : decode cX0_molten 26 = .ok (.bipush 57, 2) := by decide +kernel
theorem dX0_molten_28 : decode cX0_molten 28 = .ok (.iload_n 2, 1) := by decide +kernel
theorem dX0_molten_29 : decode cX0_molten 29 = .ok (.iadd, 1) := by decide +kernel
theorem dX0_molten_30 : decode cX0_molten 30 = .ok (.iaload, 1) := by decide +kernel
theorem dX0_molten_31 : decode cX0_molten 31 = .ok (.aload_n 0, 1) := by decide +kernel
theorem dX0_molten_32 : decode cX0_molten 32 = .ok (.iload_n 2, 1) := by decide +kernel
theorem dX0_molten_33 : decode cX0_molten 33 = .ok (.invokevirtual 106, 3) := by decide +kernel
theorem dX0_molten_36 : decode cX0_molten 36 = .ok (.if_icmp .lt 9, 3) := by decide +kernel
theorem dX0_molten_39 : decode cX0_molten 39 = .ok (.iload_n 1, 1) := by decide +kernel
theorem dX0_molten_40 : decode cX0_molten 40 = .ok (.iconst 1, 1) := by decide +kernel
theorem dX0_molten_41 : decode cX0_molten 41 = .ok (.iload_n 2, 1) := by decide +kernel
theorem dX0_molten_42 : decode cX0_molten 42 = .ok (.ishl, 1) := by decide +kernel
theorem dX0_molten_43 : decode cX0_molten 43 = .ok (.ior, 1) := by decide +kernel
theorem dX0_molten_44 : decode cX0_molten 44 = .ok (.istore_n 1, 1) := by decide +kernel
theorem dX0_molten_45 : decode cX0_molten 45 = .ok (.iinc 2 1, 3) := by decide +kernel
theorem dX0_molten_48 : decode cX0_molten 48 = .ok (.goto (-44), 3) := by decide +kernel
theorem dX0_molten_51 : decode cX0_molten 51 = .ok (.iload_n 1, 1) := by decide +kernel
theorem dX0_molten_52 : decode cX0_molten 52 = .ok (.ireturn, 1) := by decide +kernel
theorem dX0_nearestOf_0 : decode cX0_nearestOf 0 = .ok (.iconst 0, 1) := by decide +kernel
theorem dX0_nearestOf_1 : decode cX0_nearestOf 1 = .ok (.istore_n 2, 1) := by decide +kernel
theorem dX0_nearestOf_2 : decode cX0_nearestOf 2 = .ok (.iconst 0, 1) := by decide +kernel
theorem dX0_nearestOf_3 : decode cX0_nearestOf 3 = .ok (.istore_n 3, 1) := by decide +kernel
theorem dX0_nearestOf_4 : decode cX0_nearestOf 4 = .ok (.iload_n 3, 1) := by decide +kernel
theorem dX0_nearestOf_5 : decode cX0_nearestOf 5 = .ok (.aload_n 0, 1) := by decide +kernel
theorem dX0_nearestOf_6 : decode cX0_nearestOf 6 = .ok (.getfield 11, 3) := by decide +kernel
theorem dX0_nearestOf_9 : decode cX0_nearestOf 9 = .ok (.iconst 4, 1) := by decide +kernel
theorem dX0_nearestOf_10 : decode cX0_nearestOf 10 = .ok (.iaload, 1) := by decide +kernel
theorem dX0_nearestOf_11 : decode cX0_nearestOf 11 = .ok (.if_icmp .ge 48, 3) := by decide +kernel
theorem dX0_nearestOf_14 : decode cX0_nearestOf 14 = .ok (.iload_n 1, 1) := by decide +kernel
theorem dX0_nearestOf_15 : decode cX0_nearestOf 15 = .ok (.iload_n 3, 1) := by decide +kernel
theorem dX0_nearestOf_16 : decode cX0_nearestOf 16 = .ok (.ishr, 1) := by decide +kernel
theorem dX0_nearestOf_17 : decode cX0_nearestOf 17 = .ok (.iconst 1, 1) := by decide +kernel
theorem dX0_nearestOf_18 : decode cX0_nearestOf 18 = .ok (.iand, 1) := by decide +kernel
theorem dX0_nearestOf_19 : decode cX0_nearestOf 19 = .ok (.ifCond .eq 7, 3) := by decide +kernel
theorem dX0_nearestOf_22 : decode cX0_nearestOf 22 = .ok (.iconst 1, 1) := by decide +kernel
theorem dX0_nearestOf_23 : decode cX0_nearestOf 23 = .ok (.goto 4, 3) := by decide +kernel
theorem dX0_nearestOf_26 : decode cX0_nearestOf 26 = .ok (.iconst 0, 1) := by decide +kernel
theorem dX0_nearestOf_27 : decode cX0_nearestOf 27 = .ok (.istore 4, 2) := by decide +kernel
theorem dX0_nearestOf_29 : decode cX0_nearestOf 29 = .ok (.iload 4, 2) := by decide +kernel
theorem dX0_nearestOf_31 : decode cX0_nearestOf 31 = .ok (.ifCond .eq 22, 3) := by decide +kernel
theorem dX0_nearestOf_34 : decode cX0_nearestOf 34 = .ok (.aload_n 0, 1) := by decide +kernel
theorem dX0_nearestOf_35 : decode cX0_nearestOf 35 = .ok (.iload_n 3, 1) := by decide +kernel
theorem dX0_nearestOf_36 : decode cX0_nearestOf 36 = .ok (.invokevirtual 109, 3) := by decide +kernel
theorem dX0_nearestOf_39 : decode cX0_nearestOf 39 = .ok (.iload_n 1, 1) := by decide +kernel
theorem dX0_nearestOf_40 : decode cX0_nearestOf 40 = .ok (.iand, 1) := by decide +kernel
theorem dX0_nearestOf_41 : decode cX0_nearestOf 41 = .ok (.iconst 1, 1) := by decide +kernel
theorem dX0_nearestOf_42 : decode cX0_nearestOf 42 = .ok (.iload_n 3, 1) := by decide +kernel
theorem dX0_nearestOf_43 : decode cX0_nearestOf 43 = .ok (.ishl, 1) := by decide +kernel
theorem dX0_nearestOf_44 : decode cX0_nearestOf 44 = .ok (.if_icmp .ne 9, 3) := by decide +kernel
theorem dX0_nearestOf_47 : decode cX0_nearestOf 47 = .ok (.iload_n 2, 1) := by decide +kernel
theorem dX0_nearestOf_48 : decode cX0_nearestOf 48 = .ok (.iconst 1, 1) := by decide +kernel
theorem dX0_nearestOf_49 : decode cX0_nearestOf 49 = .ok (.iload_n 3, 1) := by decide +kernel
theorem dX0_nearestOf_50 : decode cX0_nearestOf 50 = .ok (.ishl, 1) := by decide +kernel
theorem dX0_nearestOf_51 : decode cX0_nearestOf 51 = .ok (.ior, 1) := by decide +kernel
theorem dX0_nearestOf_52 : decode cX0_nearestOf 52 = .ok (.istore_n 2, 1) := by decide +kernel
theorem dX0_nearestOf_53 : decode cX0_nearestOf 53 = .ok (.iinc 3 1, 3) := by decide +kernel
theorem dX0_nearestOf_56 : decode cX0_nearestOf 56 = .ok (.goto (-52), 3) := by decide +kernel
theorem dX0_nearestOf_59 : decode cX0_nearestOf 59 = .ok (.iload_n 2, 1) := by decide +kernel
theorem dX0_nearestOf_60 : decode cX0_nearestOf 60 = .ok (.ireturn, 1) := by decide +kernel
theorem dX0_blow_0 : decode cX0_blow 0 = .ok (.aload_n 0, 1) := by decide +kernel
theorem dX0_blow_1 : decode cX0_blow 1 = .ok (.getfield 11, 3) := by decide +kernel
theorem dX0_blow_4 : decode cX0_blow 4 = .ok (.bipush 47, 2) := by decide +kernel
theorem dX0_blow_6 : decode cX0_blow 6 = .ok (.iload_n 1, 1) := by decide +kernel
theorem dX0_blow_7 : decode cX0_blow 7 = .ok (.iadd, 1) := by decide +kernel
theorem dX0_blow_8 : decode cX0_blow 8 = .ok (.aload_n 0, 1) := by decide +kernel
theorem dX0_blow_9 : decode cX0_blow 9 = .ok (.getfield 11, 3) := by decide +kernel
theorem dX0_blow_12 : decode cX0_blow 12 = .ok (.iconst 0, 1) := by decide +kernel
theorem dX0_blow_13 : decode cX0_blow 13 = .ok (.iaload, 1) := by decide +kernel
theorem dX0_blow_14 : decode cX0_blow 14 = .ok (.iastore, 1) := by decide +kernel
theorem dX0_blow_15 : decode cX0_blow 15 = .ok (.aload_n 0, 1) := by decide +kernel
theorem dX0_blow_16 : decode cX0_blow 16 = .ok (.getfield 11, 3) := by decide +kernel
theorem dX0_blow_19 : decode cX0_blow 19 = .ok (.iconst 0, 1) := by decide +kernel
theorem dX0_blow_20 : decode cX0_blow 20 = .ok (.iaload, 1) := by decide +kernel
theorem dX0_blow_21 : decode cX0_blow 21 = .ok (.ifCond .ne 16, 3) := by decide +kernel
theorem dX0_blow_24 : decode cX0_blow 24 = .ok (.aload_n 0, 1) := by decide +kernel
theorem dX0_blow_25 : decode cX0_blow 25 = .ok (.getfield 11, 3) := by decide +kernel
theorem dX0_blow_28 : decode cX0_blow 28 = .ok (.bipush 7, 2) := by decide +kernel
theorem dX0_blow_30 : decode cX0_blow 30 = .ok (.dup2, 1) := by decide +kernel
theorem dX0_blow_31 : decode cX0_blow 31 = .ok (.iaload, 1) := by decide +kernel
theorem dX0_blow_32 : decode cX0_blow 32 = .ok (.iconst 1, 1) := by decide +kernel
theorem dX0_blow_33 : decode cX0_blow 33 = .ok (.iload_n 1, 1) := by decide +kernel
theorem dX0_blow_34 : decode cX0_blow 34 = .ok (.ishl, 1) := by decide +kernel
theorem dX0_blow_35 : decode cX0_blow 35 = .ok (.ior, 1) := by decide +kernel
theorem dX0_blow_36 : decode cX0_blow 36 = .ok (.iastore, 1) := by decide +kernel
theorem dX0_blow_37 : decode cX0_blow 37 = .ok (.aload_n 0, 1) := by decide +kernel
theorem dX0_blow_38 : decode cX0_blow 38 = .ok (.getfield 11, 3) := by decide +kernel
theorem dX0_blow_41 : decode cX0_blow 41 = .ok (.bipush 8, 2) := by decide +kernel
theorem dX0_blow_43 : decode cX0_blow 43 = .ok (.dup2, 1) := by decide +kernel
theorem dX0_blow_44 : decode cX0_blow 44 = .ok (.iaload, 1) := by decide +kernel
theorem dX0_blow_45 : decode cX0_blow 45 = .ok (.iconst 1, 1) := by decide +kernel
theorem dX0_blow_46 : decode cX0_blow 46 = .ok (.iadd, 1) := by decide +kernel
theorem dX0_blow_47 : decode cX0_blow 47 = .ok (.iastore, 1) := by decide +kernel
theorem dX0_blow_48 : decode cX0_blow 48 = .ok (.aload_n 0, 1) := by decide +kernel
theorem dX0_blow_49 : decode cX0_blow 49 = .ok (.getfield 11, 3) := by decide +kernel
theorem dX0_blow_52 : decode cX0_blow 52 = .ok (.bipush 87, 2) := by decide +kernel
theorem dX0_blow_54 : decode cX0_blow 54 = .ok (.iload_n 1, 1) := by decide +kernel
theorem dX0_blow_55 : decode cX0_blow 55 = .ok (.iadd, 1) := by decide +kernel
theorem dX0_blow_56 : decode cX0_blow 56 = .ok (.dup2, 1) := by decide +kernel
theorem dX0_blow_57 : decode cX0_blow 57 = .ok (.iaload, 1) := by decide +kernel
theorem dX0_blow_58 : decode cX0_blow 58 = .ok (.iconst 1, 1) := by decide +kernel
theorem dX0_blow_59 : decode cX0_blow 59 = .ok (.iadd, 1) := by decide +kernel
theorem dX0_blow_60 : decode cX0_blow 60 = .ok (.iastore, 1) := by decide +kernel
theorem dX0_blow_61 : decode cX0_blow 61 = .ok (.aload_n 0, 1) := by decide +kernel
theorem dX0_blow_62 : decode cX0_blow 62 = .ok (.getfield 11, 3) := by decide +kernel
theorem dX0_blow_65 : decode cX0_blow 65 = .ok (.bipush 9, 2) := by decide +kernel
theorem dX0_blow_67 : decode cX0_blow 67 = .ok (.aload_n 0, 1) := by decide +kernel
theorem dX0_blow_68 : decode cX0_blow 68 = .ok (.getfield 11, 3) := by decide +kernel
theorem dX0_blow_71 : decode cX0_blow 71 = .ok (.bipush 10, 2) := by decide +kernel
theorem dX0_blow_73 : decode cX0_blow 73 = .ok (.bipush 7, 2) := by decide +kernel
theorem dX0_blow_75 : decode cX0_blow 75 = .ok (.invokestatic 18, 3) := by decide +kernel
theorem dX0_blow_78 : decode cX0_blow 78 = .ok (.aload_n 0, 1) := by decide +kernel
theorem dX0_blow_79 : decode cX0_blow 79 = .ok (.getfield 11, 3) := by decide +kernel
theorem dX0_blow_82 : decode cX0_blow 82 = .ok (.bipush 9, 2) := by decide +kernel
theorem dX0_blow_84 : decode cX0_blow 84 = .ok (.iload_n 1, 1) := by decide +kernel
theorem dX0_blow_85 : decode cX0_blow 85 = .ok (.iastore, 1) := by decide +kernel
theorem dX0_blow_86 : decode cX0_blow 86 = .ok (.return_, 1) := by decide +kernel
theorem dX0_aboutBoard_0 : decode cX0_aboutBoard 0 = .ok (.aload_n 0, 1) := by decide +kernel
theorem dX0_aboutBoard_1 : decode cX0_aboutBoard 1 = .ok (.iload_n 1, 1) := by decide +kernel
theorem dX0_aboutBoard_2 : decode cX0_aboutBoard 2 = .ok (.invokevirtual 24, 3) := by decide +kernel
theorem dX0_aboutBoard_5 : decode cX0_aboutBoard 5 = .ok (.ifCond .ne 5, 3) := by decide +kernel
theorem dX0_aboutBoard_8 : decode cX0_aboutBoard 8 = .ok (.iconst (-1), 1) := by decide +kernel
theorem dX0_aboutBoard_9 : decode cX0_aboutBoard 9 = .ok (.ireturn, 1) := by decide +kernel
theorem dX0_aboutBoard_10 : decode cX0_aboutBoard 10 = .ok (.iload_n 2, 1) := by decide +kernel
theorem dX0_aboutBoard_11 : decode cX0_aboutBoard 11 = .ok (.tableswitch 173 0 11 #[61, 80, 90, 100, 106, 112, 122, 128, 138, 147, 153, 163], 61) := by decide +kernel
theorem dX0_aboutBoard_72 : decode cX0_aboutBoard 72 = .ok (.iload_n 1, 1) := by decide +kernel
theorem dX0_aboutBoard_73 : decode cX0_aboutBoard 73 = .ok (.ifCond .ne 8, 3) := by decide +kernel
theorem dX0_aboutBoard_76 : decode cX0_aboutBoard 76 = .ok (.bipush (-6), 2) := by decide +kernel
theorem dX0_aboutBoard_78 : decode cX0_aboutBoard 78 = .ok (.goto 12, 3) := by decide +kernel
theorem dX0_aboutBoard_81 : decode cX0_aboutBoard 81 = .ok (.aload_n 0, 1) := by decide +kernel
theorem dX0_aboutBoard_82 : decode cX0_aboutBoard 82 = .ok (.getfield 11, 3) := by decide +kernel
theorem dX0_aboutBoard_85 : decode cX0_aboutBoard 85 = .ok (.bipush 17, 2) := by decide +kernel
theorem dX0_aboutBoard_87 : decode cX0_aboutBoard 87 = .ok (.iload_n 1, 1) := by decide +kernel
theorem dX0_aboutBoard_88 : decode cX0_aboutBoard 88 = .ok (.iadd, 1) := by decide +kernel
theorem dX0_aboutBoard_89 : decode cX0_aboutBoard 89 = .ok (.iaload, 1) := by decide +kernel
theorem dX0_aboutBoard_90 : decode cX0_aboutBoard 90 = .ok (.ireturn, 1) := by decide +kernel
theorem dX0_aboutBoard_91 : decode cX0_aboutBoard 91 = .ok (.aload_n 0, 1) := by decide +kernel
theorem dX0_aboutBoard_92 : decode cX0_aboutBoard 92 = .ok (.getfield 11, 3) := by decide +kernel
theorem dX0_aboutBoard_95 : decode cX0_aboutBoard 95 = .ok (.bipush 27, 2) := by decide +kernel
theorem dX0_aboutBoard_97 : decode cX0_aboutBoard 97 = .ok (.iload_n 1, 1) := by decide +kernel
theorem dX0_aboutBoard_98 : decode cX0_aboutBoard 98 = .ok (.iadd, 1) := by decide +kernel
theorem dX0_aboutBoard_99 : decode cX0_aboutBoard 99 = .ok (.iaload, 1) := by decide +kernel
theorem dX0_aboutBoard_100 : decode cX0_aboutBoard 100 = .ok (.ireturn, 1) := by decide +kernel
theorem dX0_aboutBoard_101 : decode cX0_aboutBoard 101 = .ok (.aload_n 0, 1) := by decide +kernel
theorem dX0_aboutBoard_102 : decode cX0_aboutBoard 102 = .ok (.getfield 11, 3) := by decide +kernel
theorem dX0_aboutBoard_105 : decode cX0_aboutBoard 105 = .ok (.bipush 37, 2) := by decide +kernel
theorem dX0_aboutBoard_107 : decode cX0_aboutBoard 107 = .ok (.iload_n 1, 1) := by decide +kernel
theorem dX0_aboutBoard_108 : decode cX0_aboutBoard 108 = .ok (.iadd, 1) := by decide +kernel
theorem dX0_aboutBoard_109 : decode cX0_aboutBoard 109 = .ok (.iaload, 1) := by decide +kernel
theorem dX0_aboutBoard_110 : decode cX0_aboutBoard 110 = .ok (.ireturn, 1) := by decide +kernel
theorem dX0_aboutBoard_111 : decode cX0_aboutBoard 111 = .ok (.aload_n 0, 1) := by decide +kernel
theorem dX0_aboutBoard_112 : decode cX0_aboutBoard 112 = .ok (.iload_n 1, 1) := by decide +kernel
theorem dX0_aboutBoard_113 : decode cX0_aboutBoard 113 = .ok (.invokevirtual 67, 3) := by decide +kernel
theorem dX0_aboutBoard_116 : decode cX0_aboutBoard 116 = .ok (.ireturn, 1) := by decide +kernel
theorem dX0_aboutBoard_117 : decode cX0_aboutBoard 117 = .ok (.aload_n 0, 1) := by decide +kernel
theorem dX0_aboutBoard_118 : decode cX0_aboutBoard 118 = .ok (.iload_n 1, 1) := by decide +kernel
theorem dX0_aboutBoard_119 : decode cX0_aboutBoard 119 = .ok (.invokevirtual 112, 3) := by decide +kernel
theorem dX0_aboutBoard_122 : decode cX0_aboutBoard 122 = .ok (.ireturn, 1) := by decide +kernel
theorem dX0_aboutBoard_123 : decode cX0_aboutBoard 123 = .ok (.aload_n 0, 1) := by decide +kernel
theorem dX0_aboutBoard_124 : decode cX0_aboutBoard 124 = .ok (.getfield 11, 3) := by decide +kernel
theorem dX0_aboutBoard_127 : decode cX0_aboutBoard 127 = .ok (.bipush 57, 2) := by decide +kernel
theorem dX0_aboutBoard_129 : decode cX0_aboutBoard 129 = .ok (.iload_n 1, 1) := by decide +kernel
theorem dX0_aboutBoard_130 : decode cX0_aboutBoard 130 = .ok (.iadd, 1) := by decide +kernel
theorem dX0_aboutBoard_131 : decode cX0_aboutBoard 131 = .ok (.iaload, 1) := by decide +kernel
theorem dX0_aboutBoard_132 : decode cX0_aboutBoard 132 = .ok (.ireturn, 1) := by decide +kernel
theorem dX0_aboutBoard_133 : decode cX0_aboutBoard 133 = .ok (.aload_n 0, 1) := by decide +kernel
theorem dX0_aboutBoard_134 : decode cX0_aboutBoard 134 = .ok (.iload_n 1, 1) := by decide +kernel
theorem dX0_aboutBoard_135 : decode cX0_aboutBoard 135 = .ok (.invokevirtual 106, 3) := by decide +kernel
theorem dX0_aboutBoard_138 : decode cX0_aboutBoard 138 = .ok (.ireturn, 1) := by decide +kernel
theorem dX0_aboutBoard_139 : decode cX0_aboutBoard 139 = .ok (.aload_n 0, 1) := by decide +kernel
theorem dX0_aboutBoard_140 : decode cX0_aboutBoard 140 = .ok (.getfield 11, 3) := by decide +kernel
theorem dX0_aboutBoard_143 : decode cX0_aboutBoard 143 = .ok (.bipush 67, 2) := by decide +kernel
theorem dX0_aboutBoard_145 : decode cX0_aboutBoard 145 = .ok (.iload_n 1, 1) := by decide +kernel
theorem dX0_aboutBoard_146 : decode cX0_aboutBoard 146 = .ok (.iadd, 1) := by decide +kernel
theorem dX0_aboutBoard_147 : decode cX0_aboutBoard 147 = .ok (.iaload, 1) := by decide +kernel
theorem dX0_aboutBoard_148 : decode cX0_aboutBoard 148 = .ok (.ireturn, 1) := by decide +kernel
theorem dX0_aboutBoard_149 : decode cX0_aboutBoard 149 = .ok (.aload_n 0, 1) := by decide +kernel
theorem dX0_aboutBoard_150 : decode cX0_aboutBoard 150 = .ok (.invokevirtual 87, 3) := by decide +kernel
theorem dX0_aboutBoard_153 : decode cX0_aboutBoard 153 = .ok (.iload_n 1, 1) := by decide +kernel
theorem dX0_aboutBoard_154 : decode cX0_aboutBoard 154 = .ok (.ishr, 1) := by decide +kernel
theorem dX0_aboutBoard_155 : decode cX0_aboutBoard 155 = .ok (.iconst 1, 1) := by decide +kernel
theorem dX0_aboutBoard_156 : decode cX0_aboutBoard 156 = .ok (.iand, 1) := by decide +kernel
theorem dX0_aboutBoard_157 : decode cX0_aboutBoard 157 = .ok (.ireturn, 1) := by decide +kernel
theorem dX0_aboutBoard_158 : decode cX0_aboutBoard 158 = .ok (.aload_n 0, 1) := by decide +kernel
theorem dX0_aboutBoard_159 : decode cX0_aboutBoard 159 = .ok (.iload_n 1, 1) := by decide +kernel
theorem dX0_aboutBoard_160 : decode cX0_aboutBoard 160 = .ok (.invokevirtual 115, 3) := by decide +kernel
theorem dX0_aboutBoard_163 : decode cX0_aboutBoard 163 = .ok (.ireturn, 1) := by decide +kernel
theorem dX0_aboutBoard_164 : decode cX0_aboutBoard 164 = .ok (.aload_n 0, 1) := by decide +kernel
theorem dX0_aboutBoard_165 : decode cX0_aboutBoard 165 = .ok (.getfield 11, 3) := by decide +kernel
theorem dX0_aboutBoard_168 : decode cX0_aboutBoard 168 = .ok (.bipush 47, 2) := by decide +kernel
theorem dX0_aboutBoard_170 : decode cX0_aboutBoard 170 = .ok (.iload_n 1, 1) := by decide +kernel
theorem dX0_aboutBoard_171 : decode cX0_aboutBoard 171 = .ok (.iadd, 1) := by decide +kernel
theorem dX0_aboutBoard_172 : decode cX0_aboutBoard 172 = .ok (.iaload, 1) := by decide +kernel
theorem dX0_aboutBoard_173 : decode cX0_aboutBoard 173 = .ok (.ireturn, 1) := by decide +kernel
theorem dX0_aboutBoard_174 : decode cX0_aboutBoard 174 = .ok (.aload_n 0, 1) := by decide +kernel
theorem dX0_aboutBoard_175 : decode cX0_aboutBoard 175 = .ok (.getfield 11, 3) := by decide +kernel
theorem dX0_aboutBoard_178 : decode cX0_aboutBoard 178 = .ok (.bipush 87, 2) := by decide +kernel
theorem dX0_aboutBoard_180 : decode cX0_aboutBoard 180 = .ok (.iload_n 1, 1) := by decide +kernel
theorem dX0_aboutBoard_181 : decode cX0_aboutBoard 181 = .ok (.iadd, 1) := by decide +kernel
theorem dX0_aboutBoard_182 : decode cX0_aboutBoard 182 = .ok (.iaload, 1) := by decide +kernel
theorem dX0_aboutBoard_183 : decode cX0_aboutBoard 183 = .ok (.ireturn, 1) := by decide +kernel
theorem dX0_aboutBoard_184 : decode cX0_aboutBoard 184 = .ok (.bipush (-2), 2) := by decide +kernel
theorem dX0_aboutBoard_186 : decode cX0_aboutBoard 186 = .ok (.ireturn, 1) := by decide +kernel
theorem dX0_aboutLoad_0 : decode cX0_aboutLoad 0 = .ok (.aload_n 0, 1) := by decide +kernel
theorem dX0_aboutLoad_1 : decode cX0_aboutLoad 1 = .ok (.iload_n 1, 1) := by decide +kernel
theorem dX0_aboutLoad_2 : decode cX0_aboutLoad 2 = .ok (.invokevirtual 42, 3) := by decide +kernel
theorem dX0_aboutLoad_5 : decode cX0_aboutLoad 5 = .ok (.ifCond .ne 5, 3) := by decide +kernel
theorem dX0_aboutLoad_8 : decode cX0_aboutLoad 8 = .ok (.iconst (-1), 1) := by decide +kernel
theorem dX0_aboutLoad_9 : decode cX0_aboutLoad 9 = .ok (.ireturn, 1) := by decide +kernel
theorem dX0_aboutLoad_10 : decode cX0_aboutLoad 10 = .ok (.iload_n 2, 1) := by decide +kernel
theorem dX0_aboutLoad_11 : decode cX0_aboutLoad 11 = .ok (.tableswitch 74 0 3 #[29, 39, 49, 61], 29) := by decide +kernel
theorem dX0_aboutLoad_40 : decode cX0_aboutLoad 40 = .ok (.aload_n 0, 1) := by decide +kernel
theorem dX0_aboutLoad_41 : decode cX0_aboutLoad 41 = .ok (.getfield 11, 3) := by decide +kernel
theorem dX0_aboutLoad_44 : decode cX0_aboutLoad 44 = .ok (.bipush 97, 2) := by decide +kernel
theorem dX0_aboutLoad_46 : decode cX0_aboutLoad 46 = .ok (.iload_n 1, 1) := by decide +kernel
theorem dX0_aboutLoad_47 : decode cX0_aboutLoad 47 = .ok (.iadd, 1) := by decide +kernel
theorem dX0_aboutLoad_48 : decode cX0_aboutLoad 48 = .ok (.iaload, 1) := by decide +kernel
theorem dX0_aboutLoad_49 : decode cX0_aboutLoad 49 = .ok (.ireturn, 1) := by decide +kernel
theorem dX0_aboutLoad_50 : decode cX0_aboutLoad 50 = .ok (.aload_n 0, 1) := by decide +kernel
theorem dX0_aboutLoad_51 : decode cX0_aboutLoad 51 = .ok (.getfield 11, 3) := by decide +kernel
theorem dX0_aboutLoad_54 : decode cX0_aboutLoad 54 = .ok (.bipush 111, 2) := by decide +kernel
theorem dX0_aboutLoad_56 : decode cX0_aboutLoad 56 = .ok (.iload_n 1, 1) := by decide +kernel
theorem dX0_aboutLoad_57 : decode cX0_aboutLoad 57 = .ok (.iadd, 1) := by decide +kernel
theorem dX0_aboutLoad_58 : decode cX0_aboutLoad 58 = .ok (.iaload, 1) := by decide +kernel
theorem dX0_aboutLoad_59 : decode cX0_aboutLoad 59 = .ok (.ireturn, 1) := by decide +kernel
theorem dX0_aboutLoad_60 : decode cX0_aboutLoad 60 = .ok (.aload_n 0, 1) := by decide +kernel
theorem dX0_aboutLoad_61 : decode cX0_aboutLoad 61 = .ok (.getfield 11, 3) := by decide +kernel
theorem dX0_aboutLoad_64 : decode cX0_aboutLoad 64 = .ok (.bipush 6, 2) := by decide +kernel
theorem dX0_aboutLoad_66 : decode cX0_aboutLoad 66 = .ok (.iaload, 1) := by decide +kernel
theorem dX0_aboutLoad_67 : decode cX0_aboutLoad 67 = .ok (.iload_n 1, 1) := by decide +kernel
theorem dX0_aboutLoad_68 : decode cX0_aboutLoad 68 = .ok (.ishr, 1) := by decide +kernel
theorem dX0_aboutLoad_69 : decode cX0_aboutLoad 69 = .ok (.iconst 1, 1) := by decide +kernel
theorem dX0_aboutLoad_70 : decode cX0_aboutLoad 70 = .ok (.iand, 1) := by decide +kernel
theorem dX0_aboutLoad_71 : decode cX0_aboutLoad 71 = .ok (.ireturn, 1) := by decide +kernel
theorem dX0_aboutLoad_72 : decode cX0_aboutLoad 72 = .ok (.aload_n 0, 1) := by decide +kernel
theorem dX0_aboutLoad_73 : decode cX0_aboutLoad 73 = .ok (.aload_n 0, 1) := by decide +kernel
theorem dX0_aboutLoad_74 : decode cX0_aboutLoad 74 = .ok (.invokevirtual 118, 3) := by decide +kernel
theorem dX0_aboutLoad_77 : decode cX0_aboutLoad 77 = .ok (.invokevirtual 121, 3) := by decide +kernel
theorem dX0_aboutLoad_80 : decode cX0_aboutLoad 80 = .ok (.iload_n 1, 1) := by decide +kernel
theorem dX0_aboutLoad_81 : decode cX0_aboutLoad 81 = .ok (.ishr, 1) := by decide +kernel
theorem dX0_aboutLoad_82 : decode cX0_aboutLoad 82 = .ok (.iconst 1, 1) := by decide +kernel
theorem dX0_aboutLoad_83 : decode cX0_aboutLoad 83 = .ok (.iand, 1) := by decide +kernel
theorem dX0_aboutLoad_84 : decode cX0_aboutLoad 84 = .ok (.ireturn, 1) := by decide +kernel
theorem dX0_aboutLoad_85 : decode cX0_aboutLoad 85 = .ok (.bipush (-2), 2) := by decide +kernel
theorem dX0_aboutLoad_87 : decode cX0_aboutLoad 87 = .ok (.ireturn, 1) := by decide +kernel
theorem dX0_aboutHouse_0 : decode cX0_aboutHouse 0 = .ok (.iload_n 1, 1) := by decide +kernel
theorem dX0_aboutHouse_1 : decode cX0_aboutHouse 1 = .ok (.tableswitch 146 0 11 #[63, 70, 77, 84, 89, 98, 106, 111, 119, 125, 132, 139], 63) := by decide +kernel
theorem dX0_aboutHouse_64 : decode cX0_aboutHouse 64 = .ok (.aload_n 0, 1) := by decide +kernel
theorem dX0_aboutHouse_65 : decode cX0_aboutHouse 65 = .ok (.getfield 11, 3) := by decide +kernel
theorem dX0_aboutHouse_68 : decode cX0_aboutHouse 68 = .ok (.iconst 3, 1) := by decide +kernel
theorem dX0_aboutHouse_69 : decode cX0_aboutHouse 69 = .ok (.iaload, 1) := by decide +kernel
theorem dX0_aboutHouse_70 : decode cX0_aboutHouse 70 = .ok (.ireturn, 1) := by decide +kernel
theorem dX0_aboutHouse_71 : decode cX0_aboutHouse 71 = .ok (.aload_n 0, 1) := by decide +kernel
theorem dX0_aboutHouse_72 : decode cX0_aboutHouse 72 = .ok (.getfield 11, 3) := by decide +kernel
theorem dX0_aboutHouse_75 : decode cX0_aboutHouse 75 = .ok (.iconst 4, 1) := by decide +kernel
theorem dX0_aboutHouse_76 : decode cX0_aboutHouse 76 = .ok (.iaload, 1) := by decide +kernel
theorem dX0_aboutHouse_77 : decode cX0_aboutHouse 77 = .ok (.ireturn, 1) := by decide +kernel
theorem dX0_aboutHouse_78 : decode cX0_aboutHouse 78 = .ok (.aload_n 0, 1) := by decide +kernel
theorem dX0_aboutHouse_79 : decode cX0_aboutHouse 79 = .ok (.getfield 11, 3) := by decide +kernel
theorem dX0_aboutHouse_82 : decode cX0_aboutHouse 82 = .ok (.iconst 5, 1) := by decide +kernel
theorem dX0_aboutHouse_83 : decode cX0_aboutHouse 83 = .ok (.iaload, 1) := by decide +kernel
theorem dX0_aboutHouse_84 : decode cX0_aboutHouse 84 = .ok (.ireturn, 1) := by decide +kernel
theorem dX0_aboutHouse_85 : decode cX0_aboutHouse 85 = .ok (.aload_n 0, 1) := by decide +kernel
theorem dX0_aboutHouse_86 : decode cX0_aboutHouse 86 = .ok (.invokevirtual 87, 3) := by decide +kernel
theorem dX0_aboutHouse_89 : decode cX0_aboutHouse 89 = .ok (.ireturn, 1) := by decide +kernel
theorem dX0_aboutHouse_90 : decode cX0_aboutHouse 90 = .ok (.aload_n 0, 1) := by decide +kernel
theorem dX0_aboutHouse_91 : decode cX0_aboutHouse 91 = .ok (.aload_n 0, 1) := by decide +kernel
theorem dX0_aboutHouse_92 : decode cX0_aboutHouse 92 = .ok (.invokevirtual 118, 3) := by decide +kernel
theorem dX0_aboutHouse_95 : decode cX0_aboutHouse 95 = .ok (.invokevirtual 121, 3) := by decide +kernel
theorem dX0_aboutHouse_98 : decode cX0_aboutHouse 98 = .ok (.ireturn, 1) := by decide +kernel
theorem dX0_aboutHouse_99 : decode cX0_aboutHouse 99 = .ok (.aload_n 0, 1) := by decide +kernel
theorem dX0_aboutHouse_100 : decode cX0_aboutHouse 100 = .ok (.getfield 11, 3) := by decide +kernel
theorem dX0_aboutHouse_103 : decode cX0_aboutHouse 103 = .ok (.bipush 7, 2) := by decide +kernel
theorem dX0_aboutHouse_105 : decode cX0_aboutHouse 105 = .ok (.iaload, 1) := by decide +kernel
theorem dX0_aboutHouse_106 : decode cX0_aboutHouse 106 = .ok (.ireturn, 1) := by decide +kernel
theorem dX0_aboutHouse_107 : decode cX0_aboutHouse 107 = .ok (.aload_n 0, 1) := by decide +kernel
theorem dX0_aboutHouse_108 : decode cX0_aboutHouse 108 = .ok (.invokevirtual 124, 3) := by decide +kernel
theorem dX0_aboutHouse_111 : decode cX0_aboutHouse 111 = .ok (.ireturn, 1) := by decide +kernel
theorem dX0_aboutHouse_112 : decode cX0_aboutHouse 112 = .ok (.aload_n 0, 1) := by decide +kernel
theorem dX0_aboutHouse_113 : decode cX0_aboutHouse 113 = .ok (.getfield 11, 3) := by decide +kernel
theorem dX0_aboutHouse_116 : decode cX0_aboutHouse 116 = .ok (.bipush 8, 2) := by decide +kernel
theorem dX0_aboutHouse_118 : decode cX0_aboutHouse 118 = .ok (.iaload, 1) := by decide +kernel
theorem dX0_aboutHouse_119 : decode cX0_aboutHouse 119 = .ok (.ireturn, 1) := by decide +kernel
theorem dX0_aboutHouse_120 : decode cX0_aboutHouse 120 = .ok (.aload_n 0, 1) := by decide +kernel
theorem dX0_aboutHouse_121 : decode cX0_aboutHouse 121 = .ok (.iconst 0, 1) := by decide +kernel
theorem dX0_aboutHouse_122 : decode cX0_aboutHouse 122 = .ok (.invokevirtual 112, 3) := by decide +kernel
theorem dX0_aboutHouse_125 : decode cX0_aboutHouse 125 = .ok (.ireturn, 1) := by decide +kernel
theorem dX0_aboutHouse_126 : decode cX0_aboutHouse 126 = .ok (.aload_n 0, 1) := by decide +kernel
theorem dX0_aboutHouse_127 : decode cX0_aboutHouse 127 = .ok (.getfield 11, 3) := by decide +kernel
theorem dX0_aboutHouse_130 : decode cX0_aboutHouse 130 = .ok (.iconst 0, 1) := by decide +kernel
theorem dX0_aboutHouse_131 : decode cX0_aboutHouse 131 = .ok (.iaload, 1) := by decide +kernel
theorem dX0_aboutHouse_132 : decode cX0_aboutHouse 132 = .ok (.ireturn, 1) := by decide +kernel
theorem dX0_aboutHouse_133 : decode cX0_aboutHouse 133 = .ok (.aload_n 0, 1) := by decide +kernel
theorem dX0_aboutHouse_134 : decode cX0_aboutHouse 134 = .ok (.getfield 11, 3) := by decide +kernel
theorem dX0_aboutHouse_137 : decode cX0_aboutHouse 137 = .ok (.iconst 1, 1) := by decide +kernel
theorem dX0_aboutHouse_138 : decode cX0_aboutHouse 138 = .ok (.iaload, 1) := by decide +kernel
theorem dX0_aboutHouse_139 : decode cX0_aboutHouse 139 = .ok (.ireturn, 1) := by decide +kernel
theorem dX0_aboutHouse_140 : decode cX0_aboutHouse 140 = .ok (.aload_n 0, 1) := by decide +kernel
theorem dX0_aboutHouse_141 : decode cX0_aboutHouse 141 = .ok (.getfield 11, 3) := by decide +kernel
theorem dX0_aboutHouse_144 : decode cX0_aboutHouse 144 = .ok (.iconst 2, 1) := by decide +kernel
theorem dX0_aboutHouse_145 : decode cX0_aboutHouse 145 = .ok (.iaload, 1) := by decide +kernel
theorem dX0_aboutHouse_146 : decode cX0_aboutHouse 146 = .ok (.ireturn, 1) := by decide +kernel
theorem dX0_aboutHouse_147 : decode cX0_aboutHouse 147 = .ok (.bipush (-2), 2) := by decide +kernel
theorem dX0_aboutHouse_149 : decode cX0_aboutHouse 149 = .ok (.ireturn, 1) := by decide +kernel
theorem dX0_latestBlown_0 : decode cX0_latestBlown 0 = .ok (.iload_n 1, 1) := by decide +kernel
theorem dX0_latestBlown_1 : decode cX0_latestBlown 1 = .ok (.ifCond .lt 20, 3) := by decide +kernel
theorem dX0_latestBlown_4 : decode cX0_latestBlown 4 = .ok (.iload_n 1, 1) := by decide +kernel
theorem dX0_latestBlown_5 : decode cX0_latestBlown 5 = .ok (.bipush 8, 2) := by decide +kernel
theorem dX0_latestBlown_7 : decode cX0_latestBlown 7 = .ok (.if_icmp .ge 14, 3) := by decide +kernel
theorem dX0_latestBlown_10 : decode cX0_latestBlown 10 = .ok (.iload_n 1, 1) := by decide +kernel
theorem dX0_latestBlown_11 : decode cX0_latestBlown 11 = .ok (.aload_n 0, 1) := by decide +kernel
theorem dX0_latestBlown_12 : decode cX0_latestBlown 12 = .ok (.getfield 11, 3) := by decide +kernel
theorem dX0_latestBlown_15 : decode cX0_latestBlown 15 = .ok (.bipush 8, 2) := by decide +kernel
theorem dX0_latestBlown_17 : decode cX0_latestBlown 17 = .ok (.iaload, 1) := by decide +kernel
theorem dX0_latestBlown_18 : decode cX0_latestBlown 18 = .ok (.if_icmp .lt 5, 3) := by decide +kernel
theorem dX0_latestBlown_21 : decode cX0_latestBlown 21 = .ok (.iconst (-1), 1) := by decide +kernel
theorem dX0_latestBlown_22 : decode cX0_latestBlown 22 = .ok (.ireturn, 1) := by decide +kernel
theorem dX0_latestBlown_23 : decode cX0_latestBlown 23 = .ok (.aload_n 0, 1) := by decide +kernel
theorem dX0_latestBlown_24 : decode cX0_latestBlown 24 = .ok (.getfield 11, 3) := by decide +kernel
theorem dX0_latestBlown_27 : decode cX0_latestBlown 27 = .ok (.bipush 9, 2) := by decide +kernel
theorem dX0_latestBlown_29 : decode cX0_latestBlown 29 = .ok (.iload_n 1, 1) := by decide +kernel
theorem dX0_latestBlown_30 : decode cX0_latestBlown 30 = .ok (.iadd, 1) := by decide +kernel
theorem dX0_latestBlown_31 : decode cX0_latestBlown 31 = .ok (.iaload, 1) := by decide +kernel
theorem dX0_latestBlown_32 : decode cX0_latestBlown 32 = .ok (.ireturn, 1) := by decide +kernel
theorem dX0_fedThrough_0 : decode cX0_fedThrough 0 = .ok (.aload_n 0, 1) := by decide +kernel
theorem dX0_fedThrough_1 : decode cX0_fedThrough 1 = .ok (.iload_n 1, 1) := by decide +kernel
theorem dX0_fedThrough_2 : decode cX0_fedThrough 2 = .ok (.invokevirtual 24, 3) := by decide +kernel
theorem dX0_fedThrough_5 : decode cX0_fedThrough 5 = .ok (.ifCond .ne 5, 3) := by decide +kernel
theorem dX0_fedThrough_8 : decode cX0_fedThrough 8 = .ok (.iconst 0, 1) := by decide +kernel
theorem dX0_fedThrough_9 : decode cX0_fedThrough 9 = .ok (.ireturn, 1) := by decide +kernel
theorem dX0_fedThrough_10 : decode cX0_fedThrough 10 = .ok (.iconst 1, 1) := by decide +kernel
theorem dX0_fedThrough_11 : decode cX0_fedThrough 11 = .ok (.iload_n 1, 1) := by decide +kernel
theorem dX0_fedThrough_12 : decode cX0_fedThrough 12 = .ok (.ishl, 1) := by decide +kernel
theorem dX0_fedThrough_13 : decode cX0_fedThrough 13 = .ok (.istore_n 2, 1) := by decide +kernel
theorem dX0_fedThrough_14 : decode cX0_fedThrough 14 = .ok (.iload_n 1, 1) := by decide +kernel
theorem dX0_fedThrough_15 : decode cX0_fedThrough 15 = .ok (.iconst 1, 1) := by decide +kernel
theorem dX0_fedThrough_16 : decode cX0_fedThrough 16 = .ok (.iadd, 1) := by decide +kernel
theorem dX0_fedThrough_17 : decode cX0_fedThrough 17 = .ok (.istore_n 3, 1) := by decide +kernel
theorem dX0_fedThrough_18 : decode cX0_fedThrough 18 = .ok (.iload_n 3, 1) := by decide +kernel
theorem dX0_fedThrough_19 : decode cX0_fedThrough 19 = .ok (.aload_n 0, 1) := by decide +kernel
theorem dX0_fedThrough_20 : decode cX0_fedThrough 20 = .ok (.getfield 11, 3) := by decide +kernel
theorem dX0_fedThrough_23 : decode cX0_fedThrough 23 = .ok (.iconst 4, 1) := by decide +kernel
theorem dX0_fedThrough_24 : decode cX0_fedThrough 24 = .ok (.iaload, 1) := by decide +kernel
theorem dX0_fedThrough_25 : decode cX0_fedThrough 25 = .ok (.if_icmp .ge 31, 3) := by decide +kernel
theorem dX0_fedThrough_28 : decode cX0_fedThrough 28 = .ok (.iload_n 2, 1) := by decide +kernel
theorem dX0_fedThrough_29 : decode cX0_fedThrough 29 = .ok (.aload_n 0, 1) := by decide +kernel
theorem dX0_fedThrough_30 : decode cX0_fedThrough 30 = .ok (.getfield 11, 3) := by decide +kernel
theorem dX0_fedThrough_33 : decode cX0_fedThrough 33 = .ok (.bipush 17, 2) := by decide +kernel
theorem dX0_fedThrough_35 : decode cX0_fedThrough 35 = .ok (.iload_n 3, 1) := by decide +kernel
theorem dX0_fedThrough_36 : decode cX0_fedThrough 36 = .ok (.iadd, 1) := by decide +kernel
theorem dX0_fedThrough_37 : decode cX0_fedThrough 37 = .ok (.iaload, 1) := by decide +kernel
theorem dX0_fedThrough_38 : decode cX0_fedThrough 38 = .ok (.ishr, 1) := by decide +kernel
theorem dX0_fedThrough_39 : decode cX0_fedThrough 39 = .ok (.iconst 1, 1) := by decide +kernel
theorem dX0_fedThrough_40 : decode cX0_fedThrough 40 = .ok (.iand, 1) := by decide +kernel
theorem dX0_fedThrough_41 : decode cX0_fedThrough 41 = .ok (.ifCond .eq 9, 3) := by decide +kernel
theorem dX0_fedThrough_44 : decode cX0_fedThrough 44 = .ok (.iload_n 2, 1) := by decide +kernel
theorem dX0_fedThrough_45 : decode cX0_fedThrough 45 = .ok (.iconst 1, 1) := by decide +kernel
theorem dX0_fedThrough_46 : decode cX0_fedThrough 46 = .ok (.iload_n 3, 1) := by decide +kernel
theorem dX0_fedThrough_47 : decode cX0_fedThrough 47 = .ok (.ishl, 1) := by decide +kernel
theorem dX0_fedThrough_48 : decode cX0_fedThrough 48 = .ok (.ior, 1) := by decide +kernel
theorem dX0_fedThrough_49 : decode cX0_fedThrough 49 = .ok (.istore_n 2, 1) := by decide +kernel
theorem dX0_fedThrough_50 : decode cX0_fedThrough 50 = .ok (.iinc 3 1, 3) := by decide +kernel
theorem dX0_fedThrough_53 : decode cX0_fedThrough 53 = .ok (.goto (-35), 3) := by decide +kernel
theorem dX0_fedThrough_56 : decode cX0_fedThrough 56 = .ok (.iload_n 2, 1) := by decide +kernel
theorem dX0_fedThrough_57 : decode cX0_fedThrough 57 = .ok (.ireturn, 1) := by decide +kernel
theorem dX0_workingLoadsAt_0 : decode cX0_workingLoadsAt 0 = .ok (.iload_n 1, 1) := by decide +kernel
theorem dX0_workingLoadsAt_1 : decode cX0_workingLoadsAt 1 = .ok (.aload_n 0, 1) := by decide +kernel
theorem dX0_workingLoadsAt_2 : decode cX0_workingLoadsAt 2 = .ok (.invokevirtual 87, 3) := by decide +kernel
theorem dX0_workingLoadsAt_5 : decode cX0_workingLoadsAt 5 = .ok (.iconst (-1), 1) := by decide +kernel
theorem dX0_workingLoadsAt_6 : decode cX0_workingLoadsAt 6 = .ok (.ixor, 1) := by decide +kernel
theorem dX0_workingLoadsAt_7 : decode cX0_workingLoadsAt 7 = .ok (.iand, 1) := by decide +kernel
theorem dX0_workingLoadsAt_8 : decode cX0_workingLoadsAt 8 = .ok (.istore_n 2, 1) := by decide +kernel
theorem dX0_workingLoadsAt_9 : decode cX0_workingLoadsAt 9 = .ok (.iconst 0, 1) := by decide +kernel
theorem dX0_workingLoadsAt_10 : decode cX0_workingLoadsAt 10 = .ok (.istore_n 3, 1) := by decide +kernel
theorem dX0_workingLoadsAt_11 : decode cX0_workingLoadsAt 11 = .ok (.iconst 0, 1) := by decide +kernel
theorem dX0_workingLoadsAt_12 : decode cX0_workingLoadsAt 12 = .ok (.istore 4, 2) := by decide +kernel
theorem dX0_workingLoadsAt_14 : decode cX0_workingLoadsAt 14 = .ok (.iload 4, 2) := by decide +kernel
theorem dX0_workingLoadsAt_16 : decode cX0_workingLoadsAt 16 = .ok (.aload_n 0, 1) := by decide +kernel
theorem dX0_workingLoadsAt_17 : decode cX0_workingLoadsAt 17 = .ok (.getfield 11, 3) := by decide +kernel
theorem dX0_workingLoadsAt_20 : decode cX0_workingLoadsAt 20 = .ok (.iconst 5, 1) := by decide +kernel
theorem dX0_workingLoadsAt_21 : decode cX0_workingLoadsAt 21 = .ok (.iaload, 1) := by decide +kernel
theorem dX0_workingLoadsAt_22 : decode cX0_workingLoadsAt 22 = .ok (.if_icmp .ge 33, 3) := by decide +kernel
theorem dX0_workingLoadsAt_25 : decode cX0_workingLoadsAt 25 = .ok (.iload_n 2, 1) := by decide +kernel
theorem dX0_workingLoadsAt_26 : decode cX0_workingLoadsAt 26 = .ok (.aload_n 0, 1) := by decide +kernel
theorem dX0_workingLoadsAt_27 : decode cX0_workingLoadsAt 27 = .ok (.getfield 11, 3) := by decide +kernel
theorem dX0_workingLoadsAt_30 : decode cX0_workingLoadsAt 30 = .ok (.bipush 97, 2) := by decide +kernel
theorem dX0_workingLoadsAt_32 : decode cX0_workingLoadsAt 32 = .ok (.iload 4, 2) := by decide +kernel
theorem dX0_workingLoadsAt_34 : decode cX0_workingLoadsAt 34 = .ok (.iadd, 1) := by decide +kernel
theorem dX0_workingLoadsAt_35 : decode cX0_workingLoadsAt 35 = .ok (.iaload, 1) := by decide +kernel
theorem dX0_workingLoadsAt_36 : decode cX0_workingLoadsAt 36 = .ok (.ishr, 1) := by decide +kernel
theorem dX0_workingLoadsAt_37 : decode cX0_workingLoadsAt 37 = .ok (.iconst 1, 1) := by decide +kernel
theorem dX0_workingLoadsAt_38 : decode cX0_workingLoadsAt 38 = .ok (.iand, 1) := by decide +kernel
theorem dX0_workingLoadsAt_39 : decode cX0_workingLoadsAt 39 = .ok (.ifCond .eq 10, 3) := by decide +kernel
theorem dX0_workingLoadsAt_42 : decode cX0_workingLoadsAt 42 = .ok (.iload_n 3, 1) := by decide +kernel
theorem dX0_workingLoadsAt_43 : decode cX0_workingLoadsAt 43 = .ok (.iconst 1, 1) := by decide +kernel
theorem dX0_workingLoadsAt_44 : decode cX0_workingLoadsAt 44 = .ok (.iload 4, 2) := by decide +kernel
theorem dX0_workingLoadsAt_46 : decode cX0_workingLoadsAt 46 = .ok (.ishl, 1) := by decide +kernel
theorem dX0_workingLoadsAt_47 : decode cX0_workingLoadsAt 47 = .ok (.ior, 1) := by decide +kernel
theorem dX0_workingLoadsAt_48 : decode cX0_workingLoadsAt 48 = .ok (.istore_n 3, 1) := by decide +kernel
theorem dX0_workingLoadsAt_49 : decode cX0_workingLoadsAt 49 = .ok (.iinc 4 1, 3) := by decide +kernel
theorem dX0_workingLoadsAt_52 : decode cX0_workingLoadsAt 52 = .ok (.goto (-38), 3) := by decide +kernel
theorem dX0_workingLoadsAt_55 : decode cX0_workingLoadsAt 55 = .ok (.iload_n 3, 1) := by decide +kernel
theorem dX0_workingLoadsAt_56 : decode cX0_workingLoadsAt 56 = .ok (.aload_n 0, 1) := by decide +kernel
theorem dX0_workingLoadsAt_57 : decode cX0_workingLoadsAt 57 = .ok (.getfield 11, 3) := by decide +kernel
theorem dX0_workingLoadsAt_60 : decode cX0_workingLoadsAt 60 = .ok (.bipush 6, 2) := by decide +kernel
theorem dX0_workingLoadsAt_62 : decode cX0_workingLoadsAt 62 = .ok (.iaload, 1) := by decide +kernel
theorem dX0_workingLoadsAt_63 : decode cX0_workingLoadsAt 63 = .ok (.iand, 1) := by decide +kernel
theorem dX0_workingLoadsAt_64 : decode cX0_workingLoadsAt 64 = .ok (.ireturn, 1) := by decide +kernel
theorem dX0_allBoards_0 : decode cX0_allBoards 0 = .ok (.iconst 1, 1) := by decide +kernel
theorem dX0_allBoards_1 : decode cX0_allBoards 1 = .ok (.aload_n 0, 1) := by decide +kernel
theorem dX0_allBoards_2 : decode cX0_allBoards 2 = .ok (.getfield 11, 3) := by decide +kernel
theorem dX0_allBoards_5 : decode cX0_allBoards 5 = .ok (.iconst 4, 1) := by decide +kernel
theorem dX0_allBoards_6 : decode cX0_allBoards 6 = .ok (.iaload, 1) := by decide +kernel
theorem dX0_allBoards_7 : decode cX0_allBoards 7 = .ok (.ishl, 1) := by decide +kernel
theorem dX0_allBoards_8 : decode cX0_allBoards 8 = .ok (.iconst 1, 1) := by decide +kernel
theorem dX0_allBoards_9 : decode cX0_allBoards 9 = .ok (.isub, 1) := by decide +kernel
theorem dX0_allBoards_10 : decode cX0_allBoards 10 = .ok (.ireturn, 1) := by decide +kernel
theorem dX0_deadBoards_0 : decode cX0_deadBoards 0 = .ok (.aload_n 0, 1) := by decide +kernel
theorem dX0_deadBoards_1 : decode cX0_deadBoards 1 = .ok (.getfield 11, 3) := by decide +kernel
theorem dX0_deadBoards_4 : decode cX0_deadBoards 4 = .ok (.bipush 7, 2) := by decide +kernel
theorem dX0_deadBoards_6 : decode cX0_deadBoards 6 = .ok (.iaload, 1) := by decide +kernel
theorem dX0_deadBoards_7 : decode cX0_deadBoards 7 = .ok (.istore_n 1, 1) := by decide +kernel
theorem dX0_deadBoards_8 : decode cX0_deadBoards 8 = .ok (.iconst 1, 1) := by decide +kernel
theorem dX0_deadBoards_9 : decode cX0_deadBoards 9 = .ok (.istore_n 2, 1) := by decide +kernel
theorem dX0_deadBoards_10 : decode cX0_deadBoards 10 = .ok (.iload_n 2, 1) := by decide +kernel
theorem dX0_deadBoards_11 : decode cX0_deadBoards 11 = .ok (.aload_n 0, 1) := by decide +kernel
theorem dX0_deadBoards_12 : decode cX0_deadBoards 12 = .ok (.getfield 11, 3) := by decide +kernel
theorem dX0_deadBoards_15 : decode cX0_deadBoards 15 = .ok (.iconst 4, 1) := by decide +kernel
theorem dX0_deadBoards_16 : decode cX0_deadBoards 16 = .ok (.iaload, 1) := by decide +kernel
theorem dX0_deadBoards_17 : decode cX0_deadBoards 17 = .ok (.if_icmp .ge 31, 3) := by decide +kernel
theorem dX0_deadBoards_20 : decode cX0_deadBoards 20 = .ok (.iload_n 1, 1) := by decide +kernel
theorem dX0_deadBoards_21 : decode cX0_deadBoards 21 = .ok (.aload_n 0, 1) := by decide +kernel
theorem dX0_deadBoards_22 : decode cX0_deadBoards 22 = .ok (.getfield 11, 3) := by decide +kernel
theorem dX0_deadBoards_25 : decode cX0_deadBoards 25 = .ok (.bipush 17, 2) := by decide +kernel
theorem dX0_deadBoards_27 : decode cX0_deadBoards 27 = .ok (.iload_n 2, 1) := by decide +kernel
theorem dX0_deadBoards_28 : decode cX0_deadBoards 28 = .ok (.iadd, 1) := by decide +kernel
theorem dX0_deadBoards_29 : decode cX0_deadBoards 29 = .ok (.iaload, 1) := by decide +kernel
theorem dX0_deadBoards_30 : decode cX0_deadBoards 30 = .ok (.ishr, 1) := by decide +kernel
theorem dX0_deadBoards_31 : decode cX0_deadBoards 31 = .ok (.iconst 1, 1) := by decide +kernel
theorem dX0_deadBoards_32 : decode cX0_deadBoards 32 = .ok (.iand, 1) := by decide +kernel
theorem dX0_deadBoards_33 : decode cX0_deadBoards 33 = .ok (.ifCond .eq 9, 3) := by decide +kernel
theorem dX0_deadBoards_36 : decode cX0_deadBoards 36 = .ok (.iload_n 1, 1) := by decide +kernel
theorem dX0_deadBoards_37 : decode cX0_deadBoards 37 = .ok (.iconst 1, 1) := by decide +kernel
theorem dX0_deadBoards_38 : decode cX0_deadBoards 38 = .ok (.iload_n 2, 1) := by decide +kernel
theorem dX0_deadBoards_39 : decode cX0_deadBoards 39 = .ok (.ishl, 1) := by decide +kernel
theorem dX0_deadBoards_40 : decode cX0_deadBoards 40 = .ok (.ior, 1) := by decide +kernel
theorem dX0_deadBoards_41 : decode cX0_deadBoards 41 = .ok (.istore_n 1, 1) := by decide +kernel
theorem dX0_deadBoards_42 : decode cX0_deadBoards 42 = .ok (.iinc 2 1, 3) := by decide +kernel
theorem dX0_deadBoards_45 : decode cX0_deadBoards 45 = .ok (.goto (-35), 3) := by decide +kernel
theorem dX0_deadBoards_48 : decode cX0_deadBoards 48 = .ok (.iload_n 1, 1) := by decide +kernel
theorem dX0_deadBoards_49 : decode cX0_deadBoards 49 = .ok (.ireturn, 1) := by decide +kernel
theorem dX0_burningBoards_0 : decode cX0_burningBoards 0 = .ok (.iconst 0, 1) := by decide +kernel
theorem dX0_burningBoards_1 : decode cX0_burningBoards 1 = .ok (.istore_n 1, 1) := by decide +kernel
theorem dX0_burningBoards_2 : decode cX0_burningBoards 2 = .ok (.iconst 0, 1) := by decide +kernel
theorem dX0_burningBoards_3 : decode cX0_burningBoards 3 = .ok (.istore_n 2, 1) := by decide +kernel
theorem dX0_burningBoards_4 : decode cX0_burningBoards 4 = .ok (.iload_n 2, 1) := by decide +kernel
theorem dX0_burningBoards_5 : decode cX0_burningBoards 5 = .ok (.aload_n 0, 1) := by decide +kernel
theorem dX0_burningBoards_6 : decode cX0_burningBoards 6 = .ok (.getfield 11, 3) := by decide +kernel
theorem dX0_burningBoards_9 : decode cX0_burningBoards 9 = .ok (.iconst 4, 1) := by decide +kernel
theorem dX0_burningBoards_10 : decode cX0_burningBoards 10 = .ok (.iaload, 1) := by decide +kernel
theorem dX0_burningBoards_11 : decode cX0_burningBoards 11 = .ok (.if_icmp .ge 27, 3) := by decide +kernel
theorem dX0_burningBoards_14 : decode cX0_burningBoards 14 = .ok (.aload_n 0, 1) := by decide +kernel
theorem dX0_burningBoards_15 : decode cX0_burningBoards 15 = .ok (.getfield 11, 3) := by decide +kernel
theorem dX0_burningBoards_18 : decode cX0_burningBoards 18 = .ok (.bipush 47, 2) := by decide +kernel
theorem dX0_burningBoards_20 : decode cX0_burningBoards 20 = .ok (.iload_n 2, 1) := by decide +kernel
theorem dX0_burningBoards_21 : decode cX0_burningBoards 21 = .ok (.iadd, 1) := by decide +kernel
theorem dX0_burningBoards_22 : decode cX0_burningBoards 22 = .ok (.iaload, 1) := by decide +kernel
theorem dX0_burningBoards_23 : decode cX0_burningBoards 23 = .ok (.ifCond .le 9, 3) := by decide +kernel
theorem dX0_burningBoards_26 : decode cX0_burningBoards 26 = .ok (.iload_n 1, 1) := by decide +kernel
theorem dX0_burningBoards_27 : decode cX0_burningBoards 27 = .ok (.iconst 1, 1) := by decide +kernel
theorem dX0_burningBoards_28 : decode cX0_burningBoards 28 = .ok (.iload_n 2, 1) := by decide +kernel
theorem dX0_burningBoards_29 : decode cX0_burningBoards 29 = .ok (.ishl, 1) := by decide +kernel
theorem dX0_burningBoards_30 : decode cX0_burningBoards 30 = .ok (.ior, 1) := by decide +kernel
theorem dX0_burningBoards_31 : decode cX0_burningBoards 31 = .ok (.istore_n 1, 1) := by decide +kernel
theorem dX0_burningBoards_32 : decode cX0_burningBoards 32 = .ok (.iinc 2 1, 3) := by decide +kernel
theorem dX0_burningBoards_35 : decode cX0_burningBoards 35 = .ok (.goto (-31), 3) := by decide +kernel
theorem dX0_burningBoards_38 : decode cX0_burningBoards 38 = .ok (.iload_n 1, 1) := by decide +kernel
theorem dX0_burningBoards_39 : decode cX0_burningBoards 39 = .ok (.ireturn, 1) := by decide +kernel
theorem dX0_state_0 : decode cX0_state 0 = .ok (.aload_n 0, 1) := by decide +kernel
theorem dX0_state_1 : decode cX0_state 1 = .ok (.getfield 11, 3) := by decide +kernel
theorem dX0_state_4 : decode cX0_state 4 = .ok (.bipush 7, 2) := by decide +kernel
theorem dX0_state_6 : decode cX0_state 6 = .ok (.iaload, 1) := by decide +kernel
theorem dX0_state_7 : decode cX0_state 7 = .ok (.iload_n 1, 1) := by decide +kernel
theorem dX0_state_8 : decode cX0_state 8 = .ok (.ishr, 1) := by decide +kernel
theorem dX0_state_9 : decode cX0_state 9 = .ok (.iconst 1, 1) := by decide +kernel
theorem dX0_state_10 : decode cX0_state 10 = .ok (.iand, 1) := by decide +kernel
theorem dX0_state_11 : decode cX0_state 11 = .ok (.ifCond .eq 5, 3) := by decide +kernel
theorem dX0_state_14 : decode cX0_state 14 = .ok (.iconst 2, 1) := by decide +kernel
theorem dX0_state_15 : decode cX0_state 15 = .ok (.ireturn, 1) := by decide +kernel
theorem dX0_state_16 : decode cX0_state 16 = .ok (.aload_n 0, 1) := by decide +kernel
theorem dX0_state_17 : decode cX0_state 17 = .ok (.getfield 11, 3) := by decide +kernel
theorem dX0_state_20 : decode cX0_state 20 = .ok (.bipush 47, 2) := by decide +kernel
theorem dX0_state_22 : decode cX0_state 22 = .ok (.iload_n 1, 1) := by decide +kernel
theorem dX0_state_23 : decode cX0_state 23 = .ok (.iadd, 1) := by decide +kernel
theorem dX0_state_24 : decode cX0_state 24 = .ok (.iaload, 1) := by decide +kernel
theorem dX0_state_25 : decode cX0_state 25 = .ok (.ifCond .le 7, 3) := by decide +kernel
theorem dX0_state_28 : decode cX0_state 28 = .ok (.iconst 1, 1) := by decide +kernel
theorem dX0_state_29 : decode cX0_state 29 = .ok (.goto 4, 3) := by decide +kernel
theorem dX0_state_32 : decode cX0_state 32 = .ok (.iconst 0, 1) := by decide +kernel
theorem dX0_state_33 : decode cX0_state 33 = .ok (.ireturn, 1) := by decide +kernel
theorem dX0_current_0 : decode cX0_current 0 = .ok (.aload_n 0, 1) := by decide +kernel
theorem dX0_current_1 : decode cX0_current 1 = .ok (.invokevirtual 61, 3) := by decide +kernel
theorem dX0_current_4 : decode cX0_current 4 = .ok (.aload_n 0, 1) := by decide +kernel
theorem dX0_current_5 : decode cX0_current 5 = .ok (.getfield 15, 3) := by decide +kernel
theorem dX0_current_8 : decode cX0_current 8 = .ok (.iload_n 1, 1) := by decide +kernel
theorem dX0_current_9 : decode cX0_current 9 = .ok (.iaload, 1) := by decide +kernel
theorem dX0_current_10 : decode cX0_current 10 = .ok (.ireturn, 1) := by decide +kernel
theorem dX0_meltingHeat_0 : decode cX0_meltingHeat 0 = .ok (.aload_n 0, 1) := by decide +kernel
theorem dX0_meltingHeat_1 : decode cX0_meltingHeat 1 = .ok (.getfield 11, 3) := by decide +kernel
theorem dX0_meltingHeat_4 : decode cX0_meltingHeat 4 = .ok (.bipush 27, 2) := by decide +kernel
theorem dX0_meltingHeat_6 : decode cX0_meltingHeat 6 = .ok (.iload_n 1, 1) := by decide +kernel
theorem dX0_meltingHeat_7 : decode cX0_meltingHeat 7 = .ok (.iadd, 1) := by decide +kernel
theorem dX0_meltingHeat_8 : decode cX0_meltingHeat 8 = .ok (.iaload, 1) := by decide +kernel
theorem dX0_meltingHeat_9 : decode cX0_meltingHeat 9 = .ok (.istore_n 2, 1) := by decide +kernel
theorem dX0_meltingHeat_10 : decode cX0_meltingHeat 10 = .ok (.iload_n 2, 1) := by decide +kernel
theorem dX0_meltingHeat_11 : decode cX0_meltingHeat 11 = .ok (.iload_n 2, 1) := by decide +kernel
theorem dX0_meltingHeat_12 : decode cX0_meltingHeat 12 = .ok (.imul, 1) := by decide +kernel
theorem dX0_meltingHeat_13 : decode cX0_meltingHeat 13 = .ok (.aload_n 0, 1) := by decide +kernel
theorem dX0_meltingHeat_14 : decode cX0_meltingHeat 14 = .ok (.getfield 11, 3) := by decide +kernel
theorem dX0_meltingHeat_17 : decode cX0_meltingHeat 17 = .ok (.bipush 37, 2) := by decide +kernel
theorem dX0_meltingHeat_19 : decode cX0_meltingHeat 19 = .ok (.iload_n 1, 1) := by decide +kernel
theorem dX0_meltingHeat_20 : decode cX0_meltingHeat 20 = .ok (.iadd, 1) := by decide +kernel
theorem dX0_meltingHeat_21 : decode cX0_meltingHeat 21 = .ok (.iaload, 1) := by decide +kernel
theorem dX0_meltingHeat_22 : decode cX0_meltingHeat 22 = .ok (.invokestatic 127, 3) := by decide +kernel
theorem dX0_meltingHeat_25 : decode cX0_meltingHeat 25 = .ok (.imul, 1) := by decide +kernel
theorem dX0_meltingHeat_26 : decode cX0_meltingHeat 26 = .ok (.istore_n 3, 1) := by decide +kernel
theorem dX0_meltingHeat_27 : decode cX0_meltingHeat 27 = .ok (.iconst 1, 1) := by decide +kernel
theorem dX0_meltingHeat_28 : decode cX0_meltingHeat 28 = .ok (.iload_n 3, 1) := by decide +kernel
theorem dX0_meltingHeat_29 : decode cX0_meltingHeat 29 = .ok (.bipush 20, 2) := by decide +kernel
theorem dX0_meltingHeat_31 : decode cX0_meltingHeat 31 = .ok (.iload_n 2, 1) := by decide +kernel
theorem dX0_meltingHeat_32 : decode cX0_meltingHeat 32 = .ok (.imul, 1) := by decide +kernel
theorem dX0_meltingHeat_33 : decode cX0_meltingHeat 33 = .ok (.aload_n 0, 1) := by decide +kernel
theorem dX0_meltingHeat_34 : decode cX0_meltingHeat 34 = .ok (.getfield 11, 3) := by decide +kernel
theorem dX0_meltingHeat_37 : decode cX0_meltingHeat 37 = .ok (.bipush 67, 2) := by decide +kernel
theorem dX0_meltingHeat_39 : decode cX0_meltingHeat 39 = .ok (.iload_n 1, 1) := by decide +kernel
theorem dX0_meltingHeat_40 : decode cX0_meltingHeat 40 = .ok (.iadd, 1) := by decide +kernel
theorem dX0_meltingHeat_41 : decode cX0_meltingHeat 41 = .ok (.iaload, 1) := by decide +kernel
theorem dX0_meltingHeat_42 : decode cX0_meltingHeat 42 = .ok (.imul, 1) := by decide +kernel
theorem dX0_meltingHeat_43 : decode cX0_meltingHeat 43 = .ok (.isub, 1) := by decide +kernel
theorem dX0_meltingHeat_44 : decode cX0_meltingHeat 44 = .ok (.invokestatic 100, 3) := by decide +kernel
theorem dX0_meltingHeat_47 : decode cX0_meltingHeat 47 = .ok (.ireturn, 1) := by decide +kernel
theorem dX0_heatFactor_0 : decode cX0_heatFactor 0 = .ok (.iload_n 0, 1) := by decide +kernel
theorem dX0_heatFactor_1 : decode cX0_heatFactor 1 = .ok (.lookupswitch 33 #[(0, 27), (1, 30)], 27) := by decide +kernel
theorem dX0_heatFactor_28 : decode cX0_heatFactor 28 = .ok (.bipush 8, 2) := by decide +kernel
theorem dX0_heatFactor_30 : decode cX0_heatFactor 30 = .ok (.ireturn, 1) := by decide +kernel
theorem dX0_heatFactor_31 : decode cX0_heatFactor 31 = .ok (.bipush 40, 2) := by decide +kernel
theorem dX0_heatFactor_33 : decode cX0_heatFactor 33 = .ok (.ireturn, 1) := by decide +kernel
theorem dX0_heatFactor_34 : decode cX0_heatFactor 34 = .ok (.bipush 20, 2) := by decide +kernel
theorem dX0_heatFactor_36 : decode cX0_heatFactor 36 = .ok (.ireturn, 1) := by decide +kernel
theorem dX0_boardsAhead_0 : decode cX0_boardsAhead 0 = .ok (.iconst 0, 1) := by decide +kernel
theorem dX0_boardsAhead_1 : decode cX0_boardsAhead 1 = .ok (.istore_n 2, 1) := by decide +kernel
theorem dX0_boardsAhead_2 : decode cX0_boardsAhead 2 = .ok (.iload_n 1, 1) := by decide +kernel
theorem dX0_boardsAhead_3 : decode cX0_boardsAhead 3 = .ok (.istore_n 3, 1) := by decide +kernel
theorem dX0_boardsAhead_4 : decode cX0_boardsAhead 4 = .ok (.iload_n 1, 1) := by decide +kernel
theorem dX0_boardsAhead_5 : decode cX0_boardsAhead 5 = .ok (.istore 4, 2) := by decide +kernel
theorem dX0_boardsAhead_7 : decode cX0_boardsAhead 7 = .ok (.iload 4, 2) := by decide +kernel
theorem dX0_boardsAhead_9 : decode cX0_boardsAhead 9 = .ok (.ifCond .le 32, 3) := by decide +kernel
theorem dX0_boardsAhead_12 : decode cX0_boardsAhead 12 = .ok (.iload 4, 2) := by decide +kernel
theorem dX0_boardsAhead_14 : decode cX0_boardsAhead 14 = .ok (.iload_n 3, 1) := by decide +kernel
theorem dX0_boardsAhead_15 : decode cX0_boardsAhead 15 = .ok (.if_icmp .eq 6, 3) := by decide +kernel
theorem dX0_boardsAhead_18 : decode cX0_boardsAhead 18 = .ok (.goto 17, 3) := by decide +kernel
theorem dX0_boardsAhead_21 : decode cX0_boardsAhead 21 = .ok (.aload_n 0, 1) := by decide +kernel
theorem dX0_boardsAhead_22 : decode cX0_boardsAhead 22 = .ok (.getfield 11, 3) := by decide +kernel
theorem dX0_boardsAhead_25 : decode cX0_boardsAhead 25 = .ok (.bipush 17, 2) := by decide +kernel
theorem dX0_boardsAhead_27 : decode cX0_boardsAhead 27 = .ok (.iload 4, 2) := by decide +kernel
theorem dX0_boardsAhead_29 : decode cX0_boardsAhead 29 = .ok (.iadd, 1) := by decide +kernel
theorem dX0_boardsAhead_30 : decode cX0_boardsAhead 30 = .ok (.iaload, 1) := by decide +kernel
theorem dX0_boardsAhead_31 : decode cX0_boardsAhead 31 = .ok (.istore_n 3, 1) := by decide +kernel
theorem dX0_boardsAhead_32 : decode cX0_boardsAhead 32 = .ok (.iinc 2 1, 3) := by decide +kernel
theorem dX0_boardsAhead_35 : decode cX0_boardsAhead 35 = .ok (.iinc 4 (-1), 3) := by decide +kernel
theorem dX0_boardsAhead_38 : decode cX0_boardsAhead 38 = .ok (.goto (-31), 3) := by decide +kernel
theorem dX0_boardsAhead_41 : decode cX0_boardsAhead 41 = .ok (.iload_n 2, 1) := by decide +kernel
theorem dX0_boardsAhead_42 : decode cX0_boardsAhead 42 = .ok (.ireturn, 1) := by decide +kernel
end
section
theorem dX1_init_0 : decode cX1_init 0 = .ok (.aload_n 0, 1) := by decide +kernel
theorem dX1_init_1 : decode cX1_init 1 = .ok (.invokespecial 3, 3) := by decide +kernel
theorem dX1_init_4 : decode cX1_init 4 = .ok (.aload_n 0, 1) := by decide +kernel
theorem dX1_init_5 : decode cX1_init 5 = .ok (.bipush 80, 2) := by decide +kernel
theorem dX1_init_7 : decode cX1_init 7 = .ok (.newarray .int, 2) := by decide +kernel
theorem dX1_init_9 : decode cX1_init 9 = .ok (.putfield 11, 3) := by decide +kernel
theorem dX1_init_12 : decode cX1_init 12 = .ok (.aload_n 0, 1) := by decide +kernel
theorem dX1_init_13 : decode cX1_init 13 = .ok (.iconst 0, 1) := by decide +kernel
theorem dX1_init_14 : decode cX1_init 14 = .ok (.putfield 15, 3) := by decide +kernel
theorem dX1_init_17 : decode cX1_init 17 = .ok (.aload_n 0, 1) := by decide +kernel
theorem dX1_init_18 : decode cX1_init 18 = .ok (.iconst 0, 1) := by decide +kernel
theorem dX1_init_19 : decode cX1_init 19 = .ok (.putfield 19, 3) := by decide +kernel
theorem dX1_init_22 : decode cX1_init 22 = .ok (.aload_n 0, 1) := by decide +kernel
theorem dX1_init_23 : decode cX1_init 23 = .ok (.iconst 0, 1) := by decide +kernel
theorem dX1_init_24 : decode cX1_init 24 = .ok (.putfield 22, 3) := by decide +kernel
theorem dX1_init_27 : decode cX1_init 27 = .ok (.aload_n 0, 1) := by decide +kernel
theorem dX1_init_28 : decode cX1_init 28 = .ok (.iconst 0, 1) := by decide +kernel
theorem dX1_init_29 : decode cX1_init 29 = .ok (.putfield 25, 3) := by decide +kernel
theorem dX1_init_32 : decode cX1_init 32 = .ok (.aload_n 0, 1) := by decide +kernel
theorem dX1_init_33 : decode cX1_init 33 = .ok (.iconst 0, 1) := by decide +kernel
theorem dX1_init_34 : decode cX1_init 34 = .ok (.putfield 28, 3) := by decide +kernel
theorem dX1_init_37 : decode cX1_init 37 = .ok (.aload_n 0, 1) := by decide +kernel
theorem dX1_init_38 : decode cX1_init 38 = .ok (.iconst 0, 1) := by decide +kernel
theorem dX1_init_39 : decode cX1_init 39 = .ok (.putfield 31, 3) := by decide +kernel
theorem dX1_init_42 : decode cX1_init 42 = .ok (.return_, 1) := by decide +kernel
theorem dX1_length_0 : decode cX1_length 0 = .ok (.aload_n 0, 1) := by decide +kernel
theorem dX1_length_1 : decode cX1_length 1 = .ok (.getfield 15, 3) := by decide +kernel
theorem dX1_length_4 : decode cX1_length 4 = .ok (.ireturn, 1) := by decide +kernel
theorem dX1_letter_0 : decode cX1_letter 0 = .ok (.aload_n 0, 1) := by decide +kernel
theorem dX1_letter_1 : decode cX1_letter 1 = .ok (.getfield 22, 3) := by decide +kernel
theorem dX1_letter_4 : decode cX1_letter 4 = .ok (.ireturn, 1) := by decide +kernel
theorem dX1_digit_0 : decode cX1_digit 0 = .ok (.aload_n 0, 1) := by decide +kernel
theorem dX1_digit_1 : decode cX1_digit 1 = .ok (.getfield 25, 3) := by decide +kernel
theorem dX1_digit_4 : decode cX1_digit 4 = .ok (.ireturn, 1) := by decide +kernel
theorem dX1_number_0 : decode cX1_number 0 = .ok (.aload_n 0, 1) := by decide +kernel
theorem dX1_number_1 : decode cX1_number 1 = .ok (.getfield 28, 3) := by decide +kernel
theorem dX1_number_4 : decode cX1_number 4 = .ok (.ireturn, 1) := by decide +kernel
theorem dX1_kind_0 : decode cX1_kind 0 = .ok (.aload_n 0, 1) := by decide +kernel
theorem dX1_kind_1 : decode cX1_kind 1 = .ok (.getfield 31, 3) := by decide +kernel
theorem dX1_kind_4 : decode cX1_kind 4 = .ok (.ireturn, 1) := by decide +kernel
theorem dX1_append_0 : decode cX1_append 0 = .ok (.lload_n 1, 1) := by decide +kernel
theorem dX1_append_1 : decode cX1_append 1 = .ok (.invokestatic 34, 3) := by decide +kernel
theorem dX1_append_4 : decode cX1_append 4 = .ok (.istore_n 3, 1) := by decide +kernel
theorem dX1_append_5 : decode cX1_append 5 = .ok (.iload_n 3, 1) := by decide +kernel
theorem dX1_append_6 : decode cX1_append 6 = .ok (.ifCond .ne 6, 3) := by decide +kernel
theorem dX1_append_9 : decode cX1_append 9 = .ok (.bipush (-2), 2) := by decide +kernel
theorem dX1_append_11 : decode cX1_append 11 = .ok (.ireturn, 1) := by decide +kernel
theorem dX1_append_12 : decode cX1_append 12 = .ok (.aload_n 0, 1) := by decide +kernel
theorem dX1_append_13 : decode cX1_append 13 = .ok (.getfield 15, 3) := by decide +kernel
theorem dX1_append_16 : decode cX1_append 16 = .ok (.iload_n 3, 1) := by decide +kernel
theorem dX1_append_17 : decode cX1_append 17 = .ok (.iadd, 1) := by decide +kernel
theorem dX1_append_18 : decode cX1_append 18 = .ok (.bipush 80, 2) := by decide +kernel
theorem dX1_append_20 : decode cX1_append 20 = .ok (.if_icmp .le 6, 3) := by decide +kernel
theorem dX1_append_23 : decode cX1_append 23 = .ok (.bipush (-4), 2) := by decide +kernel
theorem dX1_append_25 : decode cX1_append 25 = .ok (.ireturn, 1) := by decide +kernel
theorem dX1_append_26 : decode cX1_append 26 = .ok (.iconst 0, 1) := by decide +kernel
theorem dX1_append_27 : decode cX1_append 27 = .ok (.istore 4, 2) := by decide +kernel
theorem dX1_append_29 : decode cX1_append 29 = .ok (.iload 4, 2) := by decide +kernel
theorem dX1_append_31 : decode cX1_append 31 = .ok (.iload_n 3, 1) := by decide +kernel
theorem dX1_append_32 : decode cX1_append 32 = .ok (.if_icmp .ge 31, 3) := by decide +kernel
theorem dX1_append_35 : decode cX1_append 35 = .ok (.aload_n 0, 1) := by decide +kernel
theorem dX1_append_36 : decode cX1_append 36 = .ok (.getfield 11, 3) := by decide +kernel
theorem dX1_append_39 : decode cX1_append 39 = .ok (.aload_n 0, 1) := by decide +kernel
theorem dX1_append_40 : decode cX1_append 40 = .ok (.getfield 15, 3) := by decide +kernel
theorem dX1_append_43 : decode cX1_append 43 = .ok (.iload_n 3, 1) := by decide +kernel
theorem dX1_append_44 : decode cX1_append 44 = .ok (.iadd, 1) := by decide +kernel
theorem dX1_append_45 : decode cX1_append 45 = .ok (.iconst 1, 1) := by decide +kernel
theorem dX1_append_46 : decode cX1_append 46 = .ok (.isub, 1) := by decide +kernel
theorem dX1_append_47 : decode cX1_append 47 = .ok (.iload 4, 2) := by decide +kernel
theorem dX1_append_49 : decode cX1_append 49 = .ok (.isub, 1) := by decide +kernel
theorem dX1_append_50 : decode cX1_append 50 = .ok (.lload_n 1, 1) := by decide +kernel
theorem dX1_append_51 : decode cX1_append 51 = .ok (.iload 4, 2) := by decide +kernel
theorem dX1_append_53 : decode cX1_append 53 = .ok (.invokestatic 38, 3) := by decide +kernel
theorem dX1_append_56 : decode cX1_append 56 = .ok (.iastore, 1) := by decide +kernel
theorem dX1_append_57 : decode cX1_append 57 = .ok (.iinc 4 1, 3) := by decide +kernel
theorem dX1_append_60 : decode cX1_append 60 = .ok (.goto (-31), 3) := by decide +kernel
theorem dX1_append_63 : decode cX1_append 63 = .ok (.aload_n 0, 1) := by decide +kernel
theorem dX1_append_64 : decode cX1_append 64 = .ok (.dup, 1) := by decide +kernel
theorem dX1_append_65 : decode cX1_append 65 = .ok (.getfield 15, 3) := by decide +kernel
theorem dX1_append_68 : decode cX1_append 68 = .ok (.iload_n 3, 1) := by decide +kernel
theorem dX1_append_69 : decode cX1_append 69 = .ok (.iadd, 1) := by decide +kernel
theorem dX1_append_70 : decode cX1_append 70 = .ok (.putfield 15, 3) := by decide +kernel
theorem dX1_append_73 : decode cX1_append 73 = .ok (.aload_n 0, 1) := by decide +kernel
theorem dX1_append_74 : decode cX1_append 74 = .ok (.getfield 15, 3) := by decide +kernel
theorem dX1_append_77 : decode cX1_append 77 = .ok (.ireturn, 1) := by decide +kernel
theorem dX1_clear_0 : decode cX1_clear 0 = .ok (.aload_n 0, 1) := by decide +kernel
theorem dX1_clear_1 : decode cX1_clear 1 = .ok (.getfield 15, 3) := by decide +kernel
theorem dX1_clear_4 : decode cX1_clear 4 = .ok (.istore_n 1, 1) := by decide +kernel
theorem dX1_clear_5 : decode cX1_clear 5 = .ok (.aload_n 0, 1) := by decide +kernel
theorem dX1_clear_6 : decode cX1_clear 6 = .ok (.iconst 0, 1) := by decide +kernel
theorem dX1_clear_7 : decode cX1_clear 7 = .ok (.putfield 15, 3) := by decide +kernel
theorem dX1_clear_10 : decode cX1_clear 10 = .ok (.iload_n 1, 1) := by decide +kernel
theorem dX1_clear_11 : decode cX1_clear 11 = .ok (.ireturn, 1) := by decide +kernel
theorem dX1_findFault_0 : decode cX1_findFault 0 = .ok (.aload_n 0, 1) := by decide +kernel
theorem dX1_findFault_1 : decode cX1_findFault 1 = .ok (.invokevirtual 42, 3) := by decide +kernel
theorem dX1_findFault_4 : decode cX1_findFault 4 = .ok (.istore_n 1, 1) := by decide +kernel
theorem dX1_findFault_5 : decode cX1_findFault 5 = .ok (.iconst 0, 1) := by decide +kernel
theorem dX1_findFault_6 : decode cX1_findFault 6 = .ok (.istore_n 2, 1) := by decide +kernel
theorem dX1_findFault_7 : decode cX1_findFault 7 = .ok (.iload_n 1, 1) := by decide +kernel
theorem dX1_findFault_8 : decode cX1_findFault 8 = .ok (.ifCond .eq 34, 3) := by decide +kernel
theorem dX1_findFault_11 : decode cX1_findFault 11 = .ok (.iload_n 2, 1) := by decide +kernel
theorem dX1_findFault_12 : decode cX1_findFault 12 = .ok (.bipush 80, 2) := by decide +kernel
theorem dX1_findFault_14 : decode cX1_findFault 14 = .ok (.if_icmp .ge 28, 3) := by decide +kernel
theorem dX1_findFault_17 : decode cX1_findFault 17 = .ok (.aload_n 0, 1) := by decide +kernel
theorem dX1_findFault_18 : decode cX1_findFault 18 = .ok (.getfield 19, 3) := by decide +kernel
theorem dX1_findFault_21 : decode cX1_findFault 21 = .ok (.aload_n 0, 1) := by decide +kernel
theorem dX1_findFault_22 : decode cX1_findFault 22 = .ok (.getfield 15, 3) := by decide +kernel
theorem dX1_findFault_25 : decode cX1_findFault 25 = .ok (.if_icmp .ne 6, 3) := by decide +kernel
theorem dX1_findFault_28 : decode cX1_findFault 28 = .ok (.bipush (-6), 2) := by decide +kernel
theorem dX1_findFault_30 : decode cX1_findFault 30 = .ok (.ireturn, 1) := by decide +kernel
theorem dX1_findFault_31 : decode cX1_findFault 31 = .ok (.aload_n 0, 1) := by decide +kernel
theorem dX1_findFault_32 : decode cX1_findFault 32 = .ok (.invokevirtual 46, 3) := by decide +kernel
theorem dX1_findFault_35 : decode cX1_findFault 35 = .ok (.istore_n 1, 1) := by decide +kernel
theorem dX1_findFault_36 : decode cX1_findFault 36 = .ok (.iinc 2 1, 3) := by decide +kernel
theorem dX1_findFault_39 : decode cX1_findFault 39 = .ok (.goto (-32), 3) := by decide +kernel
theorem dX1_findFault_42 : decode cX1_findFault 42 = .ok (.aload_n 0, 1) := by decide +kernel
theorem dX1_findFault_43 : decode cX1_findFault 43 = .ok (.getfield 19, 3) := by decide +kernel
theorem dX1_findFault_46 : decode cX1_findFault 46 = .ok (.ireturn, 1) := by decide +kernel
theorem dX1_readFirstOrder_0 : decode cX1_readFirstOrder 0 = .ok (.aload_n 0, 1) := by decide +kernel
theorem dX1_readFirstOrder_1 : decode cX1_readFirstOrder 1 = .ok (.iconst 0, 1) := by decide +kernel
theorem dX1_readFirstOrder_2 : decode cX1_readFirstOrder 2 = .ok (.putfield 19, 3) := by decide +kernel
theorem dX1_readFirstOrder_5 : decode cX1_readFirstOrder 5 = .ok (.aload_n 0, 1) := by decide +kernel
theorem dX1_readFirstOrder_6 : decode cX1_readFirstOrder 6 = .ok (.invokevirtual 49, 3) := by decide +kernel
theorem dX1_readFirstOrder_9 : decode cX1_readFirstOrder 9 = .ok (.ireturn, 1) := by decide +kernel
theorem dX1_readNextOrder_0 : decode cX1_readNextOrder 0 = .ok (.aload_n 0, 1) := by decide +kernel
theorem dX1_readNextOrder_1 : decode cX1_readNextOrder 1 = .ok (.bipush 59, 2) := by decide +kernel
theorem dX1_readNextOrder_3 : decode cX1_readNextOrder 3 = .ok (.invokevirtual 52, 3) := by decide +kernel
theorem dX1_readNextOrder_6 : decode cX1_readNextOrder 6 = .ok (.ifCond .eq 14, 3) := by decide +kernel
theorem dX1_readNextOrder_9 : decode cX1_readNextOrder 9 = .ok (.aload_n 0, 1) := by decide +kernel
theorem dX1_readNextOrder_10 : decode cX1_readNextOrder 10 = .ok (.invokevirtual 49, 3) := by decide +kernel
theorem dX1_readNextOrder_13 : decode cX1_readNextOrder 13 = .ok (.ifCond .eq 7, 3) := by decide +kernel
theorem dX1_readNextOrder_16 : decode cX1_readNextOrder 16 = .ok (.iconst 1, 1) := by decide +kernel
theorem dX1_readNextOrder_17 : decode cX1_readNextOrder 17 = .ok (.goto 4, 3) := by decide +kernel
theorem dX1_readNextOrder_20 : decode cX1_readNextOrder 20 = .ok (.iconst 0, 1) := by decide +kernel
theorem dX1_readNextOrder_21 : decode cX1_readNextOrder 21 = .ok (.ireturn, 1) := by decide +kernel
theorem dX1_countCharacters_0 : decode cX1_countCharacters 0 = .ok (.iconst 0, 1) := by decide +kernel
theorem dX1_countCharacters_1 : decode cX1_countCharacters 1 = .ok (.istore_n 2, 1) := by decide +kernel
theorem dX1_countCharacters_2 : decode cX1_countCharacters 2 = .ok (.iload_n 2, 1) := by decide +kernel
theorem dX1_countCharacters_3 : decode cX1_countCharacters 3 = .ok (.bipush 8, 2) := by decide +kernel
theorem dX1_countCharacters_5 : decode cX1_countCharacters 5 = .ok (.if_icmp .ge 37, 3) := by decide +kernel
theorem dX1_countCharacters_8 : decode cX1_countCharacters 8 = .ok (.lload_n 0, 1) := by decide +kernel
theorem dX1_countCharacters_9 : decode cX1_countCharacters 9 = .ok (.iload_n 2, 1) := by decide +kernel
theorem dX1_countCharacters_10 : decode cX1_countCharacters 10 = .ok (.invokestatic 38, 3) := by decide +kernel
theorem dX1_countCharacters_13 : decode cX1_countCharacters 13 = .ok (.ifCond .eq 29, 3) := by decide +kernel
theorem dX1_countCharacters_16 : decode cX1_countCharacters 16 = .ok (.lload_n 0, 1) := by decide +kernel
theorem dX1_countCharacters_17 : decode cX1_countCharacters 17 = .ok (.iload_n 2, 1) := by decide +kernel
theorem dX1_countCharacters_18 : decode cX1_countCharacters 18 = .ok (.invokestatic 38, 3) := by decide +kernel
theorem dX1_countCharacters_21 : decode cX1_countCharacters 21 = .ok (.istore_n 3, 1) := by decide +kernel
theorem dX1_countCharacters_22 : decode cX1_countCharacters 22 = .ok (.iload_n 3, 1) := by decide +kernel
theorem dX1_countCharacters_23 : decode cX1_countCharacters 23 = .ok (.bipush 33, 2) := by decide +kernel
theorem dX1_countCharacters_25 : decode cX1_countCharacters 25 = .ok (.if_icmp .lt 9, 3) := by decide +kernel
theorem dX1_countCharacters_28 : decode cX1_countCharacters 28 = .ok (.iload_n 3, 1) := by decide +kernel
theorem dX1_countCharacters_29 : decode cX1_countCharacters 29 = .ok (.bipush 126, 2) := by decide +kernel
theorem dX1_countCharacters_31 : decode cX1_countCharacters 31 = .ok (.if_icmp .le 5, 3) := by decide +kernel
theorem dX1_countCharacters_34 : decode cX1_countCharacters 34 = .ok (.iconst 0, 1) := by decide +kernel
theorem dX1_countCharacters_35 : decode cX1_countCharacters 35 = .ok (.ireturn, 1) := by decide +kernel
theorem dX1_countCharacters_36 : decode cX1_countCharacters 36 = .ok (.iinc 2 1, 3) := by decide +kernel
theorem dX1_countCharacters_39 : decode cX1_countCharacters 39 = .ok (.goto (-37), 3) := by decide +kernel
theorem dX1_countCharacters_42 : decode cX1_countCharacters 42 = .ok (.iload_n 2, 1) := by decide +kernel
theorem dX1_countCharacters_43 : decode cX1_countCharacters 43 = .ok (.bipush 8, 2) := by decide +kernel
theorem dX1_countCharacters_45 : decode cX1_countCharacters 45 = .ok (.if_icmp .ge 16, 3) := by decide +kernel
theorem dX1_countCharacters_48 : decode cX1_countCharacters 48 = .ok (.lload_n 0, 1) := by decide +kernel
theorem dX1_countCharacters_49 : decode cX1_countCharacters 49 = .ok (.bipush 8, 2) := by decide +kernel
theorem dX1_countCharacters_51 : decode cX1_countCharacters 51 = .ok (.iload_n 2, 1) := by decide +kernel
theorem dX1_countCharacters_52 : decode cX1_countCharacters 52 = .ok (.imul, 1) := by decide +kernel
theorem dX1_countCharacters_53 : decode cX1_countCharacters 53 = .ok (.lushr, 1) := by decide +kernel
theorem dX1_countCharacters_54 : decode cX1_countCharacters 54 = .ok (.lconst 0, 1) := by decide +kernel
theorem dX1_countCharacters_55 : decode cX1_countCharacters 55 = .ok (.lcmp, 1) := by decide +kernel
theorem dX1_countCharacters_56 : decode cX1_countCharacters 56 = .ok (.ifCond .eq 5, 3) := by decide +kernel
theorem dX1_countCharacters_59 : decode cX1_countCharacters 59 = .ok (.iconst 0, 1) := by decide +kernel
theorem dX1_countCharacters_60 : decode cX1_countCharacters 60 = .ok (.ireturn, 1) := by decide +kernel
theorem dX1_countCharacters_61 : decode cX1_countCharacters 61 = .ok (.iload_n 2, 1) := by decide +kernel
theorem dX1_countCharacters_62 : decode cX1_countCharacters 62 = .ok (.ireturn, 1) := by decide +kernel
theorem dX1_codeIn_0 : decode cX1_codeIn 0 = .ok (.lload_n 0, 1) := by decide +kernel
theorem dX1_codeIn_1 : decode cX1_codeIn 1 = .ok (.bipush 8, 2) := by decide +kernel
theorem dX1_codeIn_3 : decode cX1_codeIn 3 = .ok (.iload_n 2, 1) := by decide +kernel
theorem dX1_codeIn_4 : decode cX1_codeIn 4 = .ok (.imul, 1) := by decide +kernel
theorem dX1_codeIn_5 : decode cX1_codeIn 5 = .ok (.lushr, 1) := by decide +kernel
theorem dX1_codeIn_6 : decode cX1_codeIn 6 = .ok (.l2i, 1) := by decide +kernel
theorem dX1_codeIn_7 : decode cX1_codeIn 7 = .ok (.sipush 255, 3) := by decide +kernel
theorem dX1_codeIn_10 : decode cX1_codeIn 10 = .ok (.iand, 1) := by decide +kernel
theorem dX1_codeIn_11 : decode cX1_codeIn 11 = .ok (.ireturn, 1) := by decide +kernel
theorem dX1_readOrder_0 : decode cX1_readOrder 0 = .ok (.aload_n 0, 1) := by decide +kernel
theorem dX1_readOrder_1 : decode cX1_readOrder 1 = .ok (.aload_n 0, 1) := by decide +kernel
theorem dX1_readOrder_2 : decode cX1_readOrder 2 = .ok (.invokevirtual 56, 3) := by decide +kernel
theorem dX1_readOrder_5 : decode cX1_readOrder 5 = .ok (.putfield 22, 3) := by decide +kernel
theorem dX1_readOrder_8 : decode cX1_readOrder 8 = .ok (.aload_n 0, 1) := by decide +kernel
theorem dX1_readOrder_9 : decode cX1_readOrder 9 = .ok (.getfield 22, 3) := by decide +kernel
theorem dX1_readOrder_12 : decode cX1_readOrder 12 = .ok (.lookupswitch 163 #[(98, 52), (102, 52), (108, 99), (115, 139), (116, 139)], 52) := by decide +kernel
theorem dX1_readOrder_64 : decode cX1_readOrder 64 = .ok (.aload_n 0, 1) := by decide +kernel
theorem dX1_readOrder_65 : decode cX1_readOrder 65 = .ok (.aload_n 0, 1) := by decide +kernel
theorem dX1_readOrder_66 : decode cX1_readOrder 66 = .ok (.getfield 22, 3) := by decide +kernel
theorem dX1_readOrder_69 : decode cX1_readOrder 69 = .ok (.invokevirtual 52, 3) := by decide +kernel
theorem dX1_readOrder_72 : decode cX1_readOrder 72 = .ok (.ifCond .eq 37, 3) := by decide +kernel
theorem dX1_readOrder_75 : decode cX1_readOrder 75 = .ok (.aload_n 0, 1) := by decide +kernel
theorem dX1_readOrder_76 : decode cX1_readOrder 76 = .ok (.invokevirtual 60, 3) := by decide +kernel
theorem dX1_readOrder_79 : decode cX1_readOrder 79 = .ok (.ifCond .eq 30, 3) := by decide +kernel
theorem dX1_readOrder_82 : decode cX1_readOrder 82 = .ok (.aload_n 0, 1) := by decide +kernel
theorem dX1_readOrder_83 : decode cX1_readOrder 83 = .ok (.bipush 46, 2) := by decide +kernel
theorem dX1_readOrder_85 : decode cX1_readOrder 85 = .ok (.invokevirtual 52, 3) := by decide +kernel
theorem dX1_readOrder_88 : decode cX1_readOrder 88 = .ok (.ifCond .eq 21, 3) := by decide +kernel
theorem dX1_readOrder_91 : decode cX1_readOrder 91 = .ok (.aload_n 0, 1) := by decide +kernel
theorem dX1_readOrder_92 : decode cX1_readOrder 92 = .ok (.invokevirtual 63, 3) := by decide +kernel
theorem dX1_readOrder_95 : decode cX1_readOrder 95 = .ok (.ifCond .eq 14, 3) := by decide +kernel
theorem dX1_readOrder_98 : decode cX1_readOrder 98 = .ok (.aload_n 0, 1) := by decide +kernel
theorem dX1_readOrder_99 : decode cX1_readOrder 99 = .ok (.invokevirtual 66, 3) := by decide +kernel
theorem dX1_readOrder_102 : decode cX1_readOrder 102 = .ok (.ifCond .eq 7, 3) := by decide +kernel
theorem dX1_readOrder_105 : decode cX1_readOrder 105 = .ok (.iconst 1, 1) := by decide +kernel
theorem dX1_readOrder_106 : decode cX1_readOrder 106 = .ok (.goto 4, 3) := by decide +kernel
theorem dX1_readOrder_109 : decode cX1_readOrder 109 = .ok (.iconst 0, 1) := by decide +kernel
theorem dX1_readOrder_110 : decode cX1_readOrder 110 = .ok (.ireturn, 1) := by decide +kernel
theorem dX1_readOrder_111 : decode cX1_readOrder 111 = .ok (.aload_n 0, 1) := by decide +kernel
theorem dX1_readOrder_112 : decode cX1_readOrder 112 = .ok (.aload_n 0, 1) := by decide +kernel
theorem dX1_readOrder_113 : decode cX1_readOrder 113 = .ok (.getfield 22, 3) := by decide +kernel
theorem dX1_readOrder_116 : decode cX1_readOrder 116 = .ok (.invokevirtual 52, 3) := by decide +kernel
theorem dX1_readOrder_119 : decode cX1_readOrder 119 = .ok (.ifCond .eq 30, 3) := by decide +kernel
theorem dX1_readOrder_122 : decode cX1_readOrder 122 = .ok (.aload_n 0, 1) := by decide +kernel
theorem dX1_readOrder_123 : decode cX1_readOrder 123 = .ok (.invokevirtual 60, 3) := by decide +kernel
theorem dX1_readOrder_126 : decode cX1_readOrder 126 = .ok (.ifCond .eq 23, 3) := by decide +kernel
theorem dX1_readOrder_129 : decode cX1_readOrder 129 = .ok (.aload_n 0, 1) := by decide +kernel
theorem dX1_readOrder_130 : decode cX1_readOrder 130 = .ok (.bipush 61, 2) := by decide +kernel
theorem dX1_readOrder_132 : decode cX1_readOrder 132 = .ok (.invokevirtual 52, 3) := by decide +kernel
theorem dX1_readOrder_135 : decode cX1_readOrder 135 = .ok (.ifCond .eq 14, 3) := by decide +kernel
theorem dX1_readOrder_138 : decode cX1_readOrder 138 = .ok (.aload_n 0, 1) := by decide +kernel
theorem dX1_readOrder_139 : decode cX1_readOrder 139 = .ok (.invokevirtual 63, 3) := by decide +kernel
theorem dX1_readOrder_142 : decode cX1_readOrder 142 = .ok (.ifCond .eq 7, 3) := by decide +kernel
theorem dX1_readOrder_145 : decode cX1_readOrder 145 = .ok (.iconst 1, 1) := by decide +kernel
theorem dX1_readOrder_146 : decode cX1_readOrder 146 = .ok (.goto 4, 3) := by decide +kernel
theorem dX1_readOrder_149 : decode cX1_readOrder 149 = .ok (.iconst 0, 1) := by decide +kernel
theorem dX1_readOrder_150 : decode cX1_readOrder 150 = .ok (.ireturn, 1) := by decide +kernel
theorem dX1_readOrder_151 : decode cX1_readOrder 151 = .ok (.aload_n 0, 1) := by decide +kernel
theorem dX1_readOrder_152 : decode cX1_readOrder 152 = .ok (.aload_n 0, 1) := by decide +kernel
theorem dX1_readOrder_153 : decode cX1_readOrder 153 = .ok (.getfield 22, 3) := by decide +kernel
theorem dX1_readOrder_156 : decode cX1_readOrder 156 = .ok (.invokevirtual 52, 3) := by decide +kernel
theorem dX1_readOrder_159 : decode cX1_readOrder 159 = .ok (.ifCond .eq 14, 3) := by decide +kernel
theorem dX1_readOrder_162 : decode cX1_readOrder 162 = .ok (.aload_n 0, 1) := by decide +kernel
theorem dX1_readOrder_163 : decode cX1_readOrder 163 = .ok (.invokevirtual 63, 3) := by decide +kernel
theorem dX1_readOrder_166 : decode cX1_readOrder 166 = .ok (.ifCond .eq 7, 3) := by decide +kernel
theorem dX1_readOrder_169 : decode cX1_readOrder 169 = .ok (.iconst 1, 1) := by decide +kernel
theorem dX1_readOrder_170 : decode cX1_readOrder 170 = .ok (.goto 4, 3) := by decide +kernel
theorem dX1_readOrder_173 : decode cX1_readOrder 173 = .ok (.iconst 0, 1) := by decide +kernel
theorem dX1_readOrder_174 : decode cX1_readOrder 174 = .ok (.ireturn, 1) := by decide +kernel
theorem dX1_readOrder_175 : decode cX1_readOrder 175 = .ok (.iconst 0, 1) := by decide +kernel
theorem dX1_readOrder_176 : decode cX1_readOrder 176 = .ok (.ireturn, 1) := by decide +kernel
theorem dX1_readDigit_0 : decode cX1_readDigit 0 = .ok (.aload_n 0, 1) := by decide +kernel
theorem dX1_readDigit_1 : decode cX1_readDigit 1 = .ok (.invokevirtual 69, 3) := by decide +kernel
theorem dX1_readDigit_4 : decode cX1_readDigit 4 = .ok (.ifCond .ne 5, 3) := by decide +kernel
theorem dX1_readDigit_7 : decode cX1_readDigit 7 = .ok (.iconst 0, 1) := by decide +kernel
theorem dX1_readDigit_8 : decode cX1_readDigit 8 = .ok (.ireturn, 1) := by decide +kernel
theorem dX1_readDigit_9 : decode cX1_readDigit 9 = .ok (.aload_n 0, 1) := by decide +kernel
theorem dX1_readDigit_10 : decode cX1_readDigit 10 = .ok (.aload_n 0, 1) := by decide +kernel
theorem dX1_readDigit_11 : decode cX1_readDigit 11 = .ok (.invokevirtual 56, 3) := by decide +kernel
theorem dX1_readDigit_14 : decode cX1_readDigit 14 = .ok (.bipush 48, 2) := by decide +kernel
theorem dX1_readDigit_16 : decode cX1_readDigit 16 = .ok (.isub, 1) := by decide +kernel
theorem dX1_readDigit_17 : decode cX1_readDigit 17 = .ok (.putfield 25, 3) := by decide +kernel
theorem dX1_readDigit_20 : decode cX1_readDigit 20 = .ok (.aload_n 0, 1) := by decide +kernel
theorem dX1_readDigit_21 : decode cX1_readDigit 21 = .ok (.dup, 1) := by decide +kernel
theorem dX1_readDigit_22 : decode cX1_readDigit 22 = .ok (.getfield 19, 3) := by decide +kernel
theorem dX1_readDigit_25 : decode cX1_readDigit 25 = .ok (.iconst 1, 1) := by decide +kernel
theorem dX1_readDigit_26 : decode cX1_readDigit 26 = .ok (.iadd, 1) := by decide +kernel
theorem dX1_readDigit_27 : decode cX1_readDigit 27 = .ok (.putfield 19, 3) := by decide +kernel
theorem dX1_readDigit_30 : decode cX1_readDigit 30 = .ok (.iconst 1, 1) := by decide +kernel
theorem dX1_readDigit_31 : decode cX1_readDigit 31 = .ok (.ireturn, 1) := by decide +kernel
theorem dX1_readNumber_0 : decode cX1_readNumber 0 = .ok (.aload_n 0, 1) := by decide +kernel
theorem dX1_readNumber_1 : decode cX1_readNumber 1 = .ok (.invokevirtual 69, 3) := by decide +kernel
theorem dX1_readNumber_4 : decode cX1_readNumber 4 = .ok (.ifCond .ne 5, 3) := by decide +kernel
theorem dX1_readNumber_7 : decode cX1_readNumber 7 = .ok (.iconst 0, 1) := by decide +kernel
theorem dX1_readNumber_8 : decode cX1_readNumber 8 = .ok (.ireturn, 1) := by decide +kernel
theorem dX1_readNumber_9 : decode cX1_readNumber 9 = .ok (.aload_n 0, 1) := by decide +kernel
theorem dX1_readNumber_10 : decode cX1_readNumber 10 = .ok (.iconst 0, 1) := by decide +kernel
theorem dX1_readNumber_11 : decode cX1_readNumber 11 = .ok (.putfield 28, 3) := by decide +kernel
theorem dX1_readNumber_14 : decode cX1_readNumber 14 = .ok (.iconst 0, 1) := by decide +kernel
theorem dX1_readNumber_15 : decode cX1_readNumber 15 = .ok (.istore_n 1, 1) := by decide +kernel
theorem dX1_readNumber_16 : decode cX1_readNumber 16 = .ok (.iload_n 1, 1) := by decide +kernel
theorem dX1_readNumber_17 : decode cX1_readNumber 17 = .ok (.iconst 3, 1) := by decide +kernel
theorem dX1_readNumber_18 : decode cX1_readNumber 18 = .ok (.if_icmp .ge 54, 3) := by decide +kernel
theorem dX1_readNumber_21 : decode cX1_readNumber 21 = .ok (.aload_n 0, 1) := by decide +kernel
theorem dX1_readNumber_22 : decode cX1_readNumber 22 = .ok (.invokevirtual 69, 3) := by decide +kernel
theorem dX1_readNumber_25 : decode cX1_readNumber 25 = .ok (.ifCond .eq 47, 3) := by decide +kernel
theorem dX1_readNumber_28 : decode cX1_readNumber 28 = .ok (.aload_n 0, 1) := by decide +kernel
theorem dX1_readNumber_29 : decode cX1_readNumber 29 = .ok (.aload_n 0, 1) := by decide +kernel
theorem dX1_readNumber_30 : decode cX1_readNumber 30 = .ok (.getfield 28, 3) := by decide +kernel
theorem dX1_readNumber_33 : decode cX1_readNumber 33 = .ok (.bipush 10, 2) := by decide +kernel
theorem dX1_readNumber_35 : decode cX1_readNumber 35 = .ok (.imul, 1) := by decide +kernel
theorem dX1_readNumber_36 : decode cX1_readNumber 36 = .ok (.aload_n 0, 1) := by decide +kernel
theorem dX1_readNumber_37 : decode cX1_readNumber 37 = .ok (.invokevirtual 56, 3) := by decide +kernel
theorem dX1_readNumber_40 : decode cX1_readNumber 40 = .ok (.iadd, 1) := by decide +kernel
theorem dX1_readNumber_41 : decode cX1_readNumber 41 = .ok (.bipush 48, 2) := by decide +kernel
theorem dX1_readNumber_43 : decode cX1_readNumber 43 = .ok (.isub, 1) := by decide +kernel
theorem dX1_readNumber_44 : decode cX1_readNumber 44 = .ok (.putfield 28, 3) := by decide +kernel
theorem dX1_readNumber_47 : decode cX1_readNumber 47 = .ok (.aload_n 0, 1) := by decide +kernel
theorem dX1_readNumber_48 : decode cX1_readNumber 48 = .ok (.dup, 1) := by decide +kernel
theorem dX1_readNumber_49 : decode cX1_readNumber 49 = .ok (.getfield 19, 3) := by decide +kernel
theorem dX1_readNumber_52 : decode cX1_readNumber 52 = .ok (.iconst 1, 1) := by decide +kernel
theorem dX1_readNumber_53 : decode cX1_readNumber 53 = .ok (.iadd, 1) := by decide +kernel
theorem dX1_readNumber_54 : decode cX1_readNumber 54 = .ok (.putfield 19, 3) := by decide +kernel
theorem dX1_readNumber_57 : decode cX1_readNumber 57 = .ok (.aload_n 0, 1) := by decide +kernel
theorem dX1_readNumber_58 : decode cX1_readNumber 58 = .ok (.getfield 28, 3) := by decide +kernel
theorem dX1_readNumber_61 : decode cX1_readNumber 61 = .ok (.ifCond .ne 5, 3) := by decide +kernel
theorem dX1_readNumber_64 : decode cX1_readNumber 64 = .ok (.iconst 1, 1) := by decide +kernel
theorem dX1_readNumber_65 : decode cX1_readNumber 65 = .ok (.ireturn, 1) := by decide +kernel
theorem dX1_readNumber_66 : decode cX1_readNumber 66 = .ok (.iinc 1 1, 3) := by decide +kernel
theorem dX1_readNumber_69 : decode cX1_readNumber 69 = .ok (.goto (-53), 3) := by decide +kernel
theorem dX1_readNumber_72 : decode cX1_readNumber 72 = .ok (.iconst 1, 1) := by decide +kernel
theorem dX1_readNumber_73 : decode cX1_readNumber 73 = .ok (.ireturn, 1) := by decide +kernel
theorem dX1_readKind_0 : decode cX1_readKind 0 = .ok (.aload_n 0, 1) := by decide +kernel
theorem dX1_readKind_1 : decode cX1_readKind 1 = .ok (.invokevirtual 56, 3) := by decide +kernel
theorem dX1_readKind_4 : decode cX1_readKind 4 = .ok (.tableswitch 60 111 115 #[52, 60, 36, 60, 44], 36) := by decide +kernel
theorem dX1_readKind_40 : decode cX1_readKind 40 = .ok (.aload_n 0, 1) := by decide +kernel
theorem dX1_readKind_41 : decode cX1_readKind 41 = .ok (.iconst 0, 1) := by decide +kernel
theorem dX1_readKind_42 : decode cX1_readKind 42 = .ok (.putfield 31, 3) := by decide +kernel
theorem dX1_readKind_45 : decode cX1_readKind 45 = .ok (.goto 21, 3) := by decide +kernel
theorem dX1_readKind_48 : decode cX1_readKind 48 = .ok (.aload_n 0, 1) := by decide +kernel
theorem dX1_readKind_49 : decode cX1_readKind 49 = .ok (.iconst 1, 1) := by decide +kernel
theorem dX1_readKind_50 : decode cX1_readKind 50 = .ok (.putfield 31, 3) := by decide +kernel
theorem dX1_readKind_53 : decode cX1_readKind 53 = .ok (.goto 13, 3) := by decide +kernel
theorem dX1_readKind_56 : decode cX1_readKind 56 = .ok (.aload_n 0, 1) := by decide +kernel
theorem dX1_readKind_57 : decode cX1_readKind 57 = .ok (.iconst 2, 1) := by decide +kernel
theorem dX1_readKind_58 : decode cX1_readKind 58 = .ok (.putfield 31, 3) := by decide +kernel
theorem dX1_readKind_61 : decode cX1_readKind 61 = .ok (.goto 5, 3) := by decide +kernel
theorem dX1_readKind_64 : decode cX1_readKind 64 = .ok (.iconst 0, 1) := by decide +kernel
theorem dX1_readKind_65 : decode cX1_readKind 65 = .ok (.ireturn, 1) := by decide +kernel
theorem dX1_readKind_66 : decode cX1_readKind 66 = .ok (.aload_n 0, 1) := by decide +kernel
theorem dX1_readKind_67 : decode cX1_readKind 67 = .ok (.dup, 1) := by decide +kernel
theorem dX1_readKind_68 : decode cX1_readKind 68 = .ok (.getfield 19, 3) := by decide +kernel
theorem dX1_readKind_71 : decode cX1_readKind 71 = .ok (.iconst 1, 1) := by decide +kernel
theorem dX1_readKind_72 : decode cX1_readKind 72 = .ok (.iadd, 1) := by decide +kernel
theorem dX1_readKind_73 : decode cX1_readKind 73 = .ok (.putfield 19, 3) := by decide +kernel
theorem dX1_readKind_76 : decode cX1_readKind 76 = .ok (.iconst 1, 1) := by decide +kernel
theorem dX1_readKind_77 : decode cX1_readKind 77 = .ok (.ireturn, 1) := by decide +kernel
theorem dX1_skip_0 : decode cX1_skip 0 = .ok (.aload_n 0, 1) := by decide +kernel
theorem dX1_skip_1 : decode cX1_skip 1 = .ok (.invokevirtual 56, 3) := by decide +kernel
theorem dX1_skip_4 : decode cX1_skip 4 = .ok (.iload_n 1, 1) := by decide +kernel
theorem dX1_skip_5 : decode cX1_skip 5 = .ok (.if_icmp .eq 5, 3) := by decide +kernel
theorem dX1_skip_8 : decode cX1_skip 8 = .ok (.iconst 0, 1) := by decide +kernel
theorem dX1_skip_9 : decode cX1_skip 9 = .ok (.ireturn, 1) := by decide +kernel
theorem dX1_skip_10 : decode cX1_skip 10 = .ok (.aload_n 0, 1) := by decide +kernel
theorem dX1_skip_11 : decode cX1_skip 11 = .ok (.dup, 1) := by decide +kernel
theorem dX1_skip_12 : decode cX1_skip 12 = .ok (.getfield 19, 3) := by decide +kernel
theorem dX1_skip_15 : decode cX1_skip 15 = .ok (.iconst 1, 1) := by decide +kernel
theorem dX1_skip_16 : decode cX1_skip 16 = .ok (.iadd, 1) := by decide +kernel
theorem dX1_skip_17 : decode cX1_skip 17 = .ok (.putfield 19, 3) := by decide +kernel
theorem dX1_skip_20 : decode cX1_skip 20 = .ok (.iconst 1, 1) := by decide +kernel
theorem dX1_skip_21 : decode cX1_skip 21 = .ok (.ireturn, 1) := by decide +kernel
theorem dX1_isDigitHere_0 : decode cX1_isDigitHere 0 = .ok (.aload_n 0, 1) := by decide +kernel
theorem dX1_isDigitHere_1 : decode cX1_isDigitHere 1 = .ok (.invokevirtual 56, 3) := by decide +kernel
theorem dX1_isDigitHere_4 : decode cX1_isDigitHere 4 = .ok (.bipush 48, 2) := by decide +kernel
theorem dX1_isDigitHere_6 : decode cX1_isDigitHere 6 = .ok (.if_icmp .lt 16, 3) := by decide +kernel
theorem dX1_isDigitHere_9 : decode cX1_isDigitHere 9 = .ok (.aload_n 0, 1) := by decide +kernel
theorem dX1_isDigitHere_10 : decode cX1_isDigitHere 10 = .ok (.invokevirtual 56, 3) := by decide +kernel
theorem dX1_isDigitHere_13 : decode cX1_isDigitHere 13 = .ok (.bipush 57, 2) := by decide +kernel
theorem dX1_isDigitHere_15 : decode cX1_isDigitHere 15 = .ok (.if_icmp .gt 7, 3) := by decide +kernel
theorem dX1_isDigitHere_18 : decode cX1_isDigitHere 18 = .ok (.iconst 1, 1) := by decide +kernel
theorem dX1_isDigitHere_19 : decode cX1_isDigitHere 19 = .ok (.goto 4, 3) := by decide +kernel
theorem dX1_isDigitHere_22 : decode cX1_isDigitHere 22 = .ok (.iconst 0, 1) := by decide +kernel
theorem dX1_isDigitHere_23 : decode cX1_isDigitHere 23 = .ok (.ireturn, 1) := by decide +kernel
theorem dX1_codeHere_0 : decode cX1_codeHere 0 = .ok (.aload_n 0, 1) := by decide +kernel
theorem dX1_codeHere_1 : decode cX1_codeHere 1 = .ok (.getfield 19, 3) := by decide +kernel
theorem dX1_codeHere_4 : decode cX1_codeHere 4 = .ok (.ifCond .lt 26, 3) := by decide +kernel
theorem dX1_codeHere_7 : decode cX1_codeHere 7 = .ok (.aload_n 0, 1) := by decide +kernel
theorem dX1_codeHere_8 : decode cX1_codeHere 8 = .ok (.getfield 19, 3) := by decide +kernel
theorem dX1_codeHere_11 : decode cX1_codeHere 11 = .ok (.aload_n 0, 1) := by decide +kernel
theorem dX1_codeHere_12 : decode cX1_codeHere 12 = .ok (.getfield 15, 3) := by decide +kernel
theorem dX1_codeHere_15 : decode cX1_codeHere 15 = .ok (.if_icmp .ge 15, 3) := by decide +kernel
theorem dX1_codeHere_18 : decode cX1_codeHere 18 = .ok (.aload_n 0, 1) := by decide +kernel
theorem dX1_codeHere_19 : decode cX1_codeHere 19 = .ok (.getfield 11, 3) := by decide +kernel
theorem dX1_codeHere_22 : decode cX1_codeHere 22 = .ok (.aload_n 0, 1) := by decide +kernel
theorem dX1_codeHere_23 : decode cX1_codeHere 23 = .ok (.getfield 19, 3) := by decide +kernel
theorem dX1_codeHere_26 : decode cX1_codeHere 26 = .ok (.iaload, 1) := by decide +kernel
theorem dX1_codeHere_27 : decode cX1_codeHere 27 = .ok (.goto 4, 3) := by decide +kernel
theorem dX1_codeHere_30 : decode cX1_codeHere 30 = .ok (.iconst 0, 1) := by decide +kernel
theorem dX1_codeHere_31 : decode cX1_codeHere 31 = .ok (.ireturn, 1) := by decide +kernel
theorem dX2_init_0 : decode cX2_init 0 = .ok (.aload_n 0, 1) := by decide +kernel
theorem dX2_init_1 : decode cX2_init 1 = .ok (.invokespecial 3, 3) := by decide +kernel
theorem dX2_init_4 : decode cX2_init 4 = .ok (.aload_n 0, 1) := by decide +kernel
theorem dX2_init_5 : decode cX2_init 5 = .ok (.new 9, 3) := by decide +kernel
theorem dX2_init_8 : decode cX2_init 8 = .ok (.dup, 1) := by decide +kernel
theorem dX2_init_9 : decode cX2_init 9 = .ok (.invokespecial 11, 3) := by decide +kernel
theorem dX2_init_12 : decode cX2_init 12 = .ok (.putfield 12, 3) := by decide +kernel
theorem dX2_init_15 : decode cX2_init 15 = .ok (.aload_n 0, 1) := by decide +kernel
theorem dX2_init_16 : decode cX2_init 16 = .ok (.new 9, 3) := by decide +kernel
theorem dX2_init_19 : decode cX2_init 19 = .ok (.dup, 1) := by decide +kernel
theorem dX2_init_20 : decode cX2_init 20 = .ok (.invokespecial 11, 3) := by decide +kernel
theorem dX2_init_23 : decode cX2_init 23 = .ok (.putfield 16, 3) := by decide +kernel
theorem dX2_init_26 : decode cX2_init 26 = .ok (.aload_n 0, 1) := by decide +kernel
theorem dX2_init_27 : decode cX2_init 27 = .ok (.new 19, 3) := by decide +kernel
theorem dX2_init_30 : decode cX2_init 30 = .ok (.dup, 1) := by decide +kernel
theorem dX2_init_31 : decode cX2_init 31 = .ok (.invokespecial 21, 3) := by decide +kernel
theorem dX2_init_34 : decode cX2_init 34 = .ok (.putfield 22, 3) := by decide +kernel
theorem dX2_init_37 : decode cX2_init 37 = .ok (.aload_n 0, 1) := by decide +kernel
theorem dX2_init_38 : decode cX2_init 38 = .ok (.bipush 7, 2) := by decide +kernel
theorem dX2_init_40 : decode cX2_init 40 = .ok (.bipush 125, 2) := by decide +kernel
theorem dX2_init_42 : decode cX2_init 42 = .ok (.multianewarray 26 2, 4) := by decide +kernel
theorem dX2_init_46 : decode cX2_init 46 = .ok (.putfield 28, 3) := by decide +kernel
theorem dX2_init_49 : decode cX2_init 49 = .ok (.aload_n 0, 1) := by decide +kernel
theorem dX2_init_50 : decode cX2_init 50 = .ok (.iconst 2, 1) := by decide +kernel
theorem dX2_init_51 : decode cX2_init 51 = .ok (.bipush 125, 2) := by decide +kernel
theorem dX2_init_53 : decode cX2_init 53 = .ok (.multianewarray 26 2, 4) := by decide +kernel
theorem dX2_init_57 : decode cX2_init 57 = .ok (.putfield 31, 3) := by decide +kernel
theorem dX2_init_60 : decode cX2_init 60 = .ok (.aload_n 0, 1) := by decide +kernel
theorem dX2_init_61 : decode cX2_init 61 = .ok (.iconst 2, 1) := by decide +kernel
theorem dX2_init_62 : decode cX2_init 62 = .ok (.newarray .boolean, 2) := by decide +kernel
theorem dX2_init_64 : decode cX2_init 64 = .ok (.putfield 34, 3) := by decide +kernel
theorem dX2_init_67 : decode cX2_init 67 = .ok (.aload_n 0, 1) := by decide +kernel
theorem dX2_init_68 : decode cX2_init 68 = .ok (.iconst 0, 1) := by decide +kernel
theorem dX2_init_69 : decode cX2_init 69 = .ok (.putfield 38, 3) := by decide +kernel
theorem dX2_init_72 : decode cX2_init 72 = .ok (.aload_n 0, 1) := by decide +kernel
theorem dX2_init_73 : decode cX2_init 73 = .ok (.iconst 0, 1) := by decide +kernel
theorem dX2_init_74 : decode cX2_init 74 = .ok (.putfield 42, 3) := by decide +kernel
theorem dX2_init_77 : decode cX2_init 77 = .ok (.return_, 1) := by decide +kernel
theorem dX2_set_0 : decode cX2_set 0 = .ok (.aload_n 0, 1) := by decide +kernel
theorem dX2_set_1 : decode cX2_set 1 = .ok (.invokevirtual 45, 3) := by decide +kernel
theorem dX2_set_4 : decode cX2_set 4 = .ok (.aload_n 0, 1) := by decide +kernel
theorem dX2_set_5 : decode cX2_set 5 = .ok (.aload_n 0, 1) := by decide +kernel
theorem dX2_set_6 : decode cX2_set 6 = .ok (.getfield 12, 3) := by decide +kernel
theorem dX2_set_9 : decode cX2_set 9 = .ok (.iload_n 1, 1) := by decide +kernel
theorem dX2_set_10 : decode cX2_set 10 = .ok (.iload_n 2, 1) := by decide +kernel
theorem dX2_set_11 : decode cX2_set 11 = .ok (.invokevirtual 48, 3) := by decide +kernel
theorem dX2_set_14 : decode cX2_set 14 = .ok (.invokevirtual 52, 3) := by decide +kernel
theorem dX2_set_17 : decode cX2_set 17 = .ok (.ireturn, 1) := by decide +kernel
theorem dX2_board_0 : decode cX2_board 0 = .ok (.aload_n 0, 1) := by decide +kernel
theorem dX2_board_1 : decode cX2_board 1 = .ok (.invokevirtual 45, 3) := by decide +kernel
theorem dX2_board_4 : decode cX2_board 4 = .ok (.aload_n 0, 1) := by decide +kernel
theorem dX2_board_5 : decode cX2_board 5 = .ok (.aload_n 0, 1) := by decide +kernel
theorem dX2_board_6 : decode cX2_board 6 = .ok (.getfield 12, 3) := by decide +kernel
theorem dX2_board_9 : decode cX2_board 9 = .ok (.iload_n 1, 1) := by decide +kernel
theorem dX2_board_10 : decode cX2_board 10 = .ok (.iload_n 2, 1) := by decide +kernel
theorem dX2_board_11 : decode cX2_board 11 = .ok (.iload_n 3, 1) := by decide +kernel
theorem dX2_board_12 : decode cX2_board 12 = .ok (.invokevirtual 56, 3) := by decide +kernel
theorem dX2_board_15 : decode cX2_board 15 = .ok (.invokevirtual 52, 3) := by decide +kernel
theorem dX2_board_18 : decode cX2_board 18 = .ok (.ireturn, 1) := by decide +kernel
theorem dX2_load_0 : decode cX2_load 0 = .ok (.aload_n 0, 1) := by decide +kernel
theorem dX2_load_1 : decode cX2_load 1 = .ok (.invokevirtual 45, 3) := by decide +kernel
theorem dX2_load_4 : decode cX2_load 4 = .ok (.aload_n 0, 1) := by decide +kernel
theorem dX2_load_5 : decode cX2_load 5 = .ok (.aload_n 0, 1) := by decide +kernel
theorem dX2_load_6 : decode cX2_load 6 = .ok (.getfield 12, 3) := by decide +kernel
theorem dX2_load_9 : decode cX2_load 9 = .ok (.iload_n 1, 1) := by decide +kernel
theorem dX2_load_10 : decode cX2_load 10 = .ok (.iload_n 2, 1) := by decide +kernel
theorem dX2_load_11 : decode cX2_load 11 = .ok (.invokevirtual 60, 3) := by decide +kernel
theorem dX2_load_14 : decode cX2_load 14 = .ok (.invokevirtual 52, 3) := by decide +kernel
theorem dX2_load_17 : decode cX2_load 17 = .ok (.ireturn, 1) := by decide +kernel
theorem dX2_turn_0 : decode cX2_turn 0 = .ok (.aload_n 0, 1) := by decide +kernel
theorem dX2_turn_1 : decode cX2_turn 1 = .ok (.invokevirtual 45, 3) := by decide +kernel
theorem dX2_turn_4 : decode cX2_turn 4 = .ok (.aload_n 0, 1) := by decide +kernel
theorem dX2_turn_5 : decode cX2_turn 5 = .ok (.aload_n 0, 1) := by decide +kernel
theorem dX2_turn_6 : decode cX2_turn 6 = .ok (.getfield 12, 3) := by decide +kernel
theorem dX2_turn_9 : decode cX2_turn 9 = .ok (.iload_n 1, 1) := by decide +kernel
theorem dX2_turn_10 : decode cX2_turn 10 = .ok (.invokevirtual 63, 3) := by decide +kernel
theorem dX2_turn_13 : decode cX2_turn 13 = .ok (.invokevirtual 52, 3) := by decide +kernel
theorem dX2_turn_16 : decode cX2_turn 16 = .ok (.ireturn, 1) := by decide +kernel
theorem dX2_fuse_0 : decode cX2_fuse 0 = .ok (.aload_n 0, 1) := by decide +kernel
theorem dX2_fuse_1 : decode cX2_fuse 1 = .ok (.invokevirtual 45, 3) := by decide +kernel
theorem dX2_fuse_4 : decode cX2_fuse 4 = .ok (.aload_n 0, 1) := by decide +kernel
theorem dX2_fuse_5 : decode cX2_fuse 5 = .ok (.aload_n 0, 1) := by decide +kernel
theorem dX2_fuse_6 : decode cX2_fuse 6 = .ok (.getfield 12, 3) := by decide +kernel
theorem dX2_fuse_9 : decode cX2_fuse 9 = .ok (.iload_n 1, 1) := by decide +kernel
theorem dX2_fuse_10 : decode cX2_fuse 10 = .ok (.iload_n 2, 1) := by decide +kernel
theorem dX2_fuse_11 : decode cX2_fuse 11 = .ok (.iload_n 3, 1) := by decide +kernel
theorem dX2_fuse_12 : decode cX2_fuse 12 = .ok (.invokevirtual 66, 3) := by decide +kernel
theorem dX2_fuse_15 : decode cX2_fuse 15 = .ok (.invokevirtual 52, 3) := by decide +kernel
theorem dX2_fuse_18 : decode cX2_fuse 18 = .ok (.ireturn, 1) := by decide +kernel
theorem dX2_pass_0 : decode cX2_pass 0 = .ok (.aload_n 0, 1) := by decide +kernel
theorem dX2_pass_1 : decode cX2_pass 1 = .ok (.invokevirtual 45, 3) := by decide +kernel
theorem dX2_pass_4 : decode cX2_pass 4 = .ok (.aload_n 0, 1) := by decide +kernel
theorem dX2_pass_5 : decode cX2_pass 5 = .ok (.aload_n 0, 1) := by decide +kernel
theorem dX2_pass_6 : decode cX2_pass 6 = .ok (.getfield 12, 3) := by decide +kernel
theorem dX2_pass_9 : decode cX2_pass 9 = .ok (.iload_n 1, 1) := by decide +kernel
theorem dX2_pass_10 : decode cX2_pass 10 = .ok (.invokevirtual 69, 3) := by decide +kernel
theorem dX2_pass_13 : decode cX2_pass 13 = .ok (.invokevirtual 52, 3) := by decide +kernel
theorem dX2_pass_16 : decode cX2_pass 16 = .ok (.ireturn, 1) := by decide +kernel
theorem dX2_of_0 : decode cX2_of 0 = .ok (.aload_n 0, 1) := by decide +kernel
theorem dX2_of_1 : decode cX2_of 1 = .ok (.getfield 12, 3) := by decide +kernel
theorem dX2_of_4 : decode cX2_of 4 = .ok (.iload_n 1, 1) := by decide +kernel
theorem dX2_of_5 : decode cX2_of 5 = .ok (.invokevirtual 72, 3) := by decide +kernel
theorem dX2_of_8 : decode cX2_of 8 = .ok (.ifCond .ne 5, 3) := by decide +kernel
theorem dX2_of_11 : decode cX2_of 11 = .ok (.iconst (-1), 1) := by decide +kernel
theorem dX2_of_12 : decode cX2_of 12 = .ok (.ireturn, 1) := by decide +kernel
theorem dX2_of_13 : decode cX2_of 13 = .ok (.aload_n 0, 1) := by decide +kernel
theorem dX2_of_14 : decode cX2_of 14 = .ok (.getfield 12, 3) := by decide +kernel
theorem dX2_of_17 : decode cX2_of 17 = .ok (.iload_n 1, 1) := by decide +kernel
theorem dX2_of_18 : decode cX2_of 18 = .ok (.iload_n 2, 1) := by decide +kernel
theorem dX2_of_19 : decode cX2_of 19 = .ok (.invokevirtual 76, 3) := by decide +kernel
theorem dX2_of_22 : decode cX2_of 22 = .ok (.ireturn, 1) := by decide +kernel
theorem dX2_ofLoad_0 : decode cX2_ofLoad 0 = .ok (.aload_n 0, 1) := by decide +kernel
theorem dX2_ofLoad_1 : decode cX2_ofLoad 1 = .ok (.getfield 12, 3) := by decide +kernel
theorem dX2_ofLoad_4 : decode cX2_ofLoad 4 = .ok (.iload_n 1, 1) := by decide +kernel
theorem dX2_ofLoad_5 : decode cX2_ofLoad 5 = .ok (.invokevirtual 79, 3) := by decide +kernel
theorem dX2_ofLoad_8 : decode cX2_ofLoad 8 = .ok (.ifCond .ne 5, 3) := by decide +kernel
theorem dX2_ofLoad_11 : decode cX2_ofLoad 11 = .ok (.iconst (-1), 1) := by decide +kernel
theorem dX2_ofLoad_12 : decode cX2_ofLoad 12 = .ok (.ireturn, 1) := by decide +kernel
theorem dX2_ofLoad_13 : decode cX2_ofLoad 13 = .ok (.aload_n 0, 1) := by decide +kernel
theorem dX2_ofLoad_14 : decode cX2_ofLoad 14 = .ok (.getfield 12, 3) := by decide +kernel
theorem dX2_ofLoad_17 : decode cX2_ofLoad 17 = .ok (.iload_n 1, 1) := by decide +kernel
theorem dX2_ofLoad_18 : decode cX2_ofLoad 18 = .ok (.iload_n 2, 1) := by decide +kernel
theorem dX2_ofLoad_19 : decode cX2_ofLoad 19 = .ok (.invokevirtual 82, 3) := by decide +kernel
theorem dX2_ofLoad_22 : decode cX2_ofLoad 22 = .ok (.ireturn, 1) := by decide +kernel
theorem dX2_fed_0 : decode cX2_fed 0 = .ok (.aload_n 0, 1) := by decide +kernel
theorem dX2_fed_1 : decode cX2_fed 1 = .ok (.getfield 12, 3) := by decide +kernel
theorem dX2_fed_4 : decode cX2_fed 4 = .ok (.iload_n 1, 1) := by decide +kernel
theorem dX2_fed_5 : decode cX2_fed 5 = .ok (.invokevirtual 72, 3) := by decide +kernel
theorem dX2_fed_8 : decode cX2_fed 8 = .ok (.ifCond .ne 5, 3) := by decide +kernel
theorem dX2_fed_11 : decode cX2_fed 11 = .ok (.iconst (-1), 1) := by decide +kernel
theorem dX2_fed_12 : decode cX2_fed 12 = .ok (.ireturn, 1) := by decide +kernel
theorem dX2_fed_13 : decode cX2_fed 13 = .ok (.aload_n 0, 1) := by decide +kernel
theorem dX2_fed_14 : decode cX2_fed 14 = .ok (.getfield 12, 3) := by decide +kernel
theorem dX2_fed_17 : decode cX2_fed 17 = .ok (.iload_n 1, 1) := by decide +kernel
theorem dX2_fed_18 : decode cX2_fed 18 = .ok (.invokevirtual 85, 3) := by decide +kernel
theorem dX2_fed_21 : decode cX2_fed 21 = .ok (.ireturn, 1) := by decide +kernel
theorem dX2_blown_0 : decode cX2_blown 0 = .ok (.aload_n 0, 1) := by decide +kernel
theorem dX2_blown_1 : decode cX2_blown 1 = .ok (.getfield 12, 3) := by decide +kernel
theorem dX2_blown_4 : decode cX2_blown 4 = .ok (.iload_n 1, 1) := by decide +kernel
theorem dX2_blown_5 : decode cX2_blown 5 = .ok (.invokevirtual 88, 3) := by decide +kernel
theorem dX2_blown_8 : decode cX2_blown 8 = .ok (.ireturn, 1) := by decide +kernel
theorem dX2_count_0 : decode cX2_count 0 = .ok (.iload_n 1, 1) := by decide +kernel
theorem dX2_count_1 : decode cX2_count 1 = .ok (.bipush 12, 2) := by decide +kernel
theorem dX2_count_3 : decode cX2_count 3 = .ok (.if_icmp .ne 11, 3) := by decide +kernel
theorem dX2_count_6 : decode cX2_count 6 = .ok (.aload_n 0, 1) := by decide +kernel
theorem dX2_count_7 : decode cX2_count 7 = .ok (.getfield 22, 3) := by decide +kernel
theorem dX2_count_10 : decode cX2_count 10 = .ok (.invokevirtual 91, 3) := by decide +kernel
theorem dX2_count_13 : decode cX2_count 13 = .ok (.ireturn, 1) := by decide +kernel
theorem dX2_count_14 : decode cX2_count 14 = .ok (.iload_n 1, 1) := by decide +kernel
theorem dX2_count_15 : decode cX2_count 15 = .ok (.bipush 13, 2) := by decide +kernel
theorem dX2_count_17 : decode cX2_count 17 = .ok (.if_icmp .ne 8, 3) := by decide +kernel
theorem dX2_count_20 : decode cX2_count 20 = .ok (.aload_n 0, 1) := by decide +kernel
theorem dX2_count_21 : decode cX2_count 21 = .ok (.getfield 42, 3) := by decide +kernel
theorem dX2_count_24 : decode cX2_count 24 = .ok (.ireturn, 1) := by decide +kernel
theorem dX2_count_25 : decode cX2_count 25 = .ok (.aload_n 0, 1) := by decide +kernel
theorem dX2_count_26 : decode cX2_count 26 = .ok (.getfield 12, 3) := by decide +kernel
theorem dX2_count_29 : decode cX2_count 29 = .ok (.iload_n 1, 1) := by decide +kernel
theorem dX2_count_30 : decode cX2_count 30 = .ok (.invokevirtual 95, 3) := by decide +kernel
theorem dX2_count_33 : decode cX2_count 33 = .ok (.ireturn, 1) := by decide +kernel
theorem dX2_next_0 : decode cX2_next 0 = .ok (.iload_n 1, 1) := by decide +kernel
theorem dX2_next_1 : decode cX2_next 1 = .ok (.invokestatic 98, 3) := by decide +kernel
theorem dX2_next_4 : decode cX2_next 4 = .ok (.ifCond .ne 6, 3) := by decide +kernel
theorem dX2_next_7 : decode cX2_next 7 = .ok (.bipush (-2), 2) := by decide +kernel
theorem dX2_next_9 : decode cX2_next 9 = .ok (.ireturn, 1) := by decide +kernel
theorem dX2_next_10 : decode cX2_next 10 = .ok (.aload_n 0, 1) := by decide +kernel
theorem dX2_next_11 : decode cX2_next 11 = .ok (.getfield 16, 3) := by decide +kernel
theorem dX2_next_14 : decode cX2_next 14 = .ok (.aload_n 0, 1) := by decide +kernel
theorem dX2_next_15 : decode cX2_next 15 = .ok (.getfield 12, 3) := by decide +kernel
theorem dX2_next_18 : decode cX2_next 18 = .ok (.invokevirtual 101, 3) := by decide +kernel
theorem dX2_next_21 : decode cX2_next 21 = .ok (.aload_n 0, 1) := by decide +kernel
theorem dX2_next_22 : decode cX2_next 22 = .ok (.iload_n 1, 1) := by decide +kernel
theorem dX2_next_23 : decode cX2_next 23 = .ok (.invokevirtual 105, 3) := by decide +kernel
theorem dX2_next_26 : decode cX2_next 26 = .ok (.ireturn, 1) := by decide +kernel
theorem dX2_test_0 : decode cX2_test 0 = .ok (.aload_n 0, 1) := by decide +kernel
theorem dX2_test_1 : decode cX2_test 1 = .ok (.getfield 12, 3) := by decide +kernel
theorem dX2_test_4 : decode cX2_test 4 = .ok (.iload_n 1, 1) := by decide +kernel
theorem dX2_test_5 : decode cX2_test 5 = .ok (.invokevirtual 72, 3) := by decide +kernel
theorem dX2_test_8 : decode cX2_test 8 = .ok (.ifCond .ne 5, 3) := by decide +kernel
theorem dX2_test_11 : decode cX2_test 11 = .ok (.iconst (-1), 1) := by decide +kernel
theorem dX2_test_12 : decode cX2_test 12 = .ok (.ireturn, 1) := by decide +kernel
theorem dX2_test_13 : decode cX2_test 13 = .ok (.iload_n 2, 1) := by decide +kernel
theorem dX2_test_14 : decode cX2_test 14 = .ok (.iconst 1, 1) := by decide +kernel
theorem dX2_test_15 : decode cX2_test 15 = .ok (.if_icmp .lt 17, 3) := by decide +kernel
theorem dX2_test_18 : decode cX2_test 18 = .ok (.iload_n 2, 1) := by decide +kernel
theorem dX2_test_19 : decode cX2_test 19 = .ok (.sipush 9999, 3) := by decide +kernel
theorem dX2_test_22 : decode cX2_test 22 = .ok (.if_icmp .gt 10, 3) := by decide +kernel
theorem dX2_test_25 : decode cX2_test 25 = .ok (.iload_n 3, 1) := by decide +kernel
theorem dX2_test_26 : decode cX2_test 26 = .ok (.invokestatic 98, 3) := by decide +kernel
theorem dX2_test_29 : decode cX2_test 29 = .ok (.ifCond .ne 6, 3) := by decide +kernel
theorem dX2_test_32 : decode cX2_test 32 = .ok (.bipush (-2), 2) := by decide +kernel
theorem dX2_test_34 : decode cX2_test 34 = .ok (.ireturn, 1) := by decide +kernel
theorem dX2_test_35 : decode cX2_test 35 = .ok (.aload_n 0, 1) := by decide +kernel
theorem dX2_test_36 : decode cX2_test 36 = .ok (.iload_n 1, 1) := by decide +kernel
theorem dX2_test_37 : decode cX2_test 37 = .ok (.iload_n 2, 1) := by decide +kernel
theorem dX2_test_38 : decode cX2_test 38 = .ok (.iload_n 3, 1) := by decide +kernel
theorem dX2_test_39 : decode cX2_test 39 = .ok (.invokevirtual 108, 3) := by decide +kernel
theorem dX2_test_42 : decode cX2_test 42 = .ok (.ireturn, 1) := by decide +kernel
theorem dX2_unfair_0 : decode cX2_unfair 0 = .ok (.iload_n 1, 1) := by decide +kernel
theorem dX2_unfair_1 : decode cX2_unfair 1 = .ok (.iconst 2, 1) := by decide +kernel
theorem dX2_unfair_2 : decode cX2_unfair 2 = .ok (.if_icmp .lt 9, 3) := by decide +kernel
theorem dX2_unfair_5 : decode cX2_unfair 5 = .ok (.iload_n 1, 1) := by decide +kernel
theorem dX2_unfair_6 : decode cX2_unfair 6 = .ok (.bipush 20, 2) := by decide +kernel
theorem dX2_unfair_8 : decode cX2_unfair 8 = .ok (.if_icmp .le 6, 3) := by decide +kernel
theorem dX2_unfair_11 : decode cX2_unfair 11 = .ok (.bipush (-2), 2) := by decide +kernel
theorem dX2_unfair_13 : decode cX2_unfair 13 = .ok (.ireturn, 1) := by decide +kernel
theorem dX2_unfair_14 : decode cX2_unfair 14 = .ok (.iconst 0, 1) := by decide +kernel
theorem dX2_unfair_15 : decode cX2_unfair 15 = .ok (.istore_n 2, 1) := by decide +kernel
theorem dX2_unfair_16 : decode cX2_unfair 16 = .ok (.iconst 0, 1) := by decide +kernel
theorem dX2_unfair_17 : decode cX2_unfair 17 = .ok (.istore_n 3, 1) := by decide +kernel
theorem dX2_unfair_18 : decode cX2_unfair 18 = .ok (.iload_n 3, 1) := by decide +kernel
theorem dX2_unfair_19 : decode cX2_unfair 19 = .ok (.aload_n 0, 1) := by decide +kernel
theorem dX2_unfair_20 : decode cX2_unfair 20 = .ok (.getfield 12, 3) := by decide +kernel
theorem dX2_unfair_23 : decode cX2_unfair 23 = .ok (.invokevirtual 111, 3) := by decide +kernel
theorem dX2_unfair_26 : decode cX2_unfair 26 = .ok (.if_icmp .ge 46, 3) := by decide +kernel
theorem dX2_unfair_29 : decode cX2_unfair 29 = .ok (.aload_n 0, 1) := by decide +kernel
theorem dX2_unfair_30 : decode cX2_unfair 30 = .ok (.iload_n 3, 1) := by decide +kernel
theorem dX2_unfair_31 : decode cX2_unfair 31 = .ok (.iload_n 1, 1) := by decide +kernel
theorem dX2_unfair_32 : decode cX2_unfair 32 = .ok (.aload_n 0, 1) := by decide +kernel
theorem dX2_unfair_33 : decode cX2_unfair 33 = .ok (.getfield 12, 3) := by decide +kernel
theorem dX2_unfair_36 : decode cX2_unfair 36 = .ok (.iload_n 3, 1) := by decide +kernel
theorem dX2_unfair_37 : decode cX2_unfair 37 = .ok (.invokevirtual 114, 3) := by decide +kernel
theorem dX2_unfair_40 : decode cX2_unfair 40 = .ok (.imul, 1) := by decide +kernel
theorem dX2_unfair_41 : decode cX2_unfair 41 = .ok (.iconst 1, 1) := by decide +kernel
theorem dX2_unfair_42 : decode cX2_unfair 42 = .ok (.invokevirtual 108, 3) := by decide +kernel
theorem dX2_unfair_45 : decode cX2_unfair 45 = .ok (.istore 4, 2) := by decide +kernel
theorem dX2_unfair_47 : decode cX2_unfair 47 = .ok (.iload 4, 2) := by decide +kernel
theorem dX2_unfair_49 : decode cX2_unfair 49 = .ok (.bipush (-6), 2) := by decide +kernel
theorem dX2_unfair_51 : decode cX2_unfair 51 = .ok (.if_icmp .eq 15, 3) := by decide +kernel
theorem dX2_unfair_54 : decode cX2_unfair 54 = .ok (.iload 4, 2) := by decide +kernel
theorem dX2_unfair_56 : decode cX2_unfair 56 = .ok (.iload_n 3, 1) := by decide +kernel
theorem dX2_unfair_57 : decode cX2_unfair 57 = .ok (.if_icmp .eq 9, 3) := by decide +kernel
theorem dX2_unfair_60 : decode cX2_unfair 60 = .ok (.iload_n 2, 1) := by decide +kernel
theorem dX2_unfair_61 : decode cX2_unfair 61 = .ok (.iconst 1, 1) := by decide +kernel
theorem dX2_unfair_62 : decode cX2_unfair 62 = .ok (.iload_n 3, 1) := by decide +kernel
theorem dX2_unfair_63 : decode cX2_unfair 63 = .ok (.ishl, 1) := by decide +kernel
theorem dX2_unfair_64 : decode cX2_unfair 64 = .ok (.ior, 1) := by decide +kernel
theorem dX2_unfair_65 : decode cX2_unfair 65 = .ok (.istore_n 2, 1) := by decide +kernel
theorem dX2_unfair_66 : decode cX2_unfair 66 = .ok (.iinc 3 1, 3) := by decide +kernel
theorem dX2_unfair_69 : decode cX2_unfair 69 = .ok (.goto (-51), 3) := by decide +kernel
theorem dX2_unfair_72 : decode cX2_unfair 72 = .ok (.iload_n 2, 1) := by decide +kernel
theorem dX2_unfair_73 : decode cX2_unfair 73 = .ok (.ireturn, 1) := by decide +kernel
theorem dX2_ifOpen_0 : decode cX2_ifOpen 0 = .ok (.aload_n 0, 1) := by decide +kernel
theorem dX2_ifOpen_1 : decode cX2_ifOpen 1 = .ok (.getfield 12, 3) := by decide +kernel
theorem dX2_ifOpen_4 : decode cX2_ifOpen 4 = .ok (.iload_n 1, 1) := by decide +kernel
theorem dX2_ifOpen_5 : decode cX2_ifOpen 5 = .ok (.invokevirtual 72, 3) := by decide +kernel
theorem dX2_ifOpen_8 : decode cX2_ifOpen 8 = .ok (.ifCond .ne 5, 3) := by decide +kernel
theorem dX2_ifOpen_11 : decode cX2_ifOpen 11 = .ok (.iconst (-1), 1) := by decide +kernel
theorem dX2_ifOpen_12 : decode cX2_ifOpen 12 = .ok (.ireturn, 1) := by decide +kernel
theorem dX2_ifOpen_13 : decode cX2_ifOpen 13 = .ok (.aload_n 0, 1) := by decide +kernel
theorem dX2_ifOpen_14 : decode cX2_ifOpen 14 = .ok (.getfield 12, 3) := by decide +kernel
theorem dX2_ifOpen_17 : decode cX2_ifOpen 17 = .ok (.aload_n 0, 1) := by decide +kernel
theorem dX2_ifOpen_18 : decode cX2_ifOpen 18 = .ok (.getfield 12, 3) := by decide +kernel
theorem dX2_ifOpen_21 : decode cX2_ifOpen 21 = .ok (.iload_n 1, 1) := by decide +kernel
theorem dX2_ifOpen_22 : decode cX2_ifOpen 22 = .ok (.invokevirtual 85, 3) := by decide +kernel
theorem dX2_ifOpen_25 : decode cX2_ifOpen 25 = .ok (.invokevirtual 117, 3) := by decide +kernel
theorem dX2_ifOpen_28 : decode cX2_ifOpen 28 = .ok (.ireturn, 1) := by decide +kernel
theorem dX2_put_0 : decode cX2_put 0 = .ok (.aload_n 0, 1) := by decide +kernel
theorem dX2_put_1 : decode cX2_put 1 = .ok (.getfield 22, 3) := by decide +kernel
theorem dX2_put_4 : decode cX2_put 4 = .ok (.lload_n 1, 1) := by decide +kernel
theorem dX2_put_5 : decode cX2_put 5 = .ok (.invokevirtual 120, 3) := by decide +kernel
theorem dX2_put_8 : decode cX2_put 8 = .ok (.ireturn, 1) := by decide +kernel
theorem dX2_wipe_0 : decode cX2_wipe 0 = .ok (.aload_n 0, 1) := by decide +kernel
theorem dX2_wipe_1 : decode cX2_wipe 1 = .ok (.getfield 22, 3) := by decide +kernel
theorem dX2_wipe_4 : decode cX2_wipe 4 = .ok (.invokevirtual 124, 3) := by decide +kernel
theorem dX2_wipe_7 : decode cX2_wipe 7 = .ok (.ireturn, 1) := by decide +kernel
theorem dX2_fault_0 : decode cX2_fault 0 = .ok (.aload_n 0, 1) := by decide +kernel
theorem dX2_fault_1 : decode cX2_fault 1 = .ok (.getfield 22, 3) := by decide +kernel
theorem dX2_fault_4 : decode cX2_fault 4 = .ok (.invokevirtual 127, 3) := by decide +kernel
theorem dX2_fault_7 : decode cX2_fault 7 = .ok (.ireturn, 1) := by decide +kernel
theorem dX2_carryOut_0 : decode cX2_carryOut 0 = .ok (.aload_n 0, 1) := by decide +kernel
theorem dX2_carryOut_1 : decode cX2_carryOut 1 = .ok (.getfield 22, 3) := by decide +kernel
theorem dX2_carryOut_4 : decode cX2_carryOut 4 = .ok (.invokevirtual 127, 3) := by decide +kernel
theorem dX2_carryOut_7 : decode cX2_carryOut 7 = .ok (.bipush (-6), 2) := by decide +kernel
theorem dX2_carryOut_9 : decode cX2_carryOut 9 = .ok (.if_icmp .eq 6, 3) := by decide +kernel
theorem dX2_carryOut_12 : decode cX2_carryOut 12 = .ok (.bipush (-3), 2) := by decide +kernel
theorem dX2_carryOut_14 : decode cX2_carryOut 14 = .ok (.ireturn, 1) := by decide +kernel
theorem dX2_carryOut_15 : decode cX2_carryOut 15 = .ok (.aload_n 0, 1) := by decide +kernel
theorem dX2_carryOut_16 : decode cX2_carryOut 16 = .ok (.invokevirtual 45, 3) := by decide +kernel
theorem dX2_carryOut_19 : decode cX2_carryOut 19 = .ok (.iconst 0, 1) := by decide +kernel
theorem dX2_carryOut_20 : decode cX2_carryOut 20 = .ok (.istore_n 1, 1) := by decide +kernel
theorem dX2_carryOut_21 : decode cX2_carryOut 21 = .ok (.aload_n 0, 1) := by decide +kernel
theorem dX2_carryOut_22 : decode cX2_carryOut 22 = .ok (.getfield 22, 3) := by decide +kernel
theorem dX2_carryOut_25 : decode cX2_carryOut 25 = .ok (.invokevirtual 130, 3) := by decide +kernel
theorem dX2_carryOut_28 : decode cX2_carryOut 28 = .ok (.istore_n 2, 1) := by decide +kernel
theorem dX2_carryOut_29 : decode cX2_carryOut 29 = .ok (.iload_n 2, 1) := by decide +kernel
theorem dX2_carryOut_30 : decode cX2_carryOut 30 = .ok (.ifCond .eq 30, 3) := by decide +kernel
theorem dX2_carryOut_33 : decode cX2_carryOut 33 = .ok (.iload_n 1, 1) := by decide +kernel
theorem dX2_carryOut_34 : decode cX2_carryOut 34 = .ok (.bipush 80, 2) := by decide +kernel
theorem dX2_carryOut_36 : decode cX2_carryOut 36 = .ok (.if_icmp .ge 24, 3) := by decide +kernel
theorem dX2_carryOut_39 : decode cX2_carryOut 39 = .ok (.aload_n 0, 1) := by decide +kernel
theorem dX2_carryOut_40 : decode cX2_carryOut 40 = .ok (.invokevirtual 134, 3) := by decide +kernel
theorem dX2_carryOut_43 : decode cX2_carryOut 43 = .ok (.ifCond .lt 17, 3) := by decide +kernel
theorem dX2_carryOut_46 : decode cX2_carryOut 46 = .ok (.iinc 1 1, 3) := by decide +kernel
theorem dX2_carryOut_49 : decode cX2_carryOut 49 = .ok (.aload_n 0, 1) := by decide +kernel
theorem dX2_carryOut_50 : decode cX2_carryOut 50 = .ok (.getfield 22, 3) := by decide +kernel
theorem dX2_carryOut_53 : decode cX2_carryOut 53 = .ok (.invokevirtual 137, 3) := by decide +kernel
theorem dX2_carryOut_56 : decode cX2_carryOut 56 = .ok (.istore_n 2, 1) := by decide +kernel
theorem dX2_carryOut_57 : decode cX2_carryOut 57 = .ok (.goto (-28), 3) := by decide +kernel
theorem dX2_carryOut_60 : decode cX2_carryOut 60 = .ok (.aload_n 0, 1) := by decide +kernel
theorem dX2_carryOut_61 : decode cX2_carryOut 61 = .ok (.getfield 22, 3) := by decide +kernel
theorem dX2_carryOut_64 : decode cX2_carryOut 64 = .ok (.invokevirtual 124, 3) := by decide +kernel
theorem dX2_carryOut_67 : decode cX2_carryOut 67 = .ok (.pop, 1) := by decide +kernel
theorem dX2_carryOut_68 : decode cX2_carryOut 68 = .ok (.aload_n 0, 1) := by decide +kernel
theorem dX2_carryOut_69 : decode cX2_carryOut 69 = .ok (.iload_n 1, 1) := by decide +kernel
theorem dX2_carryOut_70 : decode cX2_carryOut 70 = .ok (.invokevirtual 52, 3) := by decide +kernel
theorem dX2_carryOut_73 : decode cX2_carryOut 73 = .ok (.ireturn, 1) := by decide +kernel
theorem dX2_undo_0 : decode cX2_undo 0 = .ok (.aload_n 0, 1) := by decide +kernel
theorem dX2_undo_1 : decode cX2_undo 1 = .ok (.getfield 42, 3) := by decide +kernel
theorem dX2_undo_4 : decode cX2_undo 4 = .ok (.ifCond .ne 6, 3) := by decide +kernel
theorem dX2_undo_7 : decode cX2_undo 7 = .ok (.bipush (-5), 2) := by decide +kernel
theorem dX2_undo_9 : decode cX2_undo 9 = .ok (.ireturn, 1) := by decide +kernel
theorem dX2_undo_10 : decode cX2_undo 10 = .ok (.aload_n 0, 1) := by decide +kernel
theorem dX2_undo_11 : decode cX2_undo 11 = .ok (.dup, 1) := by decide +kernel
theorem dX2_undo_12 : decode cX2_undo 12 = .ok (.getfield 42, 3) := by decide +kernel
theorem dX2_undo_15 : decode cX2_undo 15 = .ok (.iconst 1, 1) := by decide +kernel
theorem dX2_undo_16 : decode cX2_undo 16 = .ok (.isub, 1) := by decide +kernel
theorem dX2_undo_17 : decode cX2_undo 17 = .ok (.putfield 42, 3) := by decide +kernel
theorem dX2_undo_20 : decode cX2_undo 20 = .ok (.aload_n 0, 1) := by decide +kernel
theorem dX2_undo_21 : decode cX2_undo 21 = .ok (.aload_n 0, 1) := by decide +kernel
theorem dX2_undo_22 : decode cX2_undo 22 = .ok (.getfield 38, 3) := by decide +kernel
theorem dX2_undo_25 : decode cX2_undo 25 = .ok (.bipush 7, 2) := by decide +kernel
theorem dX2_undo_27 : decode cX2_undo 27 = .ok (.iadd, 1) := by decide +kernel
theorem dX2_undo_28 : decode cX2_undo 28 = .ok (.iconst 1, 1) := by decide +kernel
theorem dX2_undo_29 : decode cX2_undo 29 = .ok (.isub, 1) := by decide +kernel
theorem dX2_undo_30 : decode cX2_undo 30 = .ok (.bipush 7, 2) := by decide +kernel
theorem dX2_undo_32 : decode cX2_undo 32 = .ok (.irem, 1) := by decide +kernel
theorem dX2_undo_33 : decode cX2_undo 33 = .ok (.putfield 38, 3) := by decide +kernel
theorem dX2_undo_36 : decode cX2_undo 36 = .ok (.aload_n 0, 1) := by decide +kernel
theorem dX2_undo_37 : decode cX2_undo 37 = .ok (.getfield 12, 3) := by decide +kernel
theorem dX2_undo_40 : decode cX2_undo 40 = .ok (.aload_n 0, 1) := by decide +kernel
theorem dX2_undo_41 : decode cX2_undo 41 = .ok (.getfield 28, 3) := by decide +kernel
theorem dX2_undo_44 : decode cX2_undo 44 = .ok (.aload_n 0, 1) := by decide +kernel
theorem dX2_undo_45 : decode cX2_undo 45 = .ok (.getfield 38, 3) := by decide +kernel
theorem dX2_undo_48 : decode cX2_undo 48 = .ok (.aaload, 1) := by decide +kernel
theorem dX2_undo_49 : decode cX2_undo 49 = .ok (.invokevirtual 140, 3) := by decide +kernel
theorem dX2_undo_52 : decode cX2_undo 52 = .ok (.aload_n 0, 1) := by decide +kernel
theorem dX2_undo_53 : decode cX2_undo 53 = .ok (.getfield 42, 3) := by decide +kernel
theorem dX2_undo_56 : decode cX2_undo 56 = .ok (.ireturn, 1) := by decide +kernel
theorem dX2_save_0 : decode cX2_save 0 = .ok (.iload_n 1, 1) := by decide +kernel
theorem dX2_save_1 : decode cX2_save 1 = .ok (.invokestatic 144, 3) := by decide +kernel
theorem dX2_save_4 : decode cX2_save 4 = .ok (.ifCond .ne 6, 3) := by decide +kernel
theorem dX2_save_7 : decode cX2_save 7 = .ok (.bipush (-2), 2) := by decide +kernel
theorem dX2_save_9 : decode cX2_save 9 = .ok (.ireturn, 1) := by decide +kernel
theorem dX2_save_10 : decode cX2_save 10 = .ok (.aload_n 0, 1) := by decide +kernel
theorem dX2_save_11 : decode cX2_save 11 = .ok (.getfield 12, 3) := by decide +kernel
theorem dX2_save_14 : decode cX2_save 14 = .ok (.aload_n 0, 1) := by decide +kernel
theorem dX2_save_15 : decode cX2_save 15 = .ok (.getfield 31, 3) := by decide +kernel
theorem dX2_save_18 : decode cX2_save 18 = .ok (.iload_n 1, 1) := by decide +kernel
theorem dX2_save_19 : decode cX2_save 19 = .ok (.aaload, 1) := by decide +kernel
theorem dX2_save_20 : decode cX2_save 20 = .ok (.invokevirtual 147, 3) := by decide +kernel
theorem dX2_save_23 : decode cX2_save 23 = .ok (.aload_n 0, 1) := by decide +kernel
theorem dX2_save_24 : decode cX2_save 24 = .ok (.getfield 34, 3) := by decide +kernel
theorem dX2_save_27 : decode cX2_save 27 = .ok (.iload_n 1, 1) := by decide +kernel
theorem dX2_save_28 : decode cX2_save 28 = .ok (.iconst 1, 1) := by decide +kernel
theorem dX2_save_29 : decode cX2_save 29 = .ok (.bastore, 1) := by decide +kernel
theorem dX2_save_30 : decode cX2_save 30 = .ok (.aload_n 0, 1) := by decide +kernel
theorem dX2_save_31 : decode cX2_save 31 = .ok (.getfield 12, 3) := by decide +kernel
theorem dX2_save_34 : decode cX2_save 34 = .ok (.invokevirtual 111, 3) := by decide +kernel
theorem dX2_save_37 : decode cX2_save 37 = .ok (.ireturn, 1) := by decide +kernel
theorem dX2_restore_0 : decode cX2_restore 0 = .ok (.iload_n 1, 1) := by decide +kernel
theorem dX2_restore_1 : decode cX2_restore 1 = .ok (.invokestatic 144, 3) := by decide +kernel
theorem dX2_restore_4 : decode cX2_restore 4 = .ok (.ifCond .ne 6, 3) := by decide +kernel
theorem dX2_restore_7 : decode cX2_restore 7 = .ok (.bipush (-2), 2) := by decide +kernel
theorem dX2_restore_9 : decode cX2_restore 9 = .ok (.ireturn, 1) := by decide +kernel
theorem dX2_restore_10 : decode cX2_restore 10 = .ok (.aload_n 0, 1) := by decide +kernel
theorem dX2_restore_11 : decode cX2_restore 11 = .ok (.getfield 34, 3) := by decide +kernel
theorem dX2_restore_14 : decode cX2_restore 14 = .ok (.iload_n 1, 1) := by decide +kernel
theorem dX2_restore_15 : decode cX2_restore 15 = .ok (.baload, 1) := by decide +kernel
theorem dX2_restore_16 : decode cX2_restore 16 = .ok (.ifCond .ne 6, 3) := by decide +kernel
theorem dX2_restore_19 : decode cX2_restore 19 = .ok (.bipush (-5), 2) := by decide +kernel
theorem dX2_restore_21 : decode cX2_restore 21 = .ok (.ireturn, 1) := by decide +kernel
theorem dX2_restore_22 : decode cX2_restore 22 = .ok (.aload_n 0, 1) := by decide +kernel
theorem dX2_restore_23 : decode cX2_restore 23 = .ok (.invokevirtual 45, 3) := by decide +kernel
theorem dX2_restore_26 : decode cX2_restore 26 = .ok (.aload_n 0, 1) := by decide +kernel
theorem dX2_restore_27 : decode cX2_restore 27 = .ok (.getfield 12, 3) := by decide +kernel
theorem dX2_restore_30 : decode cX2_restore 30 = .ok (.aload_n 0, 1) := by decide +kernel
theorem dX2_restore_31 : decode cX2_restore 31 = .ok (.getfield 31, 3) := by decide +kernel
theorem dX2_restore_34 : decode cX2_restore 34 = .ok (.iload_n 1, 1) := by decide +kernel
theorem dX2_restore_35 : decode cX2_restore 35 = .ok (.aaload, 1) := by decide +kernel
theorem dX2_restore_36 : decode cX2_restore 36 = .ok (.invokevirtual 140, 3) := by decide +kernel
theorem dX2_restore_39 : decode cX2_restore 39 = .ok (.aload_n 0, 1) := by decide +kernel
theorem dX2_restore_40 : decode cX2_restore 40 = .ok (.aload_n 0, 1) := by decide +kernel
theorem dX2_restore_41 : decode cX2_restore 41 = .ok (.getfield 12, 3) := by decide +kernel
theorem dX2_restore_44 : decode cX2_restore 44 = .ok (.invokevirtual 111, 3) := by decide +kernel
theorem dX2_restore_47 : decode cX2_restore 47 = .ok (.invokevirtual 52, 3) := by decide +kernel
theorem dX2_restore_50 : decode cX2_restore 50 = .ok (.ireturn, 1) := by decide +kernel
theorem dX2_isSlot_0 : decode cX2_isSlot 0 = .ok (.iload_n 0, 1) := by decide +kernel
theorem dX2_isSlot_1 : decode cX2_isSlot 1 = .ok (.ifCond .lt 12, 3) := by decide +kernel
theorem dX2_isSlot_4 : decode cX2_isSlot 4 = .ok (.iload_n 0, 1) := by decide +kernel
theorem dX2_isSlot_5 : decode cX2_isSlot 5 = .ok (.iconst 2, 1) := by decide +kernel
theorem dX2_isSlot_6 : decode cX2_isSlot 6 = .ok (.if_icmp .ge 7, 3) := by decide +kernel
theorem dX2_isSlot_9 : decode cX2_isSlot 9 = .ok (.iconst 1, 1) := by decide +kernel
theorem dX2_isSlot_10 : decode cX2_isSlot 10 = .ok (.goto 4, 3) := by decide +kernel
theorem dX2_isSlot_13 : decode cX2_isSlot 13 = .ok (.iconst 0, 1) := by decide +kernel
theorem dX2_isSlot_14 : decode cX2_isSlot 14 = .ok (.ireturn, 1) := by decide +kernel
theorem dX2_noteState_0 : decode cX2_noteState 0 = .ok (.aload_n 0, 1) := by decide +kernel
theorem dX2_noteState_1 : decode cX2_noteState 1 = .ok (.getfield 12, 3) := by decide +kernel
theorem dX2_noteState_4 : decode cX2_noteState 4 = .ok (.aload_n 0, 1) := by decide +kernel
theorem dX2_noteState_5 : decode cX2_noteState 5 = .ok (.getfield 28, 3) := by decide +kernel
theorem dX2_noteState_8 : decode cX2_noteState 8 = .ok (.aload_n 0, 1) := by decide +kernel
theorem dX2_noteState_9 : decode cX2_noteState 9 = .ok (.getfield 38, 3) := by decide +kernel
theorem dX2_noteState_12 : decode cX2_noteState 12 = .ok (.aaload, 1) := by decide +kernel
theorem dX2_noteState_13 : decode cX2_noteState 13 = .ok (.invokevirtual 147, 3) := by decide +kernel
theorem dX2_noteState_16 : decode cX2_noteState 16 = .ok (.return_, 1) := by decide +kernel
theorem dX2_keepUnlessError_0 : decode cX2_keepUnlessError 0 = .ok (.iload_n 1, 1) := by decide +kernel
theorem dX2_keepUnlessError_1 : decode cX2_keepUnlessError 1 = .ok (.ifCond .ge 5, 3) := by decide +kernel
theorem dX2_keepUnlessError_4 : decode cX2_keepUnlessError 4 = .ok (.iload_n 1, 1) := by decide +kernel
theorem dX2_keepUnlessError_5 : decode cX2_keepUnlessError 5 = .ok (.ireturn, 1) := by decide +kernel
theorem dX2_keepUnlessError_6 : decode cX2_keepUnlessError 6 = .ok (.aload_n 0, 1) := by decide +kernel
theorem dX2_keepUnlessError_7 : decode cX2_keepUnlessError 7 = .ok (.aload_n 0, 1) := by decide +kernel
theorem dX2_keepUnlessError_8 : decode cX2_keepUnlessError 8 = .ok (.getfield 38, 3) := by decide +kernel
theorem dX2_keepUnlessError_11 : decode cX2_keepUnlessError 11 = .ok (.iconst 1, 1) := by decide +kernel
theorem dX2_keepUnlessError_12 : decode cX2_keepUnlessError 12 = .ok (.iadd, 1) := by decide +kernel
theorem dX2_keepUnlessError_13 : decode cX2_keepUnlessError 13 = .ok (.bipush 7, 2) := by decide +kernel
theorem dX2_keepUnlessError_15 : decode cX2_keepUnlessError 15 = .ok (.irem, 1) := by decide +kernel
theorem dX2_keepUnlessError_16 : decode cX2_keepUnlessError 16 = .ok (.putfield 38, 3) := by decide +kernel
theorem dX2_keepUnlessError_19 : decode cX2_keepUnlessError 19 = .ok (.aload_n 0, 1) := by decide +kernel
theorem dX2_keepUnlessError_20 : decode cX2_keepUnlessError 20 = .ok (.bipush 6, 2) := by decide +kernel
theorem dX2_keepUnlessError_22 : decode cX2_keepUnlessError 22 = .ok (.aload_n 0, 1) := by decide +kernel
theorem dX2_keepUnlessError_23 : decode cX2_keepUnlessError 23 = .ok (.getfield 42, 3) := by decide +kernel
theorem dX2_keepUnlessError_26 : decode cX2_keepUnlessError 26 = .ok (.iconst 1, 1) := by decide +kernel
theorem dX2_keepUnlessError_27 : decode cX2_keepUnlessError 27 = .ok (.iadd, 1) := by decide +kernel
theorem dX2_keepUnlessError_28 : decode cX2_keepUnlessError 28 = .ok (.invokestatic 150, 3) := by decide +kernel
theorem dX2_keepUnlessError_31 : decode cX2_keepUnlessError 31 = .ok (.putfield 42, 3) := by decide +kernel
theorem dX2_keepUnlessError_34 : decode cX2_keepUnlessError 34 = .ok (.iload_n 1, 1) := by decide +kernel
theorem dX2_keepUnlessError_35 : decode cX2_keepUnlessError 35 = .ok (.ireturn, 1) := by decide +kernel
theorem dX2_isTrialQuestion_0 : decode cX2_isTrialQuestion 0 = .ok (.iload_n 0, 1) := by decide +kernel
theorem dX2_isTrialQuestion_1 : decode cX2_isTrialQuestion 1 = .ok (.ifCond .eq 8, 3) := by decide +kernel
theorem dX2_isTrialQuestion_4 : decode cX2_isTrialQuestion 4 = .ok (.iload_n 0, 1) := by decide +kernel
theorem dX2_isTrialQuestion_5 : decode cX2_isTrialQuestion 5 = .ok (.iconst 1, 1) := by decide +kernel
theorem dX2_isTrialQuestion_6 : decode cX2_isTrialQuestion 6 = .ok (.if_icmp .ne 7, 3) := by decide +kernel
theorem dX2_isTrialQuestion_9 : decode cX2_isTrialQuestion 9 = .ok (.iconst 1, 1) := by decide +kernel
theorem dX2_isTrialQuestion_10 : decode cX2_isTrialQuestion 10 = .ok (.goto 4, 3) := by decide +kernel
theorem dX2_isTrialQuestion_13 : decode cX2_isTrialQuestion 13 = .ok (.iconst 0, 1) := by decide +kernel
theorem dX2_isTrialQuestion_14 : decode cX2_isTrialQuestion 14 = .ok (.ireturn, 1) := by decide +kernel
theorem dX2_tryFault_0 : decode cX2_tryFault 0 = .ok (.aload_n 0, 1) := by decide +kernel
theorem dX2_tryFault_1 : decode cX2_tryFault 1 = .ok (.getfield 16, 3) := by decide +kernel
theorem dX2_tryFault_4 : decode cX2_tryFault 4 = .ok (.aload_n 0, 1) := by decide +kernel
theorem dX2_tryFault_5 : decode cX2_tryFault 5 = .ok (.getfield 12, 3) := by decide +kernel
theorem dX2_tryFault_8 : decode cX2_tryFault 8 = .ok (.invokevirtual 101, 3) := by decide +kernel
theorem dX2_tryFault_11 : decode cX2_tryFault 11 = .ok (.aload_n 0, 1) := by decide +kernel
theorem dX2_tryFault_12 : decode cX2_tryFault 12 = .ok (.getfield 16, 3) := by decide +kernel
theorem dX2_tryFault_15 : decode cX2_tryFault 15 = .ok (.iload_n 1, 1) := by decide +kernel
theorem dX2_tryFault_16 : decode cX2_tryFault 16 = .ok (.iload_n 2, 1) := by decide +kernel
theorem dX2_tryFault_17 : decode cX2_tryFault 17 = .ok (.invokevirtual 155, 3) := by decide +kernel
theorem dX2_tryFault_20 : decode cX2_tryFault 20 = .ok (.aload_n 0, 1) := by decide +kernel
theorem dX2_tryFault_21 : decode cX2_tryFault 21 = .ok (.iload_n 3, 1) := by decide +kernel
theorem dX2_tryFault_22 : decode cX2_tryFault 22 = .ok (.invokevirtual 105, 3) := by decide +kernel
theorem dX2_tryFault_25 : decode cX2_tryFault 25 = .ok (.ireturn, 1) := by decide +kernel
theorem dX2_firstBlow_0 : decode cX2_firstBlow 0 = .ok (.iconst 1, 1) := by decide +kernel
theorem dX2_firstBlow_1 : decode cX2_firstBlow 1 = .ok (.istore_n 2, 1) := by decide +kernel
theorem dX2_firstBlow_2 : decode cX2_firstBlow 2 = .ok (.iload_n 2, 1) := by decide +kernel
theorem dX2_firstBlow_3 : decode cX2_firstBlow 3 = .ok (.sipush 200, 3) := by decide +kernel
theorem dX2_firstBlow_6 : decode cX2_firstBlow 6 = .ok (.if_icmp .gt 34, 3) := by decide +kernel
theorem dX2_firstBlow_9 : decode cX2_firstBlow 9 = .ok (.aload_n 0, 1) := by decide +kernel
theorem dX2_firstBlow_10 : decode cX2_firstBlow 10 = .ok (.getfield 16, 3) := by decide +kernel
theorem dX2_firstBlow_13 : decode cX2_firstBlow 13 = .ok (.invokevirtual 159, 3) := by decide +kernel
theorem dX2_firstBlow_16 : decode cX2_firstBlow 16 = .ok (.istore_n 3, 1) := by decide +kernel
theorem dX2_firstBlow_17 : decode cX2_firstBlow 17 = .ok (.iload_n 3, 1) := by decide +kernel
theorem dX2_firstBlow_18 : decode cX2_firstBlow 18 = .ok (.ifCond .eq 16, 3) := by decide +kernel
theorem dX2_firstBlow_21 : decode cX2_firstBlow 21 = .ok (.iload_n 1, 1) := by decide +kernel
theorem dX2_firstBlow_22 : decode cX2_firstBlow 22 = .ok (.ifCond .ne 7, 3) := by decide +kernel
theorem dX2_firstBlow_25 : decode cX2_firstBlow 25 = .ok (.iload_n 2, 1) := by decide +kernel
theorem dX2_firstBlow_26 : decode cX2_firstBlow 26 = .ok (.goto 7, 3) := by decide +kernel
theorem dX2_firstBlow_29 : decode cX2_firstBlow 29 = .ok (.iload_n 3, 1) := by decide +kernel
theorem dX2_firstBlow_30 : decode cX2_firstBlow 30 = .ok (.invokestatic 162, 3) := by decide +kernel
theorem dX2_firstBlow_33 : decode cX2_firstBlow 33 = .ok (.ireturn, 1) := by decide +kernel
theorem dX2_firstBlow_34 : decode cX2_firstBlow 34 = .ok (.iinc 2 1, 3) := by decide +kernel
theorem dX2_firstBlow_37 : decode cX2_firstBlow 37 = .ok (.goto (-35), 3) := by decide +kernel
theorem dX2_firstBlow_40 : decode cX2_firstBlow 40 = .ok (.bipush (-6), 2) := by decide +kernel
theorem dX2_firstBlow_42 : decode cX2_firstBlow 42 = .ok (.ireturn, 1) := by decide +kernel
theorem dX2_lowest_0 : decode cX2_lowest 0 = .ok (.iconst 0, 1) := by decide +kernel
theorem dX2_lowest_1 : decode cX2_lowest 1 = .ok (.istore_n 1, 1) := by decide +kernel
theorem dX2_lowest_2 : decode cX2_lowest 2 = .ok (.iload_n 1, 1) := by decide +kernel
theorem dX2_lowest_3 : decode cX2_lowest 3 = .ok (.bipush 9, 2) := by decide +kernel
theorem dX2_lowest_5 : decode cX2_lowest 5 = .ok (.if_icmp .ge 17, 3) := by decide +kernel
theorem dX2_lowest_8 : decode cX2_lowest 8 = .ok (.iload_n 0, 1) := by decide +kernel
theorem dX2_lowest_9 : decode cX2_lowest 9 = .ok (.iload_n 1, 1) := by decide +kernel
theorem dX2_lowest_10 : decode cX2_lowest 10 = .ok (.ishr, 1) := by decide +kernel
theorem dX2_lowest_11 : decode cX2_lowest 11 = .ok (.iconst 1, 1) := by decide +kernel
theorem dX2_lowest_12 : decode cX2_lowest 12 = .ok (.iand, 1) := by decide +kernel
theorem dX2_lowest_13 : decode cX2_lowest 13 = .ok (.ifCond .ne 9, 3) := by decide +kernel
theorem dX2_lowest_16 : decode cX2_lowest 16 = .ok (.iinc 1 1, 3) := by decide +kernel
theorem dX2_lowest_19 : decode cX2_lowest 19 = .ok (.goto (-17), 3) := by decide +kernel
theorem dX2_lowest_22 : decode cX2_lowest 22 = .ok (.iload_n 1, 1) := by decide +kernel
theorem dX2_lowest_23 : decode cX2_lowest 23 = .ok (.ireturn, 1) := by decide +kernel
theorem dX2_obeyOrder_0 : decode cX2_obeyOrder 0 = .ok (.aload_n 0, 1) := by decide +kernel
theorem dX2_obeyOrder_1 : decode cX2_obeyOrder 1 = .ok (.getfield 22, 3) := by decide +kernel
theorem dX2_obeyOrder_4 : decode cX2_obeyOrder 4 = .ok (.invokevirtual 165, 3) := by decide +kernel
theorem dX2_obeyOrder_7 : decode cX2_obeyOrder 7 = .ok (.lookupswitch 159 #[(98, 49), (102, 115), (108, 78), (115, 100), (116, 144)], 49) := by decide +kernel
theorem dX2_obeyOrder_56 : decode cX2_obeyOrder 56 = .ok (.aload_n 0, 1) := by decide +kernel
theorem dX2_obeyOrder_57 : decode cX2_obeyOrder 57 = .ok (.getfield 12, 3) := by decide +kernel
theorem dX2_obeyOrder_60 : decode cX2_obeyOrder 60 = .ok (.aload_n 0, 1) := by decide +kernel
theorem dX2_obeyOrder_61 : decode cX2_obeyOrder 61 = .ok (.getfield 22, 3) := by decide +kernel
theorem dX2_obeyOrder_64 : decode cX2_obeyOrder 64 = .ok (.invokevirtual 168, 3) := by decide +kernel
theorem dX2_obeyOrder_67 : decode cX2_obeyOrder 67 = .ok (.aload_n 0, 1) := by decide +kernel
theorem dX2_obeyOrder_68 : decode cX2_obeyOrder 68 = .ok (.getfield 22, 3) := by decide +kernel
theorem dX2_obeyOrder_71 : decode cX2_obeyOrder 71 = .ok (.invokevirtual 171, 3) := by decide +kernel
theorem dX2_obeyOrder_74 : decode cX2_obeyOrder 74 = .ok (.aload_n 0, 1) := by decide +kernel
theorem dX2_obeyOrder_75 : decode cX2_obeyOrder 75 = .ok (.getfield 22, 3) := by decide +kernel
theorem dX2_obeyOrder_78 : decode cX2_obeyOrder 78 = .ok (.invokevirtual 174, 3) := by decide +kernel
theorem dX2_obeyOrder_81 : decode cX2_obeyOrder 81 = .ok (.invokevirtual 56, 3) := by decide +kernel
theorem dX2_obeyOrder_84 : decode cX2_obeyOrder 84 = .ok (.ireturn, 1) := by decide +kernel
theorem dX2_obeyOrder_85 : decode cX2_obeyOrder 85 = .ok (.aload_n 0, 1) := by decide +kernel
theorem dX2_obeyOrder_86 : decode cX2_obeyOrder 86 = .ok (.getfield 12, 3) := by decide +kernel
theorem dX2_obeyOrder_89 : decode cX2_obeyOrder 89 = .ok (.aload_n 0, 1) := by decide +kernel
theorem dX2_obeyOrder_90 : decode cX2_obeyOrder 90 = .ok (.getfield 22, 3) := by decide +kernel
theorem dX2_obeyOrder_93 : decode cX2_obeyOrder 93 = .ok (.invokevirtual 168, 3) := by decide +kernel
theorem dX2_obeyOrder_96 : decode cX2_obeyOrder 96 = .ok (.aload_n 0, 1) := by decide +kernel
theorem dX2_obeyOrder_97 : decode cX2_obeyOrder 97 = .ok (.getfield 22, 3) := by decide +kernel
theorem dX2_obeyOrder_100 : decode cX2_obeyOrder 100 = .ok (.invokevirtual 171, 3) := by decide +kernel
theorem dX2_obeyOrder_103 : decode cX2_obeyOrder 103 = .ok (.invokevirtual 60, 3) := by decide +kernel
theorem dX2_obeyOrder_106 : decode cX2_obeyOrder 106 = .ok (.ireturn, 1) := by decide +kernel
theorem dX2_obeyOrder_107 : decode cX2_obeyOrder 107 = .ok (.aload_n 0, 1) := by decide +kernel
theorem dX2_obeyOrder_108 : decode cX2_obeyOrder 108 = .ok (.getfield 12, 3) := by decide +kernel
theorem dX2_obeyOrder_111 : decode cX2_obeyOrder 111 = .ok (.aload_n 0, 1) := by decide +kernel
theorem dX2_obeyOrder_112 : decode cX2_obeyOrder 112 = .ok (.getfield 22, 3) := by decide +kernel
theorem dX2_obeyOrder_115 : decode cX2_obeyOrder 115 = .ok (.invokevirtual 171, 3) := by decide +kernel
theorem dX2_obeyOrder_118 : decode cX2_obeyOrder 118 = .ok (.invokevirtual 63, 3) := by decide +kernel
theorem dX2_obeyOrder_121 : decode cX2_obeyOrder 121 = .ok (.ireturn, 1) := by decide +kernel
theorem dX2_obeyOrder_122 : decode cX2_obeyOrder 122 = .ok (.aload_n 0, 1) := by decide +kernel
theorem dX2_obeyOrder_123 : decode cX2_obeyOrder 123 = .ok (.getfield 12, 3) := by decide +kernel
theorem dX2_obeyOrder_126 : decode cX2_obeyOrder 126 = .ok (.aload_n 0, 1) := by decide +kernel
theorem dX2_obeyOrder_127 : decode cX2_obeyOrder 127 = .ok (.getfield 22, 3) := by decide +kernel
theorem dX2_obeyOrder_130 : decode cX2_obeyOrder 130 = .ok (.invokevirtual 168, 3) := by decide +kernel
theorem dX2_obeyOrder_133 : decode cX2_obeyOrder 133 = .ok (.aload_n 0, 1) := by decide +kernel
theorem dX2_obeyOrder_134 : decode cX2_obeyOrder 134 = .ok (.getfield 22, 3) := by decide +kernel
theorem dX2_obeyOrder_137 : decode cX2_obeyOrder 137 = .ok (.invokevirtual 171, 3) := by decide +kernel
theorem dX2_obeyOrder_140 : decode cX2_obeyOrder 140 = .ok (.aload_n 0, 1) := by decide +kernel
theorem dX2_obeyOrder_141 : decode cX2_obeyOrder 141 = .ok (.getfield 22, 3) := by decide +kernel
theorem dX2_obeyOrder_144 : decode cX2_obeyOrder 144 = .ok (.invokevirtual 174, 3) := by decide +kernel
theorem dX2_obeyOrder_147 : decode cX2_obeyOrder 147 = .ok (.invokevirtual 66, 3) := by decide +kernel
theorem dX2_obeyOrder_150 : decode cX2_obeyOrder 150 = .ok (.ireturn, 1) := by decide +kernel
theorem dX2_obeyOrder_151 : decode cX2_obeyOrder 151 = .ok (.aload_n 0, 1) := by decide +kernel
theorem dX2_obeyOrder_152 : decode cX2_obeyOrder 152 = .ok (.getfield 12, 3) := by decide +kernel
theorem dX2_obeyOrder_155 : decode cX2_obeyOrder 155 = .ok (.aload_n 0, 1) := by decide +kernel
theorem dX2_obeyOrder_156 : decode cX2_obeyOrder 156 = .ok (.getfield 22, 3) := by decide +kernel
theorem dX2_obeyOrder_159 : decode cX2_obeyOrder 159 = .ok (.invokevirtual 171, 3) := by decide +kernel
theorem dX2_obeyOrder_162 : decode cX2_obeyOrder 162 = .ok (.invokevirtual 69, 3) := by decide +kernel
theorem dX2_obeyOrder_165 : decode cX2_obeyOrder 165 = .ok (.ireturn, 1) := by decide +kernel
theorem dX2_obeyOrder_166 : decode cX2_obeyOrder 166 = .ok (.bipush (-3), 2) := by decide +kernel
theorem dX2_obeyOrder_168 : decode cX2_obeyOrder 168 = .ok (.ireturn, 1) := by decide +kernel
end
section
theorem dX3_init_0 : decode cX3_init 0 = .ok (.aload_n 0, 1) := by decide +kernel
theorem dX3_init_1 : decode cX3_init 1 = .ok (.invokespecial 1, 3) := by decide +kernel
theorem dX3_init_4 : decode cX3_init 4 = .ok (.aload_n 0, 1) := by decide +kernel
theorem dX3_init_5 : decode cX3_init 5 = .ok (.sipush 1480, 3) := by decide +kernel
theorem dX3_init_8 : decode cX3_init 8 = .ok (.newarray .int, 2) := by decide +kernel
theorem dX3_init_10 : decode cX3_init 10 = .ok (.putfield 7, 3) := by decide +kernel
theorem dX3_init_13 : decode cX3_init 13 = .ok (.aload_n 0, 1) := by decide +kernel
theorem dX3_init_14 : decode cX3_init 14 = .ok (.iconst 2, 1) := by decide +kernel
theorem dX3_init_15 : decode cX3_init 15 = .ok (.newarray .boolean, 2) := by decide +kernel
theorem dX3_init_17 : decode cX3_init 17 = .ok (.putfield 13, 3) := by decide +kernel
theorem dX3_init_20 : decode cX3_init 20 = .ok (.aload_n 0, 1) := by decide +kernel
theorem dX3_init_21 : decode cX3_init 21 = .ok (.bipush 80, 2) := by decide +kernel
theorem dX3_init_23 : decode cX3_init 23 = .ok (.newarray .int, 2) := by decide +kernel
theorem dX3_init_25 : decode cX3_init 25 = .ok (.putfield 17, 3) := by decide +kernel
theorem dX3_init_28 : decode cX3_init 28 = .ok (.aload_n 0, 1) := by decide +kernel
theorem dX3_init_29 : decode cX3_init 29 = .ok (.bipush (-6), 2) := by decide +kernel
theorem dX3_init_31 : decode cX3_init 31 = .ok (.putfield 20, 3) := by decide +kernel
theorem dX3_init_34 : decode cX3_init 34 = .ok (.aload_n 0, 1) := by decide +kernel
theorem dX3_init_35 : decode cX3_init 35 = .ok (.bipush 10, 2) := by decide +kernel
theorem dX3_init_37 : decode cX3_init 37 = .ok (.newarray .int, 2) := by decide +kernel
theorem dX3_init_39 : decode cX3_init 39 = .ok (.putfield 24, 3) := by decide +kernel
theorem dX3_init_42 : decode cX3_init 42 = .ok (.aload_n 0, 1) := by decide +kernel
theorem dX3_init_43 : decode cX3_init 43 = .ok (.bipush 10, 2) := by decide +kernel
theorem dX3_init_45 : decode cX3_init 45 = .ok (.newarray .boolean, 2) := by decide +kernel
theorem dX3_init_47 : decode cX3_init 47 = .ok (.putfield 27, 3) := by decide +kernel
theorem dX3_init_50 : decode cX3_init 50 = .ok (.aload_n 0, 1) := by decide +kernel
theorem dX3_init_51 : decode cX3_init 51 = .ok (.getfield 7, 3) := by decide +kernel
theorem dX3_init_54 : decode cX3_init 54 = .ok (.iconst 0, 1) := by decide +kernel
theorem dX3_init_55 : decode cX3_init 55 = .ok (.iconst 1, 1) := by decide +kernel
theorem dX3_init_56 : decode cX3_init 56 = .ok (.iastore, 1) := by decide +kernel
theorem dX3_init_57 : decode cX3_init 57 = .ok (.aload_n 0, 1) := by decide +kernel
theorem dX3_init_58 : decode cX3_init 58 = .ok (.getfield 7, 3) := by decide +kernel
theorem dX3_init_61 : decode cX3_init 61 = .ok (.iconst 1, 1) := by decide +kernel
theorem dX3_init_62 : decode cX3_init 62 = .ok (.iconst 2, 1) := by decide +kernel
theorem dX3_init_63 : decode cX3_init 63 = .ok (.iastore, 1) := by decide +kernel
theorem dX3_init_64 : decode cX3_init 64 = .ok (.aload_n 0, 1) := by decide +kernel
theorem dX3_init_65 : decode cX3_init 65 = .ok (.getfield 7, 3) := by decide +kernel
theorem dX3_init_68 : decode cX3_init 68 = .ok (.iconst 2, 1) := by decide +kernel
theorem dX3_init_69 : decode cX3_init 69 = .ok (.bipush 10, 2) := by decide +kernel
theorem dX3_init_71 : decode cX3_init 71 = .ok (.iastore, 1) := by decide +kernel
theorem dX3_init_72 : decode cX3_init 72 = .ok (.return_, 1) := by decide +kernel
theorem dX3_in_0 : decode cX3_in 0 = .ok (.lload_n 0, 1) := by decide +kernel
theorem dX3_in_1 : decode cX3_in 1 = .ok (.lload_n 2, 1) := by decide +kernel
theorem dX3_in_2 : decode cX3_in 2 = .ok (.lcmp, 1) := by decide +kernel
theorem dX3_in_3 : decode cX3_in 3 = .ok (.ifCond .lt 14, 3) := by decide +kernel
theorem dX3_in_6 : decode cX3_in 6 = .ok (.lload_n 0, 1) := by decide +kernel
theorem dX3_in_7 : decode cX3_in 7 = .ok (.lload 4, 2) := by decide +kernel
theorem dX3_in_9 : decode cX3_in 9 = .ok (.lcmp, 1) := by decide +kernel
theorem dX3_in_10 : decode cX3_in 10 = .ok (.ifCond .gt 7, 3) := by decide +kernel
theorem dX3_in_13 : decode cX3_in 13 = .ok (.iconst 1, 1) := by decide +kernel
theorem dX3_in_14 : decode cX3_in 14 = .ok (.goto 4, 3) := by decide +kernel
theorem dX3_in_17 : decode cX3_in 17 = .ok (.iconst 0, 1) := by decide +kernel
theorem dX3_in_18 : decode cX3_in 18 = .ok (.ireturn, 1) := by decide +kernel
theorem dX3_flag_0 : decode cX3_flag 0 = .ok (.iload_n 0, 1) := by decide +kernel
theorem dX3_flag_1 : decode cX3_flag 1 = .ok (.ifCond .eq 7, 3) := by decide +kernel
theorem dX3_flag_4 : decode cX3_flag 4 = .ok (.iconst 1, 1) := by decide +kernel
theorem dX3_flag_5 : decode cX3_flag 5 = .ok (.goto 4, 3) := by decide +kernel
theorem dX3_flag_8 : decode cX3_flag 8 = .ok (.iconst 0, 1) := by decide +kernel
theorem dX3_flag_9 : decode cX3_flag 9 = .ok (.ireturn, 1) := by decide +kernel
theorem dX3_copies_0 : decode cX3_copies 0 = .ok (.iconst 0, 1) := by decide +kernel
theorem dX3_copies_1 : decode cX3_copies 1 = .ok (.istore_n 3, 1) := by decide +kernel
theorem dX3_copies_2 : decode cX3_copies 2 = .ok (.iload_n 3, 1) := by decide +kernel
theorem dX3_copies_3 : decode cX3_copies 3 = .ok (.sipush 148, 3) := by decide +kernel
theorem dX3_copies_6 : decode cX3_copies 6 = .ok (.if_icmp .ge 33, 3) := by decide +kernel
theorem dX3_copies_9 : decode cX3_copies 9 = .ok (.aload_n 0, 1) := by decide +kernel
theorem dX3_copies_10 : decode cX3_copies 10 = .ok (.getfield 7, 3) := by decide +kernel
theorem dX3_copies_13 : decode cX3_copies 13 = .ok (.sipush 148, 3) := by decide +kernel
theorem dX3_copies_16 : decode cX3_copies 16 = .ok (.iload_n 2, 1) := by decide +kernel
theorem dX3_copies_17 : decode cX3_copies 17 = .ok (.imul, 1) := by decide +kernel
theorem dX3_copies_18 : decode cX3_copies 18 = .ok (.iload_n 3, 1) := by decide +kernel
theorem dX3_copies_19 : decode cX3_copies 19 = .ok (.iadd, 1) := by decide +kernel
theorem dX3_copies_20 : decode cX3_copies 20 = .ok (.aload_n 0, 1) := by decide +kernel
theorem dX3_copies_21 : decode cX3_copies 21 = .ok (.getfield 7, 3) := by decide +kernel
theorem dX3_copies_24 : decode cX3_copies 24 = .ok (.sipush 148, 3) := by decide +kernel
theorem dX3_copies_27 : decode cX3_copies 27 = .ok (.iload_n 1, 1) := by decide +kernel
theorem dX3_copies_28 : decode cX3_copies 28 = .ok (.imul, 1) := by decide +kernel
theorem dX3_copies_29 : decode cX3_copies 29 = .ok (.iload_n 3, 1) := by decide +kernel
theorem dX3_copies_30 : decode cX3_copies 30 = .ok (.iadd, 1) := by decide +kernel
theorem dX3_copies_31 : decode cX3_copies 31 = .ok (.iaload, 1) := by decide +kernel
theorem dX3_copies_32 : decode cX3_copies 32 = .ok (.iastore, 1) := by decide +kernel
theorem dX3_copies_33 : decode cX3_copies 33 = .ok (.iinc 3 1, 3) := by decide +kernel
theorem dX3_copies_36 : decode cX3_copies 36 = .ok (.goto (-34), 3) := by decide +kernel
theorem dX3_copies_39 : decode cX3_copies 39 = .ok (.return_, 1) := by decide +kernel
theorem dX3_changes_0 : decode cX3_changes 0 = .ok (.aload_n 0, 1) := by decide +kernel
theorem dX3_changes_1 : decode cX3_changes 1 = .ok (.getfield 30, 3) := by decide +kernel
theorem dX3_changes_4 : decode cX3_changes 4 = .ok (.bipush 6, 2) := by decide +kernel
theorem dX3_changes_6 : decode cX3_changes 6 = .ok (.if_icmp .ne 35, 3) := by decide +kernel
theorem dX3_changes_9 : decode cX3_changes 9 = .ok (.iconst 1, 1) := by decide +kernel
theorem dX3_changes_10 : decode cX3_changes 10 = .ok (.istore_n 1, 1) := by decide +kernel
theorem dX3_changes_11 : decode cX3_changes 11 = .ok (.iload_n 1, 1) := by decide +kernel
theorem dX3_changes_12 : decode cX3_changes 12 = .ok (.bipush 6, 2) := by decide +kernel
theorem dX3_changes_14 : decode cX3_changes 14 = .ok (.if_icmp .ge 17, 3) := by decide +kernel
theorem dX3_changes_17 : decode cX3_changes 17 = .ok (.aload_n 0, 1) := by decide +kernel
theorem dX3_changes_18 : decode cX3_changes 18 = .ok (.iload_n 1, 1) := by decide +kernel
theorem dX3_changes_19 : decode cX3_changes 19 = .ok (.iconst 1, 1) := by decide +kernel
theorem dX3_changes_20 : decode cX3_changes 20 = .ok (.iadd, 1) := by decide +kernel
theorem dX3_changes_21 : decode cX3_changes 21 = .ok (.iload_n 1, 1) := by decide +kernel
theorem dX3_changes_22 : decode cX3_changes 22 = .ok (.invokevirtual 33, 3) := by decide +kernel
theorem dX3_changes_25 : decode cX3_changes 25 = .ok (.iinc 1 1, 3) := by decide +kernel
theorem dX3_changes_28 : decode cX3_changes 28 = .ok (.goto (-17), 3) := by decide +kernel
theorem dX3_changes_31 : decode cX3_changes 31 = .ok (.aload_n 0, 1) := by decide +kernel
theorem dX3_changes_32 : decode cX3_changes 32 = .ok (.dup, 1) := by decide +kernel
theorem dX3_changes_33 : decode cX3_changes 33 = .ok (.getfield 30, 3) := by decide +kernel
theorem dX3_changes_36 : decode cX3_changes 36 = .ok (.iconst 1, 1) := by decide +kernel
theorem dX3_changes_37 : decode cX3_changes 37 = .ok (.isub, 1) := by decide +kernel
theorem dX3_changes_38 : decode cX3_changes 38 = .ok (.putfield 30, 3) := by decide +kernel
theorem dX3_changes_41 : decode cX3_changes 41 = .ok (.aload_n 0, 1) := by decide +kernel
theorem dX3_changes_42 : decode cX3_changes 42 = .ok (.dup, 1) := by decide +kernel
theorem dX3_changes_43 : decode cX3_changes 43 = .ok (.getfield 30, 3) := by decide +kernel
theorem dX3_changes_46 : decode cX3_changes 46 = .ok (.iconst 1, 1) := by decide +kernel
theorem dX3_changes_47 : decode cX3_changes 47 = .ok (.iadd, 1) := by decide +kernel
theorem dX3_changes_48 : decode cX3_changes 48 = .ok (.putfield 30, 3) := by decide +kernel
theorem dX3_changes_51 : decode cX3_changes 51 = .ok (.aload_n 0, 1) := by decide +kernel
theorem dX3_changes_52 : decode cX3_changes 52 = .ok (.iconst 0, 1) := by decide +kernel
theorem dX3_changes_53 : decode cX3_changes 53 = .ok (.aload_n 0, 1) := by decide +kernel
theorem dX3_changes_54 : decode cX3_changes 54 = .ok (.getfield 30, 3) := by decide +kernel
theorem dX3_changes_57 : decode cX3_changes 57 = .ok (.invokevirtual 33, 3) := by decide +kernel
theorem dX3_changes_60 : decode cX3_changes 60 = .ok (.return_, 1) := by decide +kernel
theorem dX3_boardAt_0 : decode cX3_boardAt 0 = .ok (.iload_n 0, 1) := by decide +kernel
theorem dX3_boardAt_1 : decode cX3_boardAt 1 = .ok (.bipush 16, 2) := by decide +kernel
theorem dX3_boardAt_3 : decode cX3_boardAt 3 = .ok (.iadd, 1) := by decide +kernel
theorem dX3_boardAt_4 : decode cX3_boardAt 4 = .ok (.bipush 9, 2) := by decide +kernel
theorem dX3_boardAt_6 : decode cX3_boardAt 6 = .ok (.iload_n 1, 1) := by decide +kernel
theorem dX3_boardAt_7 : decode cX3_boardAt 7 = .ok (.imul, 1) := by decide +kernel
theorem dX3_boardAt_8 : decode cX3_boardAt 8 = .ok (.iadd, 1) := by decide +kernel
theorem dX3_boardAt_9 : decode cX3_boardAt 9 = .ok (.ireturn, 1) := by decide +kernel
theorem dX3_loadAt_0 : decode cX3_loadAt 0 = .ok (.iload_n 0, 1) := by decide +kernel
theorem dX3_loadAt_1 : decode cX3_loadAt 1 = .ok (.bipush 106, 2) := by decide +kernel
theorem dX3_loadAt_3 : decode cX3_loadAt 3 = .ok (.iadd, 1) := by decide +kernel
theorem dX3_loadAt_4 : decode cX3_loadAt 4 = .ok (.iconst 3, 1) := by decide +kernel
theorem dX3_loadAt_5 : decode cX3_loadAt 5 = .ok (.iload_n 1, 1) := by decide +kernel
theorem dX3_loadAt_6 : decode cX3_loadAt 6 = .ok (.imul, 1) := by decide +kernel
theorem dX3_loadAt_7 : decode cX3_loadAt 7 = .ok (.iadd, 1) := by decide +kernel
theorem dX3_loadAt_8 : decode cX3_loadAt 8 = .ok (.ireturn, 1) := by decide +kernel
theorem dX3_isDead_0 : decode cX3_isDead 0 = .ok (.iconst 0, 1) := by decide +kernel
theorem dX3_isDead_1 : decode cX3_isDead 1 = .ok (.istore_n 3, 1) := by decide +kernel
theorem dX3_isDead_2 : decode cX3_isDead 2 = .ok (.iload_n 2, 1) := by decide +kernel
theorem dX3_isDead_3 : decode cX3_isDead 3 = .ok (.istore 4, 2) := by decide +kernel
theorem dX3_isDead_5 : decode cX3_isDead 5 = .ok (.iload 4, 2) := by decide +kernel
theorem dX3_isDead_7 : decode cX3_isDead 7 = .ok (.bipush (-6), 2) := by decide +kernel
theorem dX3_isDead_9 : decode cX3_isDead 9 = .ok (.if_icmp .eq 46, 3) := by decide +kernel
theorem dX3_isDead_12 : decode cX3_isDead 12 = .ok (.iload_n 3, 1) := by decide +kernel
theorem dX3_isDead_13 : decode cX3_isDead 13 = .ok (.ifCond .ne 20, 3) := by decide +kernel
theorem dX3_isDead_16 : decode cX3_isDead 16 = .ok (.aload_n 0, 1) := by decide +kernel
theorem dX3_isDead_17 : decode cX3_isDead 17 = .ok (.getfield 7, 3) := by decide +kernel
theorem dX3_isDead_20 : decode cX3_isDead 20 = .ok (.iload_n 1, 1) := by decide +kernel
theorem dX3_isDead_21 : decode cX3_isDead 21 = .ok (.iload 4, 2) := by decide +kernel
theorem dX3_isDead_23 : decode cX3_isDead 23 = .ok (.invokestatic 37, 3) := by decide +kernel
theorem dX3_isDead_26 : decode cX3_isDead 26 = .ok (.iconst 3, 1) := by decide +kernel
theorem dX3_isDead_27 : decode cX3_isDead 27 = .ok (.iadd, 1) := by decide +kernel
theorem dX3_isDead_28 : decode cX3_isDead 28 = .ok (.iaload, 1) := by decide +kernel
theorem dX3_isDead_29 : decode cX3_isDead 29 = .ok (.iconst 2, 1) := by decide +kernel
theorem dX3_isDead_30 : decode cX3_isDead 30 = .ok (.if_icmp .ne 7, 3) := by decide +kernel
theorem dX3_isDead_33 : decode cX3_isDead 33 = .ok (.iconst 1, 1) := by decide +kernel
theorem dX3_isDead_34 : decode cX3_isDead 34 = .ok (.goto 4, 3) := by decide +kernel
theorem dX3_isDead_37 : decode cX3_isDead 37 = .ok (.iconst 0, 1) := by decide +kernel
theorem dX3_isDead_38 : decode cX3_isDead 38 = .ok (.istore_n 3, 1) := by decide +kernel
theorem dX3_isDead_39 : decode cX3_isDead 39 = .ok (.aload_n 0, 1) := by decide +kernel
theorem dX3_isDead_40 : decode cX3_isDead 40 = .ok (.getfield 7, 3) := by decide +kernel
theorem dX3_isDead_43 : decode cX3_isDead 43 = .ok (.iload_n 1, 1) := by decide +kernel
theorem dX3_isDead_44 : decode cX3_isDead 44 = .ok (.iload 4, 2) := by decide +kernel
theorem dX3_isDead_46 : decode cX3_isDead 46 = .ok (.invokestatic 37, 3) := by decide +kernel
theorem dX3_isDead_49 : decode cX3_isDead 49 = .ok (.iaload, 1) := by decide +kernel
theorem dX3_isDead_50 : decode cX3_isDead 50 = .ok (.istore 4, 2) := by decide +kernel
theorem dX3_isDead_52 : decode cX3_isDead 52 = .ok (.goto (-47), 3) := by decide +kernel
theorem dX3_isDead_55 : decode cX3_isDead 55 = .ok (.iload_n 3, 1) := by decide +kernel
theorem dX3_isDead_56 : decode cX3_isDead 56 = .ok (.ireturn, 1) := by decide +kernel
theorem dX3_isFed_0 : decode cX3_isFed 0 = .ok (.iconst 0, 1) := by decide +kernel
theorem dX3_isFed_1 : decode cX3_isFed 1 = .ok (.istore 4, 2) := by decide +kernel
theorem dX3_isFed_3 : decode cX3_isFed 3 = .ok (.iload_n 2, 1) := by decide +kernel
theorem dX3_isFed_4 : decode cX3_isFed 4 = .ok (.istore 5, 2) := by decide +kernel
theorem dX3_isFed_6 : decode cX3_isFed 6 = .ok (.iload 5, 2) := by decide +kernel
theorem dX3_isFed_8 : decode cX3_isFed 8 = .ok (.bipush (-6), 2) := by decide +kernel
theorem dX3_isFed_10 : decode cX3_isFed 10 = .ok (.if_icmp .eq 37, 3) := by decide +kernel
theorem dX3_isFed_13 : decode cX3_isFed 13 = .ok (.iload 4, 2) := by decide +kernel
theorem dX3_isFed_15 : decode cX3_isFed 15 = .ok (.ifCond .ne 9, 3) := by decide +kernel
theorem dX3_isFed_18 : decode cX3_isFed 18 = .ok (.iload 5, 2) := by decide +kernel
theorem dX3_isFed_20 : decode cX3_isFed 20 = .ok (.iload_n 3, 1) := by decide +kernel
theorem dX3_isFed_21 : decode cX3_isFed 21 = .ok (.if_icmp .ne 7, 3) := by decide +kernel
theorem dX3_isFed_24 : decode cX3_isFed 24 = .ok (.iconst 1, 1) := by decide +kernel
theorem dX3_isFed_25 : decode cX3_isFed 25 = .ok (.goto 4, 3) := by decide +kernel
theorem dX3_isFed_28 : decode cX3_isFed 28 = .ok (.iconst 0, 1) := by decide +kernel
theorem dX3_isFed_29 : decode cX3_isFed 29 = .ok (.istore 4, 2) := by decide +kernel
theorem dX3_isFed_31 : decode cX3_isFed 31 = .ok (.aload_n 0, 1) := by decide +kernel
theorem dX3_isFed_32 : decode cX3_isFed 32 = .ok (.getfield 7, 3) := by decide +kernel
theorem dX3_isFed_35 : decode cX3_isFed 35 = .ok (.iload_n 1, 1) := by decide +kernel
theorem dX3_isFed_36 : decode cX3_isFed 36 = .ok (.iload 5, 2) := by decide +kernel
theorem dX3_isFed_38 : decode cX3_isFed 38 = .ok (.invokestatic 37, 3) := by decide +kernel
theorem dX3_isFed_41 : decode cX3_isFed 41 = .ok (.iaload, 1) := by decide +kernel
theorem dX3_isFed_42 : decode cX3_isFed 42 = .ok (.istore 5, 2) := by decide +kernel
theorem dX3_isFed_44 : decode cX3_isFed 44 = .ok (.goto (-38), 3) := by decide +kernel
theorem dX3_isFed_47 : decode cX3_isFed 47 = .ok (.iload 4, 2) := by decide +kernel
theorem dX3_isFed_49 : decode cX3_isFed 49 = .ok (.ireturn, 1) := by decide +kernel
theorem dX3_current_0 : decode cX3_current 0 = .ok (.iconst 0, 1) := by decide +kernel
theorem dX3_current_1 : decode cX3_current 1 = .ok (.istore_n 3, 1) := by decide +kernel
theorem dX3_current_2 : decode cX3_current 2 = .ok (.iconst 0, 1) := by decide +kernel
theorem dX3_current_3 : decode cX3_current 3 = .ok (.istore 4, 2) := by decide +kernel
theorem dX3_current_5 : decode cX3_current 5 = .ok (.iload 4, 2) := by decide +kernel
theorem dX3_current_7 : decode cX3_current 7 = .ok (.aload_n 0, 1) := by decide +kernel
theorem dX3_current_8 : decode cX3_current 8 = .ok (.getfield 7, 3) := by decide +kernel
theorem dX3_current_11 : decode cX3_current 11 = .ok (.iload_n 1, 1) := by decide +kernel
theorem dX3_current_12 : decode cX3_current 12 = .ok (.iconst 5, 1) := by decide +kernel
theorem dX3_current_13 : decode cX3_current 13 = .ok (.iadd, 1) := by decide +kernel
theorem dX3_current_14 : decode cX3_current 14 = .ok (.iaload, 1) := by decide +kernel
theorem dX3_current_15 : decode cX3_current 15 = .ok (.if_icmp .ge 77, 3) := by decide +kernel
theorem dX3_current_18 : decode cX3_current 18 = .ok (.iload_n 1, 1) := by decide +kernel
theorem dX3_current_19 : decode cX3_current 19 = .ok (.iload 4, 2) := by decide +kernel
theorem dX3_current_21 : decode cX3_current 21 = .ok (.invokestatic 41, 3) := by decide +kernel
theorem dX3_current_24 : decode cX3_current 24 = .ok (.istore 5, 2) := by decide +kernel
theorem dX3_current_26 : decode cX3_current 26 = .ok (.iload_n 3, 1) := by decide +kernel
theorem dX3_current_27 : decode cX3_current 27 = .ok (.aload_n 0, 1) := by decide +kernel
theorem dX3_current_28 : decode cX3_current 28 = .ok (.getfield 7, 3) := by decide +kernel
theorem dX3_current_31 : decode cX3_current 31 = .ok (.iload 5, 2) := by decide +kernel
theorem dX3_current_33 : decode cX3_current 33 = .ok (.iconst 2, 1) := by decide +kernel
theorem dX3_current_34 : decode cX3_current 34 = .ok (.iadd, 1) := by decide +kernel
theorem dX3_current_35 : decode cX3_current 35 = .ok (.iaload, 1) := by decide +kernel
theorem dX3_current_36 : decode cX3_current 36 = .ok (.iconst 1, 1) := by decide +kernel
theorem dX3_current_37 : decode cX3_current 37 = .ok (.if_icmp .ne 46, 3) := by decide +kernel
theorem dX3_current_40 : decode cX3_current 40 = .ok (.aload_n 0, 1) := by decide +kernel
theorem dX3_current_41 : decode cX3_current 41 = .ok (.iload_n 1, 1) := by decide +kernel
theorem dX3_current_42 : decode cX3_current 42 = .ok (.aload_n 0, 1) := by decide +kernel
theorem dX3_current_43 : decode cX3_current 43 = .ok (.getfield 7, 3) := by decide +kernel
theorem dX3_current_46 : decode cX3_current 46 = .ok (.iload 5, 2) := by decide +kernel
theorem dX3_current_48 : decode cX3_current 48 = .ok (.iaload, 1) := by decide +kernel
theorem dX3_current_49 : decode cX3_current 49 = .ok (.iload_n 2, 1) := by decide +kernel
theorem dX3_current_50 : decode cX3_current 50 = .ok (.invokevirtual 44, 3) := by decide +kernel
theorem dX3_current_53 : decode cX3_current 53 = .ok (.ifCond .eq 30, 3) := by decide +kernel
theorem dX3_current_56 : decode cX3_current 56 = .ok (.aload_n 0, 1) := by decide +kernel
theorem dX3_current_57 : decode cX3_current 57 = .ok (.iload_n 1, 1) := by decide +kernel
theorem dX3_current_58 : decode cX3_current 58 = .ok (.aload_n 0, 1) := by decide +kernel
theorem dX3_current_59 : decode cX3_current 59 = .ok (.getfield 7, 3) := by decide +kernel
theorem dX3_current_62 : decode cX3_current 62 = .ok (.iload 5, 2) := by decide +kernel
theorem dX3_current_64 : decode cX3_current 64 = .ok (.iaload, 1) := by decide +kernel
theorem dX3_current_65 : decode cX3_current 65 = .ok (.invokevirtual 48, 3) := by decide +kernel
theorem dX3_current_68 : decode cX3_current 68 = .ok (.ifCond .ne 15, 3) := by decide +kernel
theorem dX3_current_71 : decode cX3_current 71 = .ok (.aload_n 0, 1) := by decide +kernel
theorem dX3_current_72 : decode cX3_current 72 = .ok (.getfield 7, 3) := by decide +kernel
theorem dX3_current_75 : decode cX3_current 75 = .ok (.iload 5, 2) := by decide +kernel
theorem dX3_current_77 : decode cX3_current 77 = .ok (.iconst 1, 1) := by decide +kernel
theorem dX3_current_78 : decode cX3_current 78 = .ok (.iadd, 1) := by decide +kernel
theorem dX3_current_79 : decode cX3_current 79 = .ok (.iaload, 1) := by decide +kernel
theorem dX3_current_80 : decode cX3_current 80 = .ok (.goto 4, 3) := by decide +kernel
theorem dX3_current_83 : decode cX3_current 83 = .ok (.iconst 0, 1) := by decide +kernel
theorem dX3_current_84 : decode cX3_current 84 = .ok (.iadd, 1) := by decide +kernel
theorem dX3_current_85 : decode cX3_current 85 = .ok (.istore_n 3, 1) := by decide +kernel
theorem dX3_current_86 : decode cX3_current 86 = .ok (.iinc 4 1, 3) := by decide +kernel
theorem dX3_current_89 : decode cX3_current 89 = .ok (.goto (-84), 3) := by decide +kernel
theorem dX3_current_92 : decode cX3_current 92 = .ok (.aload_n 0, 1) := by decide +kernel
theorem dX3_current_93 : decode cX3_current 93 = .ok (.getfield 20, 3) := by decide +kernel
theorem dX3_current_96 : decode cX3_current 96 = .ok (.bipush (-6), 2) := by decide +kernel
theorem dX3_current_98 : decode cX3_current 98 = .ok (.if_icmp .eq 32, 3) := by decide +kernel
theorem dX3_current_101 : decode cX3_current 101 = .ok (.aload_n 0, 1) := by decide +kernel
theorem dX3_current_102 : decode cX3_current 102 = .ok (.iload_n 1, 1) := by decide +kernel
theorem dX3_current_103 : decode cX3_current 103 = .ok (.aload_n 0, 1) := by decide +kernel
theorem dX3_current_104 : decode cX3_current 104 = .ok (.getfield 20, 3) := by decide +kernel
theorem dX3_current_107 : decode cX3_current 107 = .ok (.iload_n 2, 1) := by decide +kernel
theorem dX3_current_108 : decode cX3_current 108 = .ok (.invokevirtual 44, 3) := by decide +kernel
theorem dX3_current_111 : decode cX3_current 111 = .ok (.ifCond .eq 19, 3) := by decide +kernel
theorem dX3_current_114 : decode cX3_current 114 = .ok (.aload_n 0, 1) := by decide +kernel
theorem dX3_current_115 : decode cX3_current 115 = .ok (.iload_n 1, 1) := by decide +kernel
theorem dX3_current_116 : decode cX3_current 116 = .ok (.aload_n 0, 1) := by decide +kernel
theorem dX3_current_117 : decode cX3_current 117 = .ok (.getfield 20, 3) := by decide +kernel
theorem dX3_current_120 : decode cX3_current 120 = .ok (.invokevirtual 48, 3) := by decide +kernel
theorem dX3_current_123 : decode cX3_current 123 = .ok (.ifCond .ne 7, 3) := by decide +kernel
theorem dX3_current_126 : decode cX3_current 126 = .ok (.iconst 1, 1) := by decide +kernel
theorem dX3_current_127 : decode cX3_current 127 = .ok (.goto 4, 3) := by decide +kernel
theorem dX3_current_130 : decode cX3_current 130 = .ok (.iconst 0, 1) := by decide +kernel
theorem dX3_current_131 : decode cX3_current 131 = .ok (.istore 4, 2) := by decide +kernel
theorem dX3_current_133 : decode cX3_current 133 = .ok (.iload_n 3, 1) := by decide +kernel
theorem dX3_current_134 : decode cX3_current 134 = .ok (.iload 4, 2) := by decide +kernel
theorem dX3_current_136 : decode cX3_current 136 = .ok (.ifCond .eq 10, 3) := by decide +kernel
theorem dX3_current_139 : decode cX3_current 139 = .ok (.aload_n 0, 1) := by decide +kernel
theorem dX3_current_140 : decode cX3_current 140 = .ok (.getfield 52, 3) := by decide +kernel
theorem dX3_current_143 : decode cX3_current 143 = .ok (.goto 4, 3) := by decide +kernel
theorem dX3_current_146 : decode cX3_current 146 = .ok (.iconst 0, 1) := by decide +kernel
theorem dX3_current_147 : decode cX3_current 147 = .ok (.iadd, 1) := by decide +kernel
theorem dX3_current_148 : decode cX3_current 148 = .ok (.ireturn, 1) := by decide +kernel
theorem dX3_meltingHeat_0 : decode cX3_meltingHeat 0 = .ok (.iload_n 1, 1) := by decide +kernel
theorem dX3_meltingHeat_1 : decode cX3_meltingHeat 1 = .ok (.iload_n 2, 1) := by decide +kernel
theorem dX3_meltingHeat_2 : decode cX3_meltingHeat 2 = .ok (.invokestatic 37, 3) := by decide +kernel
theorem dX3_meltingHeat_5 : decode cX3_meltingHeat 5 = .ok (.istore_n 3, 1) := by decide +kernel
theorem dX3_meltingHeat_6 : decode cX3_meltingHeat 6 = .ok (.aload_n 0, 1) := by decide +kernel
theorem dX3_meltingHeat_7 : decode cX3_meltingHeat 7 = .ok (.getfield 7, 3) := by decide +kernel
theorem dX3_meltingHeat_10 : decode cX3_meltingHeat 10 = .ok (.iload_n 3, 1) := by decide +kernel
theorem dX3_meltingHeat_11 : decode cX3_meltingHeat 11 = .ok (.iconst 1, 1) := by decide +kernel
theorem dX3_meltingHeat_12 : decode cX3_meltingHeat 12 = .ok (.iadd, 1) := by decide +kernel
theorem dX3_meltingHeat_13 : decode cX3_meltingHeat 13 = .ok (.iaload, 1) := by decide +kernel
theorem dX3_meltingHeat_14 : decode cX3_meltingHeat 14 = .ok (.istore 4, 2) := by decide +kernel
theorem dX3_meltingHeat_16 : decode cX3_meltingHeat 16 = .ok (.iload 4, 2) := by decide +kernel
theorem dX3_meltingHeat_18 : decode cX3_meltingHeat 18 = .ok (.iload 4, 2) := by decide +kernel
theorem dX3_meltingHeat_20 : decode cX3_meltingHeat 20 = .ok (.imul, 1) := by decide +kernel
theorem dX3_meltingHeat_21 : decode cX3_meltingHeat 21 = .ok (.aload_n 0, 1) := by decide +kernel
theorem dX3_meltingHeat_22 : decode cX3_meltingHeat 22 = .ok (.getfield 7, 3) := by decide +kernel
theorem dX3_meltingHeat_25 : decode cX3_meltingHeat 25 = .ok (.iload_n 3, 1) := by decide +kernel
theorem dX3_meltingHeat_26 : decode cX3_meltingHeat 26 = .ok (.iconst 2, 1) := by decide +kernel
theorem dX3_meltingHeat_27 : decode cX3_meltingHeat 27 = .ok (.iadd, 1) := by decide +kernel
theorem dX3_meltingHeat_28 : decode cX3_meltingHeat 28 = .ok (.iaload, 1) := by decide +kernel
theorem dX3_meltingHeat_29 : decode cX3_meltingHeat 29 = .ok (.ifCond .ne 8, 3) := by decide +kernel
theorem dX3_meltingHeat_32 : decode cX3_meltingHeat 32 = .ok (.bipush 8, 2) := by decide +kernel
theorem dX3_meltingHeat_34 : decode cX3_meltingHeat 34 = .ok (.goto 22, 3) := by decide +kernel
theorem dX3_meltingHeat_37 : decode cX3_meltingHeat 37 = .ok (.aload_n 0, 1) := by decide +kernel
theorem dX3_meltingHeat_38 : decode cX3_meltingHeat 38 = .ok (.getfield 7, 3) := by decide +kernel
theorem dX3_meltingHeat_41 : decode cX3_meltingHeat 41 = .ok (.iload_n 3, 1) := by decide +kernel
theorem dX3_meltingHeat_42 : decode cX3_meltingHeat 42 = .ok (.iconst 2, 1) := by decide +kernel
theorem dX3_meltingHeat_43 : decode cX3_meltingHeat 43 = .ok (.iadd, 1) := by decide +kernel
theorem dX3_meltingHeat_44 : decode cX3_meltingHeat 44 = .ok (.iaload, 1) := by decide +kernel
theorem dX3_meltingHeat_45 : decode cX3_meltingHeat 45 = .ok (.iconst 1, 1) := by decide +kernel
theorem dX3_meltingHeat_46 : decode cX3_meltingHeat 46 = .ok (.if_icmp .ne 8, 3) := by decide +kernel
theorem dX3_meltingHeat_49 : decode cX3_meltingHeat 49 = .ok (.bipush 40, 2) := by decide +kernel
theorem dX3_meltingHeat_51 : decode cX3_meltingHeat 51 = .ok (.goto 5, 3) := by decide +kernel
theorem dX3_meltingHeat_54 : decode cX3_meltingHeat 54 = .ok (.bipush 20, 2) := by decide +kernel
theorem dX3_meltingHeat_56 : decode cX3_meltingHeat 56 = .ok (.imul, 1) := by decide +kernel
theorem dX3_meltingHeat_57 : decode cX3_meltingHeat 57 = .ok (.bipush 20, 2) := by decide +kernel
theorem dX3_meltingHeat_59 : decode cX3_meltingHeat 59 = .ok (.iload 4, 2) := by decide +kernel
theorem dX3_meltingHeat_61 : decode cX3_meltingHeat 61 = .ok (.imul, 1) := by decide +kernel
theorem dX3_meltingHeat_62 : decode cX3_meltingHeat 62 = .ok (.aload_n 0, 1) := by decide +kernel
theorem dX3_meltingHeat_63 : decode cX3_meltingHeat 63 = .ok (.getfield 7, 3) := by decide +kernel
theorem dX3_meltingHeat_66 : decode cX3_meltingHeat 66 = .ok (.iload_n 3, 1) := by decide +kernel
theorem dX3_meltingHeat_67 : decode cX3_meltingHeat 67 = .ok (.iconst 5, 1) := by decide +kernel
theorem dX3_meltingHeat_68 : decode cX3_meltingHeat 68 = .ok (.iadd, 1) := by decide +kernel
theorem dX3_meltingHeat_69 : decode cX3_meltingHeat 69 = .ok (.iaload, 1) := by decide +kernel
theorem dX3_meltingHeat_70 : decode cX3_meltingHeat 70 = .ok (.imul, 1) := by decide +kernel
theorem dX3_meltingHeat_71 : decode cX3_meltingHeat 71 = .ok (.isub, 1) := by decide +kernel
theorem dX3_meltingHeat_72 : decode cX3_meltingHeat 72 = .ok (.istore 5, 2) := by decide +kernel
theorem dX3_meltingHeat_74 : decode cX3_meltingHeat 74 = .ok (.iload 5, 2) := by decide +kernel
theorem dX3_meltingHeat_76 : decode cX3_meltingHeat 76 = .ok (.iconst 1, 1) := by decide +kernel
theorem dX3_meltingHeat_77 : decode cX3_meltingHeat 77 = .ok (.if_icmp .ge 7, 3) := by decide +kernel
theorem dX3_meltingHeat_80 : decode cX3_meltingHeat 80 = .ok (.iconst 1, 1) := by decide +kernel
theorem dX3_meltingHeat_81 : decode cX3_meltingHeat 81 = .ok (.goto 5, 3) := by decide +kernel
theorem dX3_meltingHeat_84 : decode cX3_meltingHeat 84 = .ok (.iload 5, 2) := by decide +kernel
theorem dX3_meltingHeat_86 : decode cX3_meltingHeat 86 = .ok (.ireturn, 1) := by decide +kernel
theorem dX3_burns_0 : decode cX3_burns 0 = .ok (.iload_n 1, 1) := by decide +kernel
theorem dX3_burns_1 : decode cX3_burns 1 = .ok (.iload_n 2, 1) := by decide +kernel
theorem dX3_burns_2 : decode cX3_burns 2 = .ok (.invokestatic 37, 3) := by decide +kernel
theorem dX3_burns_5 : decode cX3_burns 5 = .ok (.istore_n 3, 1) := by decide +kernel
theorem dX3_burns_6 : decode cX3_burns 6 = .ok (.aload_n 0, 1) := by decide +kernel
theorem dX3_burns_7 : decode cX3_burns 7 = .ok (.getfield 7, 3) := by decide +kernel
theorem dX3_burns_10 : decode cX3_burns 10 = .ok (.iload_n 3, 1) := by decide +kernel
theorem dX3_burns_11 : decode cX3_burns 11 = .ok (.iconst 3, 1) := by decide +kernel
theorem dX3_burns_12 : decode cX3_burns 12 = .ok (.iadd, 1) := by decide +kernel
theorem dX3_burns_13 : decode cX3_burns 13 = .ok (.iaload, 1) := by decide +kernel
theorem dX3_burns_14 : decode cX3_burns 14 = .ok (.iconst 1, 1) := by decide +kernel
theorem dX3_burns_15 : decode cX3_burns 15 = .ok (.if_icmp .ne 41, 3) := by decide +kernel
theorem dX3_burns_18 : decode cX3_burns 18 = .ok (.aload_n 0, 1) := by decide +kernel
theorem dX3_burns_19 : decode cX3_burns 19 = .ok (.getfield 7, 3) := by decide +kernel
theorem dX3_burns_22 : decode cX3_burns 22 = .ok (.iload_n 3, 1) := by decide +kernel
theorem dX3_burns_23 : decode cX3_burns 23 = .ok (.bipush 7, 2) := by decide +kernel
theorem dX3_burns_25 : decode cX3_burns 25 = .ok (.iadd, 1) := by decide +kernel
theorem dX3_burns_26 : decode cX3_burns 26 = .ok (.dup2, 1) := by decide +kernel
theorem dX3_burns_27 : decode cX3_burns 27 = .ok (.iaload, 1) := by decide +kernel
theorem dX3_burns_28 : decode cX3_burns 28 = .ok (.iconst 1, 1) := by decide +kernel
theorem dX3_burns_29 : decode cX3_burns 29 = .ok (.isub, 1) := by decide +kernel
theorem dX3_burns_30 : decode cX3_burns 30 = .ok (.iastore, 1) := by decide +kernel
theorem dX3_burns_31 : decode cX3_burns 31 = .ok (.aload_n 0, 1) := by decide +kernel
theorem dX3_burns_32 : decode cX3_burns 32 = .ok (.getfield 7, 3) := by decide +kernel
theorem dX3_burns_35 : decode cX3_burns 35 = .ok (.iload_n 3, 1) := by decide +kernel
theorem dX3_burns_36 : decode cX3_burns 36 = .ok (.iconst 3, 1) := by decide +kernel
theorem dX3_burns_37 : decode cX3_burns 37 = .ok (.iadd, 1) := by decide +kernel
theorem dX3_burns_38 : decode cX3_burns 38 = .ok (.aload_n 0, 1) := by decide +kernel
theorem dX3_burns_39 : decode cX3_burns 39 = .ok (.getfield 7, 3) := by decide +kernel
theorem dX3_burns_42 : decode cX3_burns 42 = .ok (.iload_n 3, 1) := by decide +kernel
theorem dX3_burns_43 : decode cX3_burns 43 = .ok (.bipush 7, 2) := by decide +kernel
theorem dX3_burns_45 : decode cX3_burns 45 = .ok (.iadd, 1) := by decide +kernel
theorem dX3_burns_46 : decode cX3_burns 46 = .ok (.iaload, 1) := by decide +kernel
theorem dX3_burns_47 : decode cX3_burns 47 = .ok (.ifCond .ne 7, 3) := by decide +kernel
theorem dX3_burns_50 : decode cX3_burns 50 = .ok (.iconst 2, 1) := by decide +kernel
theorem dX3_burns_51 : decode cX3_burns 51 = .ok (.goto 4, 3) := by decide +kernel
theorem dX3_burns_54 : decode cX3_burns 54 = .ok (.iconst 1, 1) := by decide +kernel
theorem dX3_burns_55 : decode cX3_burns 55 = .ok (.iastore, 1) := by decide +kernel
theorem dX3_burns_56 : decode cX3_burns 56 = .ok (.return_, 1) := by decide +kernel
theorem dX3_heats_0 : decode cX3_heats 0 = .ok (.iload_n 1, 1) := by decide +kernel
theorem dX3_heats_1 : decode cX3_heats 1 = .ok (.iload_n 2, 1) := by decide +kernel
theorem dX3_heats_2 : decode cX3_heats 2 = .ok (.invokestatic 37, 3) := by decide +kernel
theorem dX3_heats_5 : decode cX3_heats 5 = .ok (.istore_n 3, 1) := by decide +kernel
theorem dX3_heats_6 : decode cX3_heats 6 = .ok (.aload_n 0, 1) := by decide +kernel
theorem dX3_heats_7 : decode cX3_heats 7 = .ok (.getfield 24, 3) := by decide +kernel
theorem dX3_heats_10 : decode cX3_heats 10 = .ok (.iload_n 2, 1) := by decide +kernel
theorem dX3_heats_11 : decode cX3_heats 11 = .ok (.iaload, 1) := by decide +kernel
theorem dX3_heats_12 : decode cX3_heats 12 = .ok (.istore 4, 2) := by decide +kernel
theorem dX3_heats_14 : decode cX3_heats 14 = .ok (.aload_n 0, 1) := by decide +kernel
theorem dX3_heats_15 : decode cX3_heats 15 = .ok (.getfield 7, 3) := by decide +kernel
theorem dX3_heats_18 : decode cX3_heats 18 = .ok (.iload_n 3, 1) := by decide +kernel
theorem dX3_heats_19 : decode cX3_heats 19 = .ok (.iconst 1, 1) := by decide +kernel
theorem dX3_heats_20 : decode cX3_heats 20 = .ok (.iadd, 1) := by decide +kernel
theorem dX3_heats_21 : decode cX3_heats 21 = .ok (.iaload, 1) := by decide +kernel
theorem dX3_heats_22 : decode cX3_heats 22 = .ok (.istore 5, 2) := by decide +kernel
theorem dX3_heats_24 : decode cX3_heats 24 = .ok (.aload_n 0, 1) := by decide +kernel
theorem dX3_heats_25 : decode cX3_heats 25 = .ok (.getfield 7, 3) := by decide +kernel
theorem dX3_heats_28 : decode cX3_heats 28 = .ok (.iload_n 3, 1) := by decide +kernel
theorem dX3_heats_29 : decode cX3_heats 29 = .ok (.iconst 4, 1) := by decide +kernel
theorem dX3_heats_30 : decode cX3_heats 30 = .ok (.iadd, 1) := by decide +kernel
theorem dX3_heats_31 : decode cX3_heats 31 = .ok (.iaload, 1) := by decide +kernel
theorem dX3_heats_32 : decode cX3_heats 32 = .ok (.istore 6, 2) := by decide +kernel
theorem dX3_heats_34 : decode cX3_heats 34 = .ok (.iload 6, 2) := by decide +kernel
theorem dX3_heats_36 : decode cX3_heats 36 = .ok (.iload 4, 2) := by decide +kernel
theorem dX3_heats_38 : decode cX3_heats 38 = .ok (.iload 5, 2) := by decide +kernel
theorem dX3_heats_40 : decode cX3_heats 40 = .ok (.if_icmp .le 17, 3) := by decide +kernel
theorem dX3_heats_43 : decode cX3_heats 43 = .ok (.iload 4, 2) := by decide +kernel
theorem dX3_heats_45 : decode cX3_heats 45 = .ok (.iload 4, 2) := by decide +kernel
theorem dX3_heats_47 : decode cX3_heats 47 = .ok (.imul, 1) := by decide +kernel
theorem dX3_heats_48 : decode cX3_heats 48 = .ok (.iload 5, 2) := by decide +kernel
theorem dX3_heats_50 : decode cX3_heats 50 = .ok (.iload 5, 2) := by decide +kernel
theorem dX3_heats_52 : decode cX3_heats 52 = .ok (.imul, 1) := by decide +kernel
theorem dX3_heats_53 : decode cX3_heats 53 = .ok (.isub, 1) := by decide +kernel
theorem dX3_heats_54 : decode cX3_heats 54 = .ok (.goto 24, 3) := by decide +kernel
theorem dX3_heats_57 : decode cX3_heats 57 = .ok (.iload 5, 2) := by decide +kernel
theorem dX3_heats_59 : decode cX3_heats 59 = .ok (.iload 5, 2) := by decide +kernel
theorem dX3_heats_61 : decode cX3_heats 61 = .ok (.imul, 1) := by decide +kernel
theorem dX3_heats_62 : decode cX3_heats 62 = .ok (.iload 4, 2) := by decide +kernel
theorem dX3_heats_64 : decode cX3_heats 64 = .ok (.iload 4, 2) := by decide +kernel
theorem dX3_heats_66 : decode cX3_heats 66 = .ok (.imul, 1) := by decide +kernel
theorem dX3_heats_67 : decode cX3_heats 67 = .ok (.isub, 1) := by decide +kernel
theorem dX3_heats_68 : decode cX3_heats 68 = .ok (.aload_n 0, 1) := by decide +kernel
theorem dX3_heats_69 : decode cX3_heats 69 = .ok (.getfield 7, 3) := by decide +kernel
theorem dX3_heats_72 : decode cX3_heats 72 = .ok (.iload_n 1, 1) := by decide +kernel
theorem dX3_heats_73 : decode cX3_heats 73 = .ok (.iconst 1, 1) := by decide +kernel
theorem dX3_heats_74 : decode cX3_heats 74 = .ok (.iadd, 1) := by decide +kernel
theorem dX3_heats_75 : decode cX3_heats 75 = .ok (.iaload, 1) := by decide +kernel
theorem dX3_heats_76 : decode cX3_heats 76 = .ok (.idiv, 1) := by decide +kernel
theorem dX3_heats_77 : decode cX3_heats 77 = .ok (.ineg, 1) := by decide +kernel
theorem dX3_heats_78 : decode cX3_heats 78 = .ok (.iadd, 1) := by decide +kernel
theorem dX3_heats_79 : decode cX3_heats 79 = .ok (.istore 6, 2) := by decide +kernel
theorem dX3_heats_81 : decode cX3_heats 81 = .ok (.aload_n 0, 1) := by decide +kernel
theorem dX3_heats_82 : decode cX3_heats 82 = .ok (.getfield 7, 3) := by decide +kernel
theorem dX3_heats_85 : decode cX3_heats 85 = .ok (.iload_n 3, 1) := by decide +kernel
theorem dX3_heats_86 : decode cX3_heats 86 = .ok (.iconst 4, 1) := by decide +kernel
theorem dX3_heats_87 : decode cX3_heats 87 = .ok (.iadd, 1) := by decide +kernel
theorem dX3_heats_88 : decode cX3_heats 88 = .ok (.iload 6, 2) := by decide +kernel
theorem dX3_heats_90 : decode cX3_heats 90 = .ok (.ldc 55, 2) := by decide +kernel
theorem dX3_heats_92 : decode cX3_heats 92 = .ok (.if_icmp .le 8, 3) := by decide +kernel
theorem dX3_heats_95 : decode cX3_heats 95 = .ok (.ldc 55, 2) := by decide +kernel
theorem dX3_heats_97 : decode cX3_heats 97 = .ok (.goto 14, 3) := by decide +kernel
theorem dX3_heats_100 : decode cX3_heats 100 = .ok (.iload 6, 2) := by decide +kernel
theorem dX3_heats_102 : decode cX3_heats 102 = .ok (.ifCond .ge 7, 3) := by decide +kernel
theorem dX3_heats_105 : decode cX3_heats 105 = .ok (.iconst 0, 1) := by decide +kernel
theorem dX3_heats_106 : decode cX3_heats 106 = .ok (.goto 5, 3) := by decide +kernel
theorem dX3_heats_109 : decode cX3_heats 109 = .ok (.iload 6, 2) := by decide +kernel
theorem dX3_heats_111 : decode cX3_heats 111 = .ok (.iastore, 1) := by decide +kernel
theorem dX3_heats_112 : decode cX3_heats 112 = .ok (.aload_n 0, 1) := by decide +kernel
theorem dX3_heats_113 : decode cX3_heats 113 = .ok (.getfield 7, 3) := by decide +kernel
theorem dX3_heats_116 : decode cX3_heats 116 = .ok (.iload_n 3, 1) := by decide +kernel
theorem dX3_heats_117 : decode cX3_heats 117 = .ok (.iconst 2, 1) := by decide +kernel
theorem dX3_heats_118 : decode cX3_heats 118 = .ok (.iadd, 1) := by decide +kernel
theorem dX3_heats_119 : decode cX3_heats 119 = .ok (.iaload, 1) := by decide +kernel
theorem dX3_heats_120 : decode cX3_heats 120 = .ok (.iconst 2, 1) := by decide +kernel
theorem dX3_heats_121 : decode cX3_heats 121 = .ok (.if_icmp .ne 67, 3) := by decide +kernel
theorem dX3_heats_124 : decode cX3_heats 124 = .ok (.iconst 2, 1) := by decide +kernel
theorem dX3_heats_125 : decode cX3_heats 125 = .ok (.iload 4, 2) := by decide +kernel
theorem dX3_heats_127 : decode cX3_heats 127 = .ok (.imul, 1) := by decide +kernel
theorem dX3_heats_128 : decode cX3_heats 128 = .ok (.iload 5, 2) := by decide +kernel
theorem dX3_heats_130 : decode cX3_heats 130 = .ok (.if_icmp .le 58, 3) := by decide +kernel
theorem dX3_heats_133 : decode cX3_heats 133 = .ok (.aload_n 0, 1) := by decide +kernel
theorem dX3_heats_134 : decode cX3_heats 134 = .ok (.getfield 7, 3) := by decide +kernel
theorem dX3_heats_137 : decode cX3_heats 137 = .ok (.iload_n 3, 1) := by decide +kernel
theorem dX3_heats_138 : decode cX3_heats 138 = .ok (.bipush 6, 2) := by decide +kernel
theorem dX3_heats_140 : decode cX3_heats 140 = .ok (.iadd, 1) := by decide +kernel
theorem dX3_heats_141 : decode cX3_heats 141 = .ok (.dup2, 1) := by decide +kernel
theorem dX3_heats_142 : decode cX3_heats 142 = .ok (.iaload, 1) := by decide +kernel
theorem dX3_heats_143 : decode cX3_heats 143 = .ok (.iconst 1, 1) := by decide +kernel
theorem dX3_heats_144 : decode cX3_heats 144 = .ok (.iadd, 1) := by decide +kernel
theorem dX3_heats_145 : decode cX3_heats 145 = .ok (.iastore, 1) := by decide +kernel
theorem dX3_heats_146 : decode cX3_heats 146 = .ok (.aload_n 0, 1) := by decide +kernel
theorem dX3_heats_147 : decode cX3_heats 147 = .ok (.getfield 7, 3) := by decide +kernel
theorem dX3_heats_150 : decode cX3_heats 150 = .ok (.iload_n 3, 1) := by decide +kernel
theorem dX3_heats_151 : decode cX3_heats 151 = .ok (.bipush 6, 2) := by decide +kernel
theorem dX3_heats_153 : decode cX3_heats 153 = .ok (.iadd, 1) := by decide +kernel
theorem dX3_heats_154 : decode cX3_heats 154 = .ok (.iaload, 1) := by decide +kernel
theorem dX3_heats_155 : decode cX3_heats 155 = .ok (.aload_n 0, 1) := by decide +kernel
theorem dX3_heats_156 : decode cX3_heats 156 = .ok (.getfield 7, 3) := by decide +kernel
theorem dX3_heats_159 : decode cX3_heats 159 = .ok (.iload_n 1, 1) := by decide +kernel
theorem dX3_heats_160 : decode cX3_heats 160 = .ok (.iconst 2, 1) := by decide +kernel
theorem dX3_heats_161 : decode cX3_heats 161 = .ok (.iadd, 1) := by decide +kernel
theorem dX3_heats_162 : decode cX3_heats 162 = .ok (.iaload, 1) := by decide +kernel
theorem dX3_heats_163 : decode cX3_heats 163 = .ok (.if_icmp .lt 25, 3) := by decide +kernel
theorem dX3_heats_166 : decode cX3_heats 166 = .ok (.aload_n 0, 1) := by decide +kernel
theorem dX3_heats_167 : decode cX3_heats 167 = .ok (.getfield 7, 3) := by decide +kernel
theorem dX3_heats_170 : decode cX3_heats 170 = .ok (.iload_n 3, 1) := by decide +kernel
theorem dX3_heats_171 : decode cX3_heats 171 = .ok (.iconst 5, 1) := by decide +kernel
theorem dX3_heats_172 : decode cX3_heats 172 = .ok (.iadd, 1) := by decide +kernel
theorem dX3_heats_173 : decode cX3_heats 173 = .ok (.dup2, 1) := by decide +kernel
theorem dX3_heats_174 : decode cX3_heats 174 = .ok (.iaload, 1) := by decide +kernel
theorem dX3_heats_175 : decode cX3_heats 175 = .ok (.iconst 1, 1) := by decide +kernel
theorem dX3_heats_176 : decode cX3_heats 176 = .ok (.iadd, 1) := by decide +kernel
theorem dX3_heats_177 : decode cX3_heats 177 = .ok (.iastore, 1) := by decide +kernel
theorem dX3_heats_178 : decode cX3_heats 178 = .ok (.aload_n 0, 1) := by decide +kernel
theorem dX3_heats_179 : decode cX3_heats 179 = .ok (.getfield 7, 3) := by decide +kernel
theorem dX3_heats_182 : decode cX3_heats 182 = .ok (.iload_n 3, 1) := by decide +kernel
theorem dX3_heats_183 : decode cX3_heats 183 = .ok (.bipush 6, 2) := by decide +kernel
theorem dX3_heats_185 : decode cX3_heats 185 = .ok (.iadd, 1) := by decide +kernel
theorem dX3_heats_186 : decode cX3_heats 186 = .ok (.iconst 0, 1) := by decide +kernel
theorem dX3_heats_187 : decode cX3_heats 187 = .ok (.iastore, 1) := by decide +kernel
theorem dX3_heats_188 : decode cX3_heats 188 = .ok (.return_, 1) := by decide +kernel
theorem dX3_isNearest_0 : decode cX3_isNearest 0 = .ok (.iconst 1, 1) := by decide +kernel
theorem dX3_isNearest_1 : decode cX3_isNearest 1 = .ok (.istore_n 3, 1) := by decide +kernel
theorem dX3_isNearest_2 : decode cX3_isNearest 2 = .ok (.iconst 0, 1) := by decide +kernel
theorem dX3_isNearest_3 : decode cX3_isNearest 3 = .ok (.istore 4, 2) := by decide +kernel
theorem dX3_isNearest_5 : decode cX3_isNearest 5 = .ok (.iload 4, 2) := by decide +kernel
theorem dX3_isNearest_7 : decode cX3_isNearest 7 = .ok (.aload_n 0, 1) := by decide +kernel
theorem dX3_isNearest_8 : decode cX3_isNearest 8 = .ok (.getfield 7, 3) := by decide +kernel
theorem dX3_isNearest_11 : decode cX3_isNearest 11 = .ok (.iload_n 1, 1) := by decide +kernel
theorem dX3_isNearest_12 : decode cX3_isNearest 12 = .ok (.iconst 4, 1) := by decide +kernel
theorem dX3_isNearest_13 : decode cX3_isNearest 13 = .ok (.iadd, 1) := by decide +kernel
theorem dX3_isNearest_14 : decode cX3_isNearest 14 = .ok (.iaload, 1) := by decide +kernel
theorem dX3_isNearest_15 : decode cX3_isNearest 15 = .ok (.if_icmp .ge 46, 3) := by decide +kernel
theorem dX3_isNearest_18 : decode cX3_isNearest 18 = .ok (.iload_n 3, 1) := by decide +kernel
theorem dX3_isNearest_19 : decode cX3_isNearest 19 = .ok (.ifCond .eq 34, 3) := by decide +kernel
theorem dX3_isNearest_22 : decode cX3_isNearest 22 = .ok (.iload 4, 2) := by decide +kernel
theorem dX3_isNearest_24 : decode cX3_isNearest 24 = .ok (.iload_n 2, 1) := by decide +kernel
theorem dX3_isNearest_25 : decode cX3_isNearest 25 = .ok (.if_icmp .eq 24, 3) := by decide +kernel
theorem dX3_isNearest_28 : decode cX3_isNearest 28 = .ok (.aload_n 0, 1) := by decide +kernel
theorem dX3_isNearest_29 : decode cX3_isNearest 29 = .ok (.getfield 27, 3) := by decide +kernel
theorem dX3_isNearest_32 : decode cX3_isNearest 32 = .ok (.iload 4, 2) := by decide +kernel
theorem dX3_isNearest_34 : decode cX3_isNearest 34 = .ok (.baload, 1) := by decide +kernel
theorem dX3_isNearest_35 : decode cX3_isNearest 35 = .ok (.ifCond .eq 14, 3) := by decide +kernel
theorem dX3_isNearest_38 : decode cX3_isNearest 38 = .ok (.aload_n 0, 1) := by decide +kernel
theorem dX3_isNearest_39 : decode cX3_isNearest 39 = .ok (.iload_n 1, 1) := by decide +kernel
theorem dX3_isNearest_40 : decode cX3_isNearest 40 = .ok (.iload 4, 2) := by decide +kernel
theorem dX3_isNearest_42 : decode cX3_isNearest 42 = .ok (.iload_n 2, 1) := by decide +kernel
theorem dX3_isNearest_43 : decode cX3_isNearest 43 = .ok (.invokevirtual 44, 3) := by decide +kernel
theorem dX3_isNearest_46 : decode cX3_isNearest 46 = .ok (.ifCond .ne 7, 3) := by decide +kernel
theorem dX3_isNearest_49 : decode cX3_isNearest 49 = .ok (.iconst 1, 1) := by decide +kernel
theorem dX3_isNearest_50 : decode cX3_isNearest 50 = .ok (.goto 4, 3) := by decide +kernel
theorem dX3_isNearest_53 : decode cX3_isNearest 53 = .ok (.iconst 0, 1) := by decide +kernel
theorem dX3_isNearest_54 : decode cX3_isNearest 54 = .ok (.istore_n 3, 1) := by decide +kernel
theorem dX3_isNearest_55 : decode cX3_isNearest 55 = .ok (.iinc 4 1, 3) := by decide +kernel
theorem dX3_isNearest_58 : decode cX3_isNearest 58 = .ok (.goto (-53), 3) := by decide +kernel
theorem dX3_isNearest_61 : decode cX3_isNearest 61 = .ok (.iload_n 3, 1) := by decide +kernel
theorem dX3_isNearest_62 : decode cX3_isNearest 62 = .ok (.ireturn, 1) := by decide +kernel
theorem dX3_blows_0 : decode cX3_blows 0 = .ok (.iload_n 1, 1) := by decide +kernel
theorem dX3_blows_1 : decode cX3_blows 1 = .ok (.iload_n 2, 1) := by decide +kernel
theorem dX3_blows_2 : decode cX3_blows 2 = .ok (.invokestatic 37, 3) := by decide +kernel
theorem dX3_blows_5 : decode cX3_blows 5 = .ok (.istore_n 3, 1) := by decide +kernel
theorem dX3_blows_6 : decode cX3_blows 6 = .ok (.aload_n 0, 1) := by decide +kernel
theorem dX3_blows_7 : decode cX3_blows 7 = .ok (.getfield 7, 3) := by decide +kernel
theorem dX3_blows_10 : decode cX3_blows 10 = .ok (.iload_n 3, 1) := by decide +kernel
theorem dX3_blows_11 : decode cX3_blows 11 = .ok (.iconst 3, 1) := by decide +kernel
theorem dX3_blows_12 : decode cX3_blows 12 = .ok (.iadd, 1) := by decide +kernel
theorem dX3_blows_13 : decode cX3_blows 13 = .ok (.aload_n 0, 1) := by decide +kernel
theorem dX3_blows_14 : decode cX3_blows 14 = .ok (.getfield 7, 3) := by decide +kernel
theorem dX3_blows_17 : decode cX3_blows 17 = .ok (.iload_n 1, 1) := by decide +kernel
theorem dX3_blows_18 : decode cX3_blows 18 = .ok (.iconst 0, 1) := by decide +kernel
theorem dX3_blows_19 : decode cX3_blows 19 = .ok (.iadd, 1) := by decide +kernel
theorem dX3_blows_20 : decode cX3_blows 20 = .ok (.iaload, 1) := by decide +kernel
theorem dX3_blows_21 : decode cX3_blows 21 = .ok (.ifCond .ne 7, 3) := by decide +kernel
theorem dX3_blows_24 : decode cX3_blows 24 = .ok (.iconst 2, 1) := by decide +kernel
theorem dX3_blows_25 : decode cX3_blows 25 = .ok (.goto 4, 3) := by decide +kernel
theorem dX3_blows_28 : decode cX3_blows 28 = .ok (.iconst 1, 1) := by decide +kernel
theorem dX3_blows_29 : decode cX3_blows 29 = .ok (.iastore, 1) := by decide +kernel
theorem dX3_blows_30 : decode cX3_blows 30 = .ok (.aload_n 0, 1) := by decide +kernel
theorem dX3_blows_31 : decode cX3_blows 31 = .ok (.getfield 7, 3) := by decide +kernel
theorem dX3_blows_34 : decode cX3_blows 34 = .ok (.iload_n 3, 1) := by decide +kernel
theorem dX3_blows_35 : decode cX3_blows 35 = .ok (.bipush 7, 2) := by decide +kernel
theorem dX3_blows_37 : decode cX3_blows 37 = .ok (.iadd, 1) := by decide +kernel
theorem dX3_blows_38 : decode cX3_blows 38 = .ok (.aload_n 0, 1) := by decide +kernel
theorem dX3_blows_39 : decode cX3_blows 39 = .ok (.getfield 7, 3) := by decide +kernel
theorem dX3_blows_42 : decode cX3_blows 42 = .ok (.iload_n 1, 1) := by decide +kernel
theorem dX3_blows_43 : decode cX3_blows 43 = .ok (.iconst 0, 1) := by decide +kernel
theorem dX3_blows_44 : decode cX3_blows 44 = .ok (.iadd, 1) := by decide +kernel
theorem dX3_blows_45 : decode cX3_blows 45 = .ok (.iaload, 1) := by decide +kernel
theorem dX3_blows_46 : decode cX3_blows 46 = .ok (.iastore, 1) := by decide +kernel
theorem dX3_blows_47 : decode cX3_blows 47 = .ok (.aload_n 0, 1) := by decide +kernel
theorem dX3_blows_48 : decode cX3_blows 48 = .ok (.getfield 7, 3) := by decide +kernel
theorem dX3_blows_51 : decode cX3_blows 51 = .ok (.iload_n 3, 1) := by decide +kernel
theorem dX3_blows_52 : decode cX3_blows 52 = .ok (.bipush 8, 2) := by decide +kernel
theorem dX3_blows_54 : decode cX3_blows 54 = .ok (.iadd, 1) := by decide +kernel
theorem dX3_blows_55 : decode cX3_blows 55 = .ok (.dup2, 1) := by decide +kernel
theorem dX3_blows_56 : decode cX3_blows 56 = .ok (.iaload, 1) := by decide +kernel
theorem dX3_blows_57 : decode cX3_blows 57 = .ok (.iconst 1, 1) := by decide +kernel
theorem dX3_blows_58 : decode cX3_blows 58 = .ok (.iadd, 1) := by decide +kernel
theorem dX3_blows_59 : decode cX3_blows 59 = .ok (.iastore, 1) := by decide +kernel
theorem dX3_blows_60 : decode cX3_blows 60 = .ok (.aload_n 0, 1) := by decide +kernel
theorem dX3_blows_61 : decode cX3_blows 61 = .ok (.getfield 7, 3) := by decide +kernel
theorem dX3_blows_64 : decode cX3_blows 64 = .ok (.iload_n 1, 1) := by decide +kernel
theorem dX3_blows_65 : decode cX3_blows 65 = .ok (.bipush 6, 2) := by decide +kernel
theorem dX3_blows_67 : decode cX3_blows 67 = .ok (.iadd, 1) := by decide +kernel
theorem dX3_blows_68 : decode cX3_blows 68 = .ok (.dup2, 1) := by decide +kernel
theorem dX3_blows_69 : decode cX3_blows 69 = .ok (.iaload, 1) := by decide +kernel
theorem dX3_blows_70 : decode cX3_blows 70 = .ok (.iconst 1, 1) := by decide +kernel
theorem dX3_blows_71 : decode cX3_blows 71 = .ok (.iadd, 1) := by decide +kernel
theorem dX3_blows_72 : decode cX3_blows 72 = .ok (.iastore, 1) := by decide +kernel
theorem dX3_blows_73 : decode cX3_blows 73 = .ok (.bipush 7, 2) := by decide +kernel
theorem dX3_blows_75 : decode cX3_blows 75 = .ok (.istore 4, 2) := by decide +kernel
theorem dX3_blows_77 : decode cX3_blows 77 = .ok (.iload 4, 2) := by decide +kernel
theorem dX3_blows_79 : decode cX3_blows 79 = .ok (.ifCond .le 35, 3) := by decide +kernel
theorem dX3_blows_82 : decode cX3_blows 82 = .ok (.aload_n 0, 1) := by decide +kernel
theorem dX3_blows_83 : decode cX3_blows 83 = .ok (.getfield 7, 3) := by decide +kernel
theorem dX3_blows_86 : decode cX3_blows 86 = .ok (.iload_n 1, 1) := by decide +kernel
theorem dX3_blows_87 : decode cX3_blows 87 = .ok (.bipush 8, 2) := by decide +kernel
theorem dX3_blows_89 : decode cX3_blows 89 = .ok (.iadd, 1) := by decide +kernel
theorem dX3_blows_90 : decode cX3_blows 90 = .ok (.iload 4, 2) := by decide +kernel
theorem dX3_blows_92 : decode cX3_blows 92 = .ok (.iadd, 1) := by decide +kernel
theorem dX3_blows_93 : decode cX3_blows 93 = .ok (.aload_n 0, 1) := by decide +kernel
theorem dX3_blows_94 : decode cX3_blows 94 = .ok (.getfield 7, 3) := by decide +kernel
theorem dX3_blows_97 : decode cX3_blows 97 = .ok (.iload_n 1, 1) := by decide +kernel
theorem dX3_blows_98 : decode cX3_blows 98 = .ok (.bipush 8, 2) := by decide +kernel
theorem dX3_blows_100 : decode cX3_blows 100 = .ok (.iadd, 1) := by decide +kernel
theorem dX3_blows_101 : decode cX3_blows 101 = .ok (.iload 4, 2) := by decide +kernel
theorem dX3_blows_103 : decode cX3_blows 103 = .ok (.iadd, 1) := by decide +kernel
theorem dX3_blows_104 : decode cX3_blows 104 = .ok (.iconst 1, 1) := by decide +kernel
theorem dX3_blows_105 : decode cX3_blows 105 = .ok (.isub, 1) := by decide +kernel
theorem dX3_blows_106 : decode cX3_blows 106 = .ok (.iaload, 1) := by decide +kernel
theorem dX3_blows_107 : decode cX3_blows 107 = .ok (.iastore, 1) := by decide +kernel
theorem dX3_blows_108 : decode cX3_blows 108 = .ok (.iinc 4 (-1), 3) := by decide +kernel
theorem dX3_blows_111 : decode cX3_blows 111 = .ok (.goto (-34), 3) := by decide +kernel
theorem dX3_blows_114 : decode cX3_blows 114 = .ok (.aload_n 0, 1) := by decide +kernel
theorem dX3_blows_115 : decode cX3_blows 115 = .ok (.getfield 7, 3) := by decide +kernel
theorem dX3_blows_118 : decode cX3_blows 118 = .ok (.iload_n 1, 1) := by decide +kernel
theorem dX3_blows_119 : decode cX3_blows 119 = .ok (.bipush 8, 2) := by decide +kernel
theorem dX3_blows_121 : decode cX3_blows 121 = .ok (.iadd, 1) := by decide +kernel
theorem dX3_blows_122 : decode cX3_blows 122 = .ok (.iload_n 2, 1) := by decide +kernel
theorem dX3_blows_123 : decode cX3_blows 123 = .ok (.iastore, 1) := by decide +kernel
theorem dX3_blows_124 : decode cX3_blows 124 = .ok (.aload_n 0, 1) := by decide +kernel
theorem dX3_blows_125 : decode cX3_blows 125 = .ok (.getfield 7, 3) := by decide +kernel
theorem dX3_blows_128 : decode cX3_blows 128 = .ok (.iload_n 1, 1) := by decide +kernel
theorem dX3_blows_129 : decode cX3_blows 129 = .ok (.bipush 7, 2) := by decide +kernel
theorem dX3_blows_131 : decode cX3_blows 131 = .ok (.iadd, 1) := by decide +kernel
theorem dX3_blows_132 : decode cX3_blows 132 = .ok (.dup2, 1) := by decide +kernel
theorem dX3_blows_133 : decode cX3_blows 133 = .ok (.iaload, 1) := by decide +kernel
theorem dX3_blows_134 : decode cX3_blows 134 = .ok (.aload_n 0, 1) := by decide +kernel
theorem dX3_blows_135 : decode cX3_blows 135 = .ok (.getfield 7, 3) := by decide +kernel
theorem dX3_blows_138 : decode cX3_blows 138 = .ok (.iload_n 1, 1) := by decide +kernel
theorem dX3_blows_139 : decode cX3_blows 139 = .ok (.bipush 7, 2) := by decide +kernel
theorem dX3_blows_141 : decode cX3_blows 141 = .ok (.iadd, 1) := by decide +kernel
theorem dX3_blows_142 : decode cX3_blows 142 = .ok (.iaload, 1) := by decide +kernel
theorem dX3_blows_143 : decode cX3_blows 143 = .ok (.bipush 8, 2) := by decide +kernel
theorem dX3_blows_145 : decode cX3_blows 145 = .ok (.if_icmp .ge 7, 3) := by decide +kernel
theorem dX3_blows_148 : decode cX3_blows 148 = .ok (.iconst 1, 1) := by decide +kernel
theorem dX3_blows_149 : decode cX3_blows 149 = .ok (.goto 4, 3) := by decide +kernel
theorem dX3_blows_152 : decode cX3_blows 152 = .ok (.iconst 0, 1) := by decide +kernel
theorem dX3_blows_153 : decode cX3_blows 153 = .ok (.invokestatic 56, 3) := by decide +kernel
theorem dX3_blows_156 : decode cX3_blows 156 = .ok (.iadd, 1) := by decide +kernel
theorem dX3_blows_157 : decode cX3_blows 157 = .ok (.iastore, 1) := by decide +kernel
theorem dX3_blows_158 : decode cX3_blows 158 = .ok (.return_, 1) := by decide +kernel
theorem dX3_tick_0 : decode cX3_tick 0 = .ok (.aload_n 0, 1) := by decide +kernel
theorem dX3_tick_1 : decode cX3_tick 1 = .ok (.getfield 7, 3) := by decide +kernel
theorem dX3_tick_4 : decode cX3_tick 4 = .ok (.iload_n 1, 1) := by decide +kernel
theorem dX3_tick_5 : decode cX3_tick 5 = .ok (.iconst 4, 1) := by decide +kernel
theorem dX3_tick_6 : decode cX3_tick 6 = .ok (.iadd, 1) := by decide +kernel
theorem dX3_tick_7 : decode cX3_tick 7 = .ok (.iaload, 1) := by decide +kernel
theorem dX3_tick_8 : decode cX3_tick 8 = .ok (.istore_n 2, 1) := by decide +kernel
theorem dX3_tick_9 : decode cX3_tick 9 = .ok (.iconst 0, 1) := by decide +kernel
theorem dX3_tick_10 : decode cX3_tick 10 = .ok (.istore_n 3, 1) := by decide +kernel
theorem dX3_tick_11 : decode cX3_tick 11 = .ok (.iload_n 3, 1) := by decide +kernel
theorem dX3_tick_12 : decode cX3_tick 12 = .ok (.iload_n 2, 1) := by decide +kernel
theorem dX3_tick_13 : decode cX3_tick 13 = .ok (.if_icmp .ge 21, 3) := by decide +kernel
theorem dX3_tick_16 : decode cX3_tick 16 = .ok (.aload_n 0, 1) := by decide +kernel
theorem dX3_tick_17 : decode cX3_tick 17 = .ok (.getfield 24, 3) := by decide +kernel
theorem dX3_tick_20 : decode cX3_tick 20 = .ok (.iload_n 3, 1) := by decide +kernel
theorem dX3_tick_21 : decode cX3_tick 21 = .ok (.aload_n 0, 1) := by decide +kernel
theorem dX3_tick_22 : decode cX3_tick 22 = .ok (.iload_n 1, 1) := by decide +kernel
theorem dX3_tick_23 : decode cX3_tick 23 = .ok (.iload_n 3, 1) := by decide +kernel
theorem dX3_tick_24 : decode cX3_tick 24 = .ok (.invokevirtual 60, 3) := by decide +kernel
theorem dX3_tick_27 : decode cX3_tick 27 = .ok (.iastore, 1) := by decide +kernel
theorem dX3_tick_28 : decode cX3_tick 28 = .ok (.iinc 3 1, 3) := by decide +kernel
theorem dX3_tick_31 : decode cX3_tick 31 = .ok (.goto (-20), 3) := by decide +kernel
theorem dX3_tick_34 : decode cX3_tick 34 = .ok (.iconst 0, 1) := by decide +kernel
theorem dX3_tick_35 : decode cX3_tick 35 = .ok (.istore_n 3, 1) := by decide +kernel
theorem dX3_tick_36 : decode cX3_tick 36 = .ok (.iload_n 3, 1) := by decide +kernel
theorem dX3_tick_37 : decode cX3_tick 37 = .ok (.iload_n 2, 1) := by decide +kernel
theorem dX3_tick_38 : decode cX3_tick 38 = .ok (.if_icmp .ge 15, 3) := by decide +kernel
theorem dX3_tick_41 : decode cX3_tick 41 = .ok (.aload_n 0, 1) := by decide +kernel
theorem dX3_tick_42 : decode cX3_tick 42 = .ok (.iload_n 1, 1) := by decide +kernel
theorem dX3_tick_43 : decode cX3_tick 43 = .ok (.iload_n 3, 1) := by decide +kernel
theorem dX3_tick_44 : decode cX3_tick 44 = .ok (.invokevirtual 63, 3) := by decide +kernel
theorem dX3_tick_47 : decode cX3_tick 47 = .ok (.iinc 3 1, 3) := by decide +kernel
theorem dX3_tick_50 : decode cX3_tick 50 = .ok (.goto (-14), 3) := by decide +kernel
theorem dX3_tick_53 : decode cX3_tick 53 = .ok (.iconst 0, 1) := by decide +kernel
theorem dX3_tick_54 : decode cX3_tick 54 = .ok (.istore_n 3, 1) := by decide +kernel
theorem dX3_tick_55 : decode cX3_tick 55 = .ok (.iload_n 3, 1) := by decide +kernel
theorem dX3_tick_56 : decode cX3_tick 56 = .ok (.iload_n 2, 1) := by decide +kernel
theorem dX3_tick_57 : decode cX3_tick 57 = .ok (.if_icmp .ge 79, 3) := by decide +kernel
theorem dX3_tick_60 : decode cX3_tick 60 = .ok (.aload_n 0, 1) := by decide +kernel
theorem dX3_tick_61 : decode cX3_tick 61 = .ok (.getfield 7, 3) := by decide +kernel
theorem dX3_tick_64 : decode cX3_tick 64 = .ok (.iload_n 1, 1) := by decide +kernel
theorem dX3_tick_65 : decode cX3_tick 65 = .ok (.iload_n 3, 1) := by decide +kernel
theorem dX3_tick_66 : decode cX3_tick 66 = .ok (.invokestatic 37, 3) := by decide +kernel
theorem dX3_tick_69 : decode cX3_tick 69 = .ok (.iconst 3, 1) := by decide +kernel
theorem dX3_tick_70 : decode cX3_tick 70 = .ok (.iadd, 1) := by decide +kernel
theorem dX3_tick_71 : decode cX3_tick 71 = .ok (.iaload, 1) := by decide +kernel
theorem dX3_tick_72 : decode cX3_tick 72 = .ok (.ifCond .ne 7, 3) := by decide +kernel
theorem dX3_tick_75 : decode cX3_tick 75 = .ok (.iconst 1, 1) := by decide +kernel
theorem dX3_tick_76 : decode cX3_tick 76 = .ok (.goto 4, 3) := by decide +kernel
theorem dX3_tick_79 : decode cX3_tick 79 = .ok (.iconst 0, 1) := by decide +kernel
theorem dX3_tick_80 : decode cX3_tick 80 = .ok (.istore 4, 2) := by decide +kernel
theorem dX3_tick_82 : decode cX3_tick 82 = .ok (.iload 4, 2) := by decide +kernel
theorem dX3_tick_84 : decode cX3_tick 84 = .ok (.ifCond .eq 9, 3) := by decide +kernel
theorem dX3_tick_87 : decode cX3_tick 87 = .ok (.aload_n 0, 1) := by decide +kernel
theorem dX3_tick_88 : decode cX3_tick 88 = .ok (.iload_n 1, 1) := by decide +kernel
theorem dX3_tick_89 : decode cX3_tick 89 = .ok (.iload_n 3, 1) := by decide +kernel
theorem dX3_tick_90 : decode cX3_tick 90 = .ok (.invokevirtual 66, 3) := by decide +kernel
theorem dX3_tick_93 : decode cX3_tick 93 = .ok (.aload_n 0, 1) := by decide +kernel
theorem dX3_tick_94 : decode cX3_tick 94 = .ok (.getfield 27, 3) := by decide +kernel
theorem dX3_tick_97 : decode cX3_tick 97 = .ok (.iload_n 3, 1) := by decide +kernel
theorem dX3_tick_98 : decode cX3_tick 98 = .ok (.iload 4, 2) := by decide +kernel
theorem dX3_tick_100 : decode cX3_tick 100 = .ok (.ifCond .eq 28, 3) := by decide +kernel
theorem dX3_tick_103 : decode cX3_tick 103 = .ok (.aload_n 0, 1) := by decide +kernel
theorem dX3_tick_104 : decode cX3_tick 104 = .ok (.getfield 7, 3) := by decide +kernel
theorem dX3_tick_107 : decode cX3_tick 107 = .ok (.iload_n 1, 1) := by decide +kernel
theorem dX3_tick_108 : decode cX3_tick 108 = .ok (.iload_n 3, 1) := by decide +kernel
theorem dX3_tick_109 : decode cX3_tick 109 = .ok (.invokestatic 37, 3) := by decide +kernel
theorem dX3_tick_112 : decode cX3_tick 112 = .ok (.iconst 4, 1) := by decide +kernel
theorem dX3_tick_113 : decode cX3_tick 113 = .ok (.iadd, 1) := by decide +kernel
theorem dX3_tick_114 : decode cX3_tick 114 = .ok (.iaload, 1) := by decide +kernel
theorem dX3_tick_115 : decode cX3_tick 115 = .ok (.aload_n 0, 1) := by decide +kernel
theorem dX3_tick_116 : decode cX3_tick 116 = .ok (.iload_n 1, 1) := by decide +kernel
theorem dX3_tick_117 : decode cX3_tick 117 = .ok (.iload_n 3, 1) := by decide +kernel
theorem dX3_tick_118 : decode cX3_tick 118 = .ok (.invokevirtual 69, 3) := by decide +kernel
theorem dX3_tick_121 : decode cX3_tick 121 = .ok (.if_icmp .lt 7, 3) := by decide +kernel
theorem dX3_tick_124 : decode cX3_tick 124 = .ok (.iconst 1, 1) := by decide +kernel
theorem dX3_tick_125 : decode cX3_tick 125 = .ok (.goto 4, 3) := by decide +kernel
theorem dX3_tick_128 : decode cX3_tick 128 = .ok (.iconst 0, 1) := by decide +kernel
theorem dX3_tick_129 : decode cX3_tick 129 = .ok (.bastore, 1) := by decide +kernel
theorem dX3_tick_130 : decode cX3_tick 130 = .ok (.iinc 3 1, 3) := by decide +kernel
theorem dX3_tick_133 : decode cX3_tick 133 = .ok (.goto (-78), 3) := by decide +kernel
theorem dX3_tick_136 : decode cX3_tick 136 = .ok (.iconst 0, 1) := by decide +kernel
theorem dX3_tick_137 : decode cX3_tick 137 = .ok (.istore_n 3, 1) := by decide +kernel
theorem dX3_tick_138 : decode cX3_tick 138 = .ok (.iconst 0, 1) := by decide +kernel
theorem dX3_tick_139 : decode cX3_tick 139 = .ok (.istore 4, 2) := by decide +kernel
theorem dX3_tick_141 : decode cX3_tick 141 = .ok (.iload 4, 2) := by decide +kernel
theorem dX3_tick_143 : decode cX3_tick 143 = .ok (.iload_n 2, 1) := by decide +kernel
theorem dX3_tick_144 : decode cX3_tick 144 = .ok (.if_icmp .ge 43, 3) := by decide +kernel
theorem dX3_tick_147 : decode cX3_tick 147 = .ok (.aload_n 0, 1) := by decide +kernel
theorem dX3_tick_148 : decode cX3_tick 148 = .ok (.getfield 27, 3) := by decide +kernel
theorem dX3_tick_151 : decode cX3_tick 151 = .ok (.iload 4, 2) := by decide +kernel
theorem dX3_tick_153 : decode cX3_tick 153 = .ok (.baload, 1) := by decide +kernel
theorem dX3_tick_154 : decode cX3_tick 154 = .ok (.ifCond .eq 27, 3) := by decide +kernel
theorem dX3_tick_157 : decode cX3_tick 157 = .ok (.aload_n 0, 1) := by decide +kernel
theorem dX3_tick_158 : decode cX3_tick 158 = .ok (.iload_n 1, 1) := by decide +kernel
theorem dX3_tick_159 : decode cX3_tick 159 = .ok (.iload 4, 2) := by decide +kernel
theorem dX3_tick_161 : decode cX3_tick 161 = .ok (.invokevirtual 72, 3) := by decide +kernel
theorem dX3_tick_164 : decode cX3_tick 164 = .ok (.ifCond .eq 17, 3) := by decide +kernel
theorem dX3_tick_167 : decode cX3_tick 167 = .ok (.iload_n 3, 1) := by decide +kernel
theorem dX3_tick_168 : decode cX3_tick 168 = .ok (.iconst 1, 1) := by decide +kernel
theorem dX3_tick_169 : decode cX3_tick 169 = .ok (.iload 4, 2) := by decide +kernel
theorem dX3_tick_171 : decode cX3_tick 171 = .ok (.ishl, 1) := by decide +kernel
theorem dX3_tick_172 : decode cX3_tick 172 = .ok (.ior, 1) := by decide +kernel
theorem dX3_tick_173 : decode cX3_tick 173 = .ok (.istore_n 3, 1) := by decide +kernel
theorem dX3_tick_174 : decode cX3_tick 174 = .ok (.aload_n 0, 1) := by decide +kernel
theorem dX3_tick_175 : decode cX3_tick 175 = .ok (.iload_n 1, 1) := by decide +kernel
theorem dX3_tick_176 : decode cX3_tick 176 = .ok (.iload 4, 2) := by decide +kernel
theorem dX3_tick_178 : decode cX3_tick 178 = .ok (.invokevirtual 75, 3) := by decide +kernel
theorem dX3_tick_181 : decode cX3_tick 181 = .ok (.iinc 4 1, 3) := by decide +kernel
theorem dX3_tick_184 : decode cX3_tick 184 = .ok (.goto (-43), 3) := by decide +kernel
theorem dX3_tick_187 : decode cX3_tick 187 = .ok (.aload_n 0, 1) := by decide +kernel
theorem dX3_tick_188 : decode cX3_tick 188 = .ok (.getfield 7, 3) := by decide +kernel
theorem dX3_tick_191 : decode cX3_tick 191 = .ok (.iload_n 1, 1) := by decide +kernel
theorem dX3_tick_192 : decode cX3_tick 192 = .ok (.iconst 3, 1) := by decide +kernel
theorem dX3_tick_193 : decode cX3_tick 193 = .ok (.iadd, 1) := by decide +kernel
theorem dX3_tick_194 : decode cX3_tick 194 = .ok (.dup2, 1) := by decide +kernel
theorem dX3_tick_195 : decode cX3_tick 195 = .ok (.iaload, 1) := by decide +kernel
theorem dX3_tick_196 : decode cX3_tick 196 = .ok (.iconst 1, 1) := by decide +kernel
theorem dX3_tick_197 : decode cX3_tick 197 = .ok (.iadd, 1) := by decide +kernel
theorem dX3_tick_198 : decode cX3_tick 198 = .ok (.iastore, 1) := by decide +kernel
theorem dX3_tick_199 : decode cX3_tick 199 = .ok (.iload_n 3, 1) := by decide +kernel
theorem dX3_tick_200 : decode cX3_tick 200 = .ok (.ireturn, 1) := by decide +kernel
theorem dX3_ones_0 : decode cX3_ones 0 = .ok (.iconst 0, 1) := by decide +kernel
theorem dX3_ones_1 : decode cX3_ones 1 = .ok (.istore_n 1, 1) := by decide +kernel
theorem dX3_ones_2 : decode cX3_ones 2 = .ok (.iconst 0, 1) := by decide +kernel
theorem dX3_ones_3 : decode cX3_ones 3 = .ok (.istore_n 2, 1) := by decide +kernel
theorem dX3_ones_4 : decode cX3_ones 4 = .ok (.iload_n 2, 1) := by decide +kernel
theorem dX3_ones_5 : decode cX3_ones 5 = .ok (.bipush 14, 2) := by decide +kernel
theorem dX3_ones_7 : decode cX3_ones 7 = .ok (.if_icmp .ge 17, 3) := by decide +kernel
theorem dX3_ones_10 : decode cX3_ones 10 = .ok (.iload_n 1, 1) := by decide +kernel
theorem dX3_ones_11 : decode cX3_ones 11 = .ok (.iload_n 0, 1) := by decide +kernel
theorem dX3_ones_12 : decode cX3_ones 12 = .ok (.iload_n 2, 1) := by decide +kernel
theorem dX3_ones_13 : decode cX3_ones 13 = .ok (.ishr, 1) := by decide +kernel
theorem dX3_ones_14 : decode cX3_ones 14 = .ok (.iconst 1, 1) := by decide +kernel
theorem dX3_ones_15 : decode cX3_ones 15 = .ok (.iand, 1) := by decide +kernel
theorem dX3_ones_16 : decode cX3_ones 16 = .ok (.iadd, 1) := by decide +kernel
theorem dX3_ones_17 : decode cX3_ones 17 = .ok (.istore_n 1, 1) := by decide +kernel
theorem dX3_ones_18 : decode cX3_ones 18 = .ok (.iinc 2 1, 3) := by decide +kernel
theorem dX3_ones_21 : decode cX3_ones 21 = .ok (.goto (-17), 3) := by decide +kernel
theorem dX3_ones_24 : decode cX3_ones 24 = .ok (.iload_n 1, 1) := by decide +kernel
theorem dX3_ones_25 : decode cX3_ones 25 = .ok (.ireturn, 1) := by decide +kernel
theorem dX3_ticks_0 : decode cX3_ticks 0 = .ok (.iconst 0, 1) := by decide +kernel
theorem dX3_ticks_1 : decode cX3_ticks 1 = .ok (.istore_n 3, 1) := by decide +kernel
theorem dX3_ticks_2 : decode cX3_ticks 2 = .ok (.iconst 0, 1) := by decide +kernel
theorem dX3_ticks_3 : decode cX3_ticks 3 = .ok (.istore 4, 2) := by decide +kernel
theorem dX3_ticks_5 : decode cX3_ticks 5 = .ok (.iload 4, 2) := by decide +kernel
theorem dX3_ticks_7 : decode cX3_ticks 7 = .ok (.iload_n 2, 1) := by decide +kernel
theorem dX3_ticks_8 : decode cX3_ticks 8 = .ok (.if_icmp .ge 20, 3) := by decide +kernel
theorem dX3_ticks_11 : decode cX3_ticks 11 = .ok (.iload_n 3, 1) := by decide +kernel
theorem dX3_ticks_12 : decode cX3_ticks 12 = .ok (.aload_n 0, 1) := by decide +kernel
theorem dX3_ticks_13 : decode cX3_ticks 13 = .ok (.iload_n 1, 1) := by decide +kernel
theorem dX3_ticks_14 : decode cX3_ticks 14 = .ok (.invokevirtual 78, 3) := by decide +kernel
theorem dX3_ticks_17 : decode cX3_ticks 17 = .ok (.invokestatic 82, 3) := by decide +kernel
theorem dX3_ticks_20 : decode cX3_ticks 20 = .ok (.iadd, 1) := by decide +kernel
theorem dX3_ticks_21 : decode cX3_ticks 21 = .ok (.istore_n 3, 1) := by decide +kernel
theorem dX3_ticks_22 : decode cX3_ticks 22 = .ok (.iinc 4 1, 3) := by decide +kernel
theorem dX3_ticks_25 : decode cX3_ticks 25 = .ok (.goto (-20), 3) := by decide +kernel
theorem dX3_ticks_28 : decode cX3_ticks 28 = .ok (.iload_n 3, 1) := by decide +kernel
theorem dX3_ticks_29 : decode cX3_ticks 29 = .ok (.ireturn, 1) := by decide +kernel
theorem dX3_isBoard_0 : decode cX3_isBoard 0 = .ok (.iload_n 1, 1) := by decide +kernel
theorem dX3_isBoard_1 : decode cX3_isBoard 1 = .ok (.i2l, 1) := by decide +kernel
theorem dX3_isBoard_2 : decode cX3_isBoard 2 = .ok (.lconst 0, 1) := by decide +kernel
theorem dX3_isBoard_3 : decode cX3_isBoard 3 = .ok (.aload_n 0, 1) := by decide +kernel
theorem dX3_isBoard_4 : decode cX3_isBoard 4 = .ok (.getfield 7, 3) := by decide +kernel
theorem dX3_isBoard_7 : decode cX3_isBoard 7 = .ok (.iconst 4, 1) := by decide +kernel
theorem dX3_isBoard_8 : decode cX3_isBoard 8 = .ok (.iaload, 1) := by decide +kernel
theorem dX3_isBoard_9 : decode cX3_isBoard 9 = .ok (.iconst 1, 1) := by decide +kernel
theorem dX3_isBoard_10 : decode cX3_isBoard 10 = .ok (.isub, 1) := by decide +kernel
theorem dX3_isBoard_11 : decode cX3_isBoard 11 = .ok (.i2l, 1) := by decide +kernel
theorem dX3_isBoard_12 : decode cX3_isBoard 12 = .ok (.invokestatic 85, 3) := by decide +kernel
theorem dX3_isBoard_15 : decode cX3_isBoard 15 = .ok (.ireturn, 1) := by decide +kernel
theorem dX3_isLoad_0 : decode cX3_isLoad 0 = .ok (.iload_n 1, 1) := by decide +kernel
theorem dX3_isLoad_1 : decode cX3_isLoad 1 = .ok (.i2l, 1) := by decide +kernel
theorem dX3_isLoad_2 : decode cX3_isLoad 2 = .ok (.lconst 0, 1) := by decide +kernel
theorem dX3_isLoad_3 : decode cX3_isLoad 3 = .ok (.aload_n 0, 1) := by decide +kernel
theorem dX3_isLoad_4 : decode cX3_isLoad 4 = .ok (.getfield 7, 3) := by decide +kernel
theorem dX3_isLoad_7 : decode cX3_isLoad 7 = .ok (.iconst 5, 1) := by decide +kernel
theorem dX3_isLoad_8 : decode cX3_isLoad 8 = .ok (.iaload, 1) := by decide +kernel
theorem dX3_isLoad_9 : decode cX3_isLoad 9 = .ok (.iconst 1, 1) := by decide +kernel
theorem dX3_isLoad_10 : decode cX3_isLoad 10 = .ok (.isub, 1) := by decide +kernel
theorem dX3_isLoad_11 : decode cX3_isLoad 11 = .ok (.i2l, 1) := by decide +kernel
theorem dX3_isLoad_12 : decode cX3_isLoad 12 = .ok (.invokestatic 85, 3) := by decide +kernel
theorem dX3_isLoad_15 : decode cX3_isLoad 15 = .ok (.ireturn, 1) := by decide +kernel
theorem dX3_isFuse_0 : decode cX3_isFuse 0 = .ok (.iload_n 0, 1) := by decide +kernel
theorem dX3_isFuse_1 : decode cX3_isFuse 1 = .ok (.i2l, 1) := by decide +kernel
theorem dX3_isFuse_2 : decode cX3_isFuse 2 = .ok (.lconst 1, 1) := by decide +kernel
theorem dX3_isFuse_3 : decode cX3_isFuse 3 = .ok (.ldc2_w 89, 3) := by decide +kernel
theorem dX3_isFuse_6 : decode cX3_isFuse 6 = .ok (.invokestatic 85, 3) := by decide +kernel
theorem dX3_isFuse_9 : decode cX3_isFuse 9 = .ok (.ifCond .eq 19, 3) := by decide +kernel
theorem dX3_isFuse_12 : decode cX3_isFuse 12 = .ok (.iload_n 1, 1) := by decide +kernel
theorem dX3_isFuse_13 : decode cX3_isFuse 13 = .ok (.i2l, 1) := by decide +kernel
theorem dX3_isFuse_14 : decode cX3_isFuse 14 = .ok (.lconst 0, 1) := by decide +kernel
theorem dX3_isFuse_15 : decode cX3_isFuse 15 = .ok (.ldc2_w 91, 3) := by decide +kernel
theorem dX3_isFuse_18 : decode cX3_isFuse 18 = .ok (.invokestatic 85, 3) := by decide +kernel
theorem dX3_isFuse_21 : decode cX3_isFuse 21 = .ok (.ifCond .eq 7, 3) := by decide +kernel
theorem dX3_isFuse_24 : decode cX3_isFuse 24 = .ok (.iconst 1, 1) := by decide +kernel
theorem dX3_isFuse_25 : decode cX3_isFuse 25 = .ok (.goto 4, 3) := by decide +kernel
theorem dX3_isFuse_28 : decode cX3_isFuse 28 = .ok (.iconst 0, 1) := by decide +kernel
theorem dX3_isFuse_29 : decode cX3_isFuse 29 = .ok (.ireturn, 1) := by decide +kernel
theorem dX3_boardError_0 : decode cX3_boardError 0 = .ok (.aload_n 0, 1) := by decide +kernel
theorem dX3_boardError_1 : decode cX3_boardError 1 = .ok (.getfield 7, 3) := by decide +kernel
theorem dX3_boardError_4 : decode cX3_boardError 4 = .ok (.iconst 4, 1) := by decide +kernel
theorem dX3_boardError_5 : decode cX3_boardError 5 = .ok (.iaload, 1) := by decide +kernel
theorem dX3_boardError_6 : decode cX3_boardError 6 = .ok (.ifCond .le 13, 3) := by decide +kernel
theorem dX3_boardError_9 : decode cX3_boardError 9 = .ok (.aload_n 0, 1) := by decide +kernel
theorem dX3_boardError_10 : decode cX3_boardError 10 = .ok (.iload_n 1, 1) := by decide +kernel
theorem dX3_boardError_11 : decode cX3_boardError 11 = .ok (.invokevirtual 93, 3) := by decide +kernel
theorem dX3_boardError_14 : decode cX3_boardError 14 = .ok (.ifCond .ne 5, 3) := by decide +kernel
theorem dX3_boardError_17 : decode cX3_boardError 17 = .ok (.iconst (-1), 1) := by decide +kernel
theorem dX3_boardError_18 : decode cX3_boardError 18 = .ok (.ireturn, 1) := by decide +kernel
theorem dX3_boardError_19 : decode cX3_boardError 19 = .ok (.iload_n 2, 1) := by decide +kernel
theorem dX3_boardError_20 : decode cX3_boardError 20 = .ok (.iload_n 3, 1) := by decide +kernel
theorem dX3_boardError_21 : decode cX3_boardError 21 = .ok (.invokestatic 97, 3) := by decide +kernel
theorem dX3_boardError_24 : decode cX3_boardError 24 = .ok (.ifCond .ne 8, 3) := by decide +kernel
theorem dX3_boardError_27 : decode cX3_boardError 27 = .ok (.bipush (-2), 2) := by decide +kernel
theorem dX3_boardError_29 : decode cX3_boardError 29 = .ok (.goto 20, 3) := by decide +kernel
theorem dX3_boardError_32 : decode cX3_boardError 32 = .ok (.aload_n 0, 1) := by decide +kernel
theorem dX3_boardError_33 : decode cX3_boardError 33 = .ok (.getfield 7, 3) := by decide +kernel
theorem dX3_boardError_36 : decode cX3_boardError 36 = .ok (.iconst 4, 1) := by decide +kernel
theorem dX3_boardError_37 : decode cX3_boardError 37 = .ok (.iaload, 1) := by decide +kernel
theorem dX3_boardError_38 : decode cX3_boardError 38 = .ok (.bipush 10, 2) := by decide +kernel
theorem dX3_boardError_40 : decode cX3_boardError 40 = .ok (.if_icmp .ne 8, 3) := by decide +kernel
theorem dX3_boardError_43 : decode cX3_boardError 43 = .ok (.bipush (-4), 2) := by decide +kernel
theorem dX3_boardError_45 : decode cX3_boardError 45 = .ok (.goto 4, 3) := by decide +kernel
theorem dX3_boardError_48 : decode cX3_boardError 48 = .ok (.iconst 0, 1) := by decide +kernel
theorem dX3_boardError_49 : decode cX3_boardError 49 = .ok (.ireturn, 1) := by decide +kernel
theorem dX3_loadError_0 : decode cX3_loadError 0 = .ok (.aload_n 0, 1) := by decide +kernel
theorem dX3_loadError_1 : decode cX3_loadError 1 = .ok (.iload_n 1, 1) := by decide +kernel
theorem dX3_loadError_2 : decode cX3_loadError 2 = .ok (.invokevirtual 93, 3) := by decide +kernel
theorem dX3_loadError_5 : decode cX3_loadError 5 = .ok (.ifCond .ne 7, 3) := by decide +kernel
theorem dX3_loadError_8 : decode cX3_loadError 8 = .ok (.iconst (-1), 1) := by decide +kernel
theorem dX3_loadError_9 : decode cX3_loadError 9 = .ok (.goto 37, 3) := by decide +kernel
theorem dX3_loadError_12 : decode cX3_loadError 12 = .ok (.iload_n 2, 1) := by decide +kernel
theorem dX3_loadError_13 : decode cX3_loadError 13 = .ok (.i2l, 1) := by decide +kernel
theorem dX3_loadError_14 : decode cX3_loadError 14 = .ok (.lconst 1, 1) := by decide +kernel
theorem dX3_loadError_15 : decode cX3_loadError 15 = .ok (.ldc2_w 100, 3) := by decide +kernel
theorem dX3_loadError_18 : decode cX3_loadError 18 = .ok (.invokestatic 85, 3) := by decide +kernel
theorem dX3_loadError_21 : decode cX3_loadError 21 = .ok (.ifCond .ne 8, 3) := by decide +kernel
theorem dX3_loadError_24 : decode cX3_loadError 24 = .ok (.bipush (-2), 2) := by decide +kernel
theorem dX3_loadError_26 : decode cX3_loadError 26 = .ok (.goto 20, 3) := by decide +kernel
theorem dX3_loadError_29 : decode cX3_loadError 29 = .ok (.aload_n 0, 1) := by decide +kernel
theorem dX3_loadError_30 : decode cX3_loadError 30 = .ok (.getfield 7, 3) := by decide +kernel
theorem dX3_loadError_33 : decode cX3_loadError 33 = .ok (.iconst 5, 1) := by decide +kernel
theorem dX3_loadError_34 : decode cX3_loadError 34 = .ok (.iaload, 1) := by decide +kernel
theorem dX3_loadError_35 : decode cX3_loadError 35 = .ok (.bipush 14, 2) := by decide +kernel
theorem dX3_loadError_37 : decode cX3_loadError 37 = .ok (.if_icmp .ne 8, 3) := by decide +kernel
theorem dX3_loadError_40 : decode cX3_loadError 40 = .ok (.bipush (-4), 2) := by decide +kernel
theorem dX3_loadError_42 : decode cX3_loadError 42 = .ok (.goto 4, 3) := by decide +kernel
theorem dX3_loadError_45 : decode cX3_loadError 45 = .ok (.iconst 0, 1) := by decide +kernel
theorem dX3_loadError_46 : decode cX3_loadError 46 = .ok (.ireturn, 1) := by decide +kernel
theorem dX3_turnError_0 : decode cX3_turnError 0 = .ok (.aload_n 0, 1) := by decide +kernel
theorem dX3_turnError_1 : decode cX3_turnError 1 = .ok (.iload_n 1, 1) := by decide +kernel
theorem dX3_turnError_2 : decode cX3_turnError 2 = .ok (.invokevirtual 102, 3) := by decide +kernel
theorem dX3_turnError_5 : decode cX3_turnError 5 = .ok (.ifCond .eq 7, 3) := by decide +kernel
theorem dX3_turnError_8 : decode cX3_turnError 8 = .ok (.iconst 0, 1) := by decide +kernel
theorem dX3_turnError_9 : decode cX3_turnError 9 = .ok (.goto 4, 3) := by decide +kernel
theorem dX3_turnError_12 : decode cX3_turnError 12 = .ok (.iconst (-1), 1) := by decide +kernel
theorem dX3_turnError_13 : decode cX3_turnError 13 = .ok (.ireturn, 1) := by decide +kernel
theorem dX3_fuseError_0 : decode cX3_fuseError 0 = .ok (.aload_n 0, 1) := by decide +kernel
theorem dX3_fuseError_1 : decode cX3_fuseError 1 = .ok (.iload_n 1, 1) := by decide +kernel
theorem dX3_fuseError_2 : decode cX3_fuseError 2 = .ok (.invokevirtual 93, 3) := by decide +kernel
theorem dX3_fuseError_5 : decode cX3_fuseError 5 = .ok (.ifCond .ne 5, 3) := by decide +kernel
theorem dX3_fuseError_8 : decode cX3_fuseError 8 = .ok (.iconst (-1), 1) := by decide +kernel
theorem dX3_fuseError_9 : decode cX3_fuseError 9 = .ok (.ireturn, 1) := by decide +kernel
theorem dX3_fuseError_10 : decode cX3_fuseError 10 = .ok (.iload_n 2, 1) := by decide +kernel
theorem dX3_fuseError_11 : decode cX3_fuseError 11 = .ok (.iload_n 3, 1) := by decide +kernel
theorem dX3_fuseError_12 : decode cX3_fuseError 12 = .ok (.invokestatic 97, 3) := by decide +kernel
theorem dX3_fuseError_15 : decode cX3_fuseError 15 = .ok (.ifCond .ne 8, 3) := by decide +kernel
theorem dX3_fuseError_18 : decode cX3_fuseError 18 = .ok (.bipush (-2), 2) := by decide +kernel
theorem dX3_fuseError_20 : decode cX3_fuseError 20 = .ok (.goto 25, 3) := by decide +kernel
theorem dX3_fuseError_23 : decode cX3_fuseError 23 = .ok (.aload_n 0, 1) := by decide +kernel
theorem dX3_fuseError_24 : decode cX3_fuseError 24 = .ok (.getfield 7, 3) := by decide +kernel
theorem dX3_fuseError_27 : decode cX3_fuseError 27 = .ok (.iconst 0, 1) := by decide +kernel
theorem dX3_fuseError_28 : decode cX3_fuseError 28 = .ok (.iload_n 1, 1) := by decide +kernel
theorem dX3_fuseError_29 : decode cX3_fuseError 29 = .ok (.invokestatic 37, 3) := by decide +kernel
theorem dX3_fuseError_32 : decode cX3_fuseError 32 = .ok (.iconst 3, 1) := by decide +kernel
theorem dX3_fuseError_33 : decode cX3_fuseError 33 = .ok (.iadd, 1) := by decide +kernel
theorem dX3_fuseError_34 : decode cX3_fuseError 34 = .ok (.iaload, 1) := by decide +kernel
theorem dX3_fuseError_35 : decode cX3_fuseError 35 = .ok (.iconst 1, 1) := by decide +kernel
theorem dX3_fuseError_36 : decode cX3_fuseError 36 = .ok (.if_icmp .ne 8, 3) := by decide +kernel
theorem dX3_fuseError_39 : decode cX3_fuseError 39 = .ok (.bipush (-5), 2) := by decide +kernel
theorem dX3_fuseError_41 : decode cX3_fuseError 41 = .ok (.goto 4, 3) := by decide +kernel
theorem dX3_fuseError_44 : decode cX3_fuseError 44 = .ok (.iconst 0, 1) := by decide +kernel
theorem dX3_fuseError_45 : decode cX3_fuseError 45 = .ok (.ireturn, 1) := by decide +kernel
theorem dX3_passError_0 : decode cX3_passError 0 = .ok (.iload_n 1, 1) := by decide +kernel
theorem dX3_passError_1 : decode cX3_passError 1 = .ok (.i2l, 1) := by decide +kernel
theorem dX3_passError_2 : decode cX3_passError 2 = .ok (.lconst 1, 1) := by decide +kernel
theorem dX3_passError_3 : decode cX3_passError 3 = .ok (.ldc2_w 105, 3) := by decide +kernel
theorem dX3_passError_6 : decode cX3_passError 6 = .ok (.invokestatic 85, 3) := by decide +kernel
theorem dX3_passError_9 : decode cX3_passError 9 = .ok (.ifCond .ne 8, 3) := by decide +kernel
theorem dX3_passError_12 : decode cX3_passError 12 = .ok (.bipush (-2), 2) := by decide +kernel
theorem dX3_passError_14 : decode cX3_passError 14 = .ok (.goto 23, 3) := by decide +kernel
theorem dX3_passError_17 : decode cX3_passError 17 = .ok (.aload_n 0, 1) := by decide +kernel
theorem dX3_passError_18 : decode cX3_passError 18 = .ok (.getfield 7, 3) := by decide +kernel
theorem dX3_passError_21 : decode cX3_passError 21 = .ok (.iconst 3, 1) := by decide +kernel
theorem dX3_passError_22 : decode cX3_passError 22 = .ok (.iaload, 1) := by decide +kernel
theorem dX3_passError_23 : decode cX3_passError 23 = .ok (.iload_n 1, 1) := by decide +kernel
theorem dX3_passError_24 : decode cX3_passError 24 = .ok (.iadd, 1) := by decide +kernel
theorem dX3_passError_25 : decode cX3_passError 25 = .ok (.sipush 9999, 3) := by decide +kernel
theorem dX3_passError_28 : decode cX3_passError 28 = .ok (.if_icmp .le 8, 3) := by decide +kernel
theorem dX3_passError_31 : decode cX3_passError 31 = .ok (.bipush (-5), 2) := by decide +kernel
theorem dX3_passError_33 : decode cX3_passError 33 = .ok (.goto 4, 3) := by decide +kernel
theorem dX3_passError_36 : decode cX3_passError 36 = .ok (.iconst 0, 1) := by decide +kernel
theorem dX3_passError_37 : decode cX3_passError 37 = .ok (.ireturn, 1) := by decide +kernel
theorem dX3_puts_0 : decode cX3_puts 0 = .ok (.iconst 0, 1) := by decide +kernel
theorem dX3_puts_1 : decode cX3_puts 1 = .ok (.iload_n 1, 1) := by decide +kernel
theorem dX3_puts_2 : decode cX3_puts 2 = .ok (.invokestatic 37, 3) := by decide +kernel
theorem dX3_puts_5 : decode cX3_puts 5 = .ok (.istore 4, 2) := by decide +kernel
theorem dX3_puts_7 : decode cX3_puts 7 = .ok (.iconst 1, 1) := by decide +kernel
theorem dX3_puts_8 : decode cX3_puts 8 = .ok (.istore 5, 2) := by decide +kernel
theorem dX3_puts_10 : decode cX3_puts 10 = .ok (.iload 5, 2) := by decide +kernel
theorem dX3_puts_12 : decode cX3_puts 12 = .ok (.bipush 8, 2) := by decide +kernel
theorem dX3_puts_14 : decode cX3_puts 14 = .ok (.if_icmp .ge 40, 3) := by decide +kernel
theorem dX3_puts_17 : decode cX3_puts 17 = .ok (.aload_n 0, 1) := by decide +kernel
theorem dX3_puts_18 : decode cX3_puts 18 = .ok (.getfield 7, 3) := by decide +kernel
theorem dX3_puts_21 : decode cX3_puts 21 = .ok (.iload 4, 2) := by decide +kernel
theorem dX3_puts_23 : decode cX3_puts 23 = .ok (.iload 5, 2) := by decide +kernel
theorem dX3_puts_25 : decode cX3_puts 25 = .ok (.iadd, 1) := by decide +kernel
theorem dX3_puts_26 : decode cX3_puts 26 = .ok (.iload 5, 2) := by decide +kernel
theorem dX3_puts_28 : decode cX3_puts 28 = .ok (.iconst 1, 1) := by decide +kernel
theorem dX3_puts_29 : decode cX3_puts 29 = .ok (.if_icmp .ne 7, 3) := by decide +kernel
theorem dX3_puts_32 : decode cX3_puts 32 = .ok (.iload_n 2, 1) := by decide +kernel
theorem dX3_puts_33 : decode cX3_puts 33 = .ok (.goto 14, 3) := by decide +kernel
theorem dX3_puts_36 : decode cX3_puts 36 = .ok (.iload 5, 2) := by decide +kernel
theorem dX3_puts_38 : decode cX3_puts 38 = .ok (.iconst 2, 1) := by decide +kernel
theorem dX3_puts_39 : decode cX3_puts 39 = .ok (.if_icmp .ne 7, 3) := by decide +kernel
theorem dX3_puts_42 : decode cX3_puts 42 = .ok (.iload_n 3, 1) := by decide +kernel
theorem dX3_puts_43 : decode cX3_puts 43 = .ok (.goto 4, 3) := by decide +kernel
theorem dX3_puts_46 : decode cX3_puts 46 = .ok (.iconst 0, 1) := by decide +kernel
theorem dX3_puts_47 : decode cX3_puts 47 = .ok (.iastore, 1) := by decide +kernel
theorem dX3_puts_48 : decode cX3_puts 48 = .ok (.iinc 5 1, 3) := by decide +kernel
theorem dX3_puts_51 : decode cX3_puts 51 = .ok (.goto (-41), 3) := by decide +kernel
theorem dX3_puts_54 : decode cX3_puts 54 = .ok (.return_, 1) := by decide +kernel
theorem dX3_builds_0 : decode cX3_builds 0 = .ok (.aload_n 0, 1) := by decide +kernel
theorem dX3_builds_1 : decode cX3_builds 1 = .ok (.getfield 7, 3) := by decide +kernel
theorem dX3_builds_4 : decode cX3_builds 4 = .ok (.iconst 4, 1) := by decide +kernel
theorem dX3_builds_5 : decode cX3_builds 5 = .ok (.iaload, 1) := by decide +kernel
theorem dX3_builds_6 : decode cX3_builds 6 = .ok (.istore 4, 2) := by decide +kernel
theorem dX3_builds_8 : decode cX3_builds 8 = .ok (.aload_n 0, 1) := by decide +kernel
theorem dX3_builds_9 : decode cX3_builds 9 = .ok (.getfield 7, 3) := by decide +kernel
theorem dX3_builds_12 : decode cX3_builds 12 = .ok (.iconst 0, 1) := by decide +kernel
theorem dX3_builds_13 : decode cX3_builds 13 = .ok (.iload 4, 2) := by decide +kernel
theorem dX3_builds_15 : decode cX3_builds 15 = .ok (.invokestatic 37, 3) := by decide +kernel
theorem dX3_builds_18 : decode cX3_builds 18 = .ok (.iload 4, 2) := by decide +kernel
theorem dX3_builds_20 : decode cX3_builds 20 = .ok (.ifCond .ne 8, 3) := by decide +kernel
theorem dX3_builds_23 : decode cX3_builds 23 = .ok (.bipush (-6), 2) := by decide +kernel
theorem dX3_builds_25 : decode cX3_builds 25 = .ok (.goto 4, 3) := by decide +kernel
theorem dX3_builds_28 : decode cX3_builds 28 = .ok (.iload_n 1, 1) := by decide +kernel
theorem dX3_builds_29 : decode cX3_builds 29 = .ok (.iastore, 1) := by decide +kernel
theorem dX3_builds_30 : decode cX3_builds 30 = .ok (.aload_n 0, 1) := by decide +kernel
theorem dX3_builds_31 : decode cX3_builds 31 = .ok (.getfield 7, 3) := by decide +kernel
theorem dX3_builds_34 : decode cX3_builds 34 = .ok (.iconst 0, 1) := by decide +kernel
theorem dX3_builds_35 : decode cX3_builds 35 = .ok (.iload 4, 2) := by decide +kernel
theorem dX3_builds_37 : decode cX3_builds 37 = .ok (.invokestatic 37, 3) := by decide +kernel
theorem dX3_builds_40 : decode cX3_builds 40 = .ok (.bipush 8, 2) := by decide +kernel
theorem dX3_builds_42 : decode cX3_builds 42 = .ok (.iadd, 1) := by decide +kernel
theorem dX3_builds_43 : decode cX3_builds 43 = .ok (.iconst 0, 1) := by decide +kernel
theorem dX3_builds_44 : decode cX3_builds 44 = .ok (.iastore, 1) := by decide +kernel
theorem dX3_builds_45 : decode cX3_builds 45 = .ok (.aload_n 0, 1) := by decide +kernel
theorem dX3_builds_46 : decode cX3_builds 46 = .ok (.iload 4, 2) := by decide +kernel
theorem dX3_builds_48 : decode cX3_builds 48 = .ok (.iload_n 2, 1) := by decide +kernel
theorem dX3_builds_49 : decode cX3_builds 49 = .ok (.iload_n 3, 1) := by decide +kernel
theorem dX3_builds_50 : decode cX3_builds 50 = .ok (.invokevirtual 107, 3) := by decide +kernel
theorem dX3_builds_53 : decode cX3_builds 53 = .ok (.aload_n 0, 1) := by decide +kernel
theorem dX3_builds_54 : decode cX3_builds 54 = .ok (.getfield 7, 3) := by decide +kernel
theorem dX3_builds_57 : decode cX3_builds 57 = .ok (.iconst 4, 1) := by decide +kernel
theorem dX3_builds_58 : decode cX3_builds 58 = .ok (.dup2, 1) := by decide +kernel
theorem dX3_builds_59 : decode cX3_builds 59 = .ok (.iaload, 1) := by decide +kernel
theorem dX3_builds_60 : decode cX3_builds 60 = .ok (.iconst 1, 1) := by decide +kernel
theorem dX3_builds_61 : decode cX3_builds 61 = .ok (.iadd, 1) := by decide +kernel
theorem dX3_builds_62 : decode cX3_builds 62 = .ok (.iastore, 1) := by decide +kernel
theorem dX3_builds_63 : decode cX3_builds 63 = .ok (.iload 4, 2) := by decide +kernel
theorem dX3_builds_65 : decode cX3_builds 65 = .ok (.ireturn, 1) := by decide +kernel
theorem dX3_connects_0 : decode cX3_connects 0 = .ok (.aload_n 0, 1) := by decide +kernel
theorem dX3_connects_1 : decode cX3_connects 1 = .ok (.getfield 7, 3) := by decide +kernel
theorem dX3_connects_4 : decode cX3_connects 4 = .ok (.iconst 5, 1) := by decide +kernel
theorem dX3_connects_5 : decode cX3_connects 5 = .ok (.iaload, 1) := by decide +kernel
theorem dX3_connects_6 : decode cX3_connects 6 = .ok (.istore_n 3, 1) := by decide +kernel
theorem dX3_connects_7 : decode cX3_connects 7 = .ok (.aload_n 0, 1) := by decide +kernel
theorem dX3_connects_8 : decode cX3_connects 8 = .ok (.getfield 7, 3) := by decide +kernel
theorem dX3_connects_11 : decode cX3_connects 11 = .ok (.iconst 0, 1) := by decide +kernel
theorem dX3_connects_12 : decode cX3_connects 12 = .ok (.iload_n 3, 1) := by decide +kernel
theorem dX3_connects_13 : decode cX3_connects 13 = .ok (.invokestatic 41, 3) := by decide +kernel
theorem dX3_connects_16 : decode cX3_connects 16 = .ok (.iload_n 1, 1) := by decide +kernel
theorem dX3_connects_17 : decode cX3_connects 17 = .ok (.iastore, 1) := by decide +kernel
theorem dX3_connects_18 : decode cX3_connects 18 = .ok (.aload_n 0, 1) := by decide +kernel
theorem dX3_connects_19 : decode cX3_connects 19 = .ok (.getfield 7, 3) := by decide +kernel
theorem dX3_connects_22 : decode cX3_connects 22 = .ok (.iconst 0, 1) := by decide +kernel
theorem dX3_connects_23 : decode cX3_connects 23 = .ok (.iload_n 3, 1) := by decide +kernel
theorem dX3_connects_24 : decode cX3_connects 24 = .ok (.invokestatic 41, 3) := by decide +kernel
theorem dX3_connects_27 : decode cX3_connects 27 = .ok (.iconst 1, 1) := by decide +kernel
theorem dX3_connects_28 : decode cX3_connects 28 = .ok (.iadd, 1) := by decide +kernel
theorem dX3_connects_29 : decode cX3_connects 29 = .ok (.iload_n 2, 1) := by decide +kernel
theorem dX3_connects_30 : decode cX3_connects 30 = .ok (.iastore, 1) := by decide +kernel
theorem dX3_connects_31 : decode cX3_connects 31 = .ok (.aload_n 0, 1) := by decide +kernel
theorem dX3_connects_32 : decode cX3_connects 32 = .ok (.getfield 7, 3) := by decide +kernel
theorem dX3_connects_35 : decode cX3_connects 35 = .ok (.iconst 0, 1) := by decide +kernel
theorem dX3_connects_36 : decode cX3_connects 36 = .ok (.iload_n 3, 1) := by decide +kernel
theorem dX3_connects_37 : decode cX3_connects 37 = .ok (.invokestatic 41, 3) := by decide +kernel
theorem dX3_connects_40 : decode cX3_connects 40 = .ok (.iconst 2, 1) := by decide +kernel
theorem dX3_connects_41 : decode cX3_connects 41 = .ok (.iadd, 1) := by decide +kernel
theorem dX3_connects_42 : decode cX3_connects 42 = .ok (.iconst 0, 1) := by decide +kernel
theorem dX3_connects_43 : decode cX3_connects 43 = .ok (.iastore, 1) := by decide +kernel
theorem dX3_connects_44 : decode cX3_connects 44 = .ok (.aload_n 0, 1) := by decide +kernel
theorem dX3_connects_45 : decode cX3_connects 45 = .ok (.getfield 7, 3) := by decide +kernel
theorem dX3_connects_48 : decode cX3_connects 48 = .ok (.iconst 5, 1) := by decide +kernel
theorem dX3_connects_49 : decode cX3_connects 49 = .ok (.dup2, 1) := by decide +kernel
theorem dX3_connects_50 : decode cX3_connects 50 = .ok (.iaload, 1) := by decide +kernel
theorem dX3_connects_51 : decode cX3_connects 51 = .ok (.iconst 1, 1) := by decide +kernel
theorem dX3_connects_52 : decode cX3_connects 52 = .ok (.iadd, 1) := by decide +kernel
theorem dX3_connects_53 : decode cX3_connects 53 = .ok (.iastore, 1) := by decide +kernel
theorem dX3_connects_54 : decode cX3_connects 54 = .ok (.iload_n 3, 1) := by decide +kernel
theorem dX3_connects_55 : decode cX3_connects 55 = .ok (.ireturn, 1) := by decide +kernel
theorem dX3_turns_0 : decode cX3_turns 0 = .ok (.aload_n 0, 1) := by decide +kernel
theorem dX3_turns_1 : decode cX3_turns 1 = .ok (.getfield 7, 3) := by decide +kernel
theorem dX3_turns_4 : decode cX3_turns 4 = .ok (.iconst 0, 1) := by decide +kernel
theorem dX3_turns_5 : decode cX3_turns 5 = .ok (.iload_n 1, 1) := by decide +kernel
theorem dX3_turns_6 : decode cX3_turns 6 = .ok (.invokestatic 41, 3) := by decide +kernel
theorem dX3_turns_9 : decode cX3_turns 9 = .ok (.iconst 2, 1) := by decide +kernel
theorem dX3_turns_10 : decode cX3_turns 10 = .ok (.iadd, 1) := by decide +kernel
theorem dX3_turns_11 : decode cX3_turns 11 = .ok (.iconst 1, 1) := by decide +kernel
theorem dX3_turns_12 : decode cX3_turns 12 = .ok (.aload_n 0, 1) := by decide +kernel
theorem dX3_turns_13 : decode cX3_turns 13 = .ok (.getfield 7, 3) := by decide +kernel
theorem dX3_turns_16 : decode cX3_turns 16 = .ok (.iconst 0, 1) := by decide +kernel
theorem dX3_turns_17 : decode cX3_turns 17 = .ok (.iload_n 1, 1) := by decide +kernel
theorem dX3_turns_18 : decode cX3_turns 18 = .ok (.invokestatic 41, 3) := by decide +kernel
theorem dX3_turns_21 : decode cX3_turns 21 = .ok (.iconst 2, 1) := by decide +kernel
theorem dX3_turns_22 : decode cX3_turns 22 = .ok (.iadd, 1) := by decide +kernel
theorem dX3_turns_23 : decode cX3_turns 23 = .ok (.iaload, 1) := by decide +kernel
theorem dX3_turns_24 : decode cX3_turns 24 = .ok (.isub, 1) := by decide +kernel
theorem dX3_turns_25 : decode cX3_turns 25 = .ok (.iastore, 1) := by decide +kernel
theorem dX3_turns_26 : decode cX3_turns 26 = .ok (.aload_n 0, 1) := by decide +kernel
theorem dX3_turns_27 : decode cX3_turns 27 = .ok (.getfield 7, 3) := by decide +kernel
theorem dX3_turns_30 : decode cX3_turns 30 = .ok (.iconst 0, 1) := by decide +kernel
theorem dX3_turns_31 : decode cX3_turns 31 = .ok (.iload_n 1, 1) := by decide +kernel
theorem dX3_turns_32 : decode cX3_turns 32 = .ok (.invokestatic 41, 3) := by decide +kernel
theorem dX3_turns_35 : decode cX3_turns 35 = .ok (.iconst 2, 1) := by decide +kernel
theorem dX3_turns_36 : decode cX3_turns 36 = .ok (.iadd, 1) := by decide +kernel
theorem dX3_turns_37 : decode cX3_turns 37 = .ok (.iaload, 1) := by decide +kernel
theorem dX3_turns_38 : decode cX3_turns 38 = .ok (.ireturn, 1) := by decide +kernel
theorem dX3_fuses_0 : decode cX3_fuses 0 = .ok (.aload_n 0, 1) := by decide +kernel
theorem dX3_fuses_1 : decode cX3_fuses 1 = .ok (.getfield 7, 3) := by decide +kernel
theorem dX3_fuses_4 : decode cX3_fuses 4 = .ok (.iconst 0, 1) := by decide +kernel
theorem dX3_fuses_5 : decode cX3_fuses 5 = .ok (.iload_n 1, 1) := by decide +kernel
theorem dX3_fuses_6 : decode cX3_fuses 6 = .ok (.invokestatic 37, 3) := by decide +kernel
theorem dX3_fuses_9 : decode cX3_fuses 9 = .ok (.iconst 1, 1) := by decide +kernel
theorem dX3_fuses_10 : decode cX3_fuses 10 = .ok (.iadd, 1) := by decide +kernel
theorem dX3_fuses_11 : decode cX3_fuses 11 = .ok (.iaload, 1) := by decide +kernel
theorem dX3_fuses_12 : decode cX3_fuses 12 = .ok (.istore 4, 2) := by decide +kernel
theorem dX3_fuses_14 : decode cX3_fuses 14 = .ok (.aload_n 0, 1) := by decide +kernel
theorem dX3_fuses_15 : decode cX3_fuses 15 = .ok (.iload_n 1, 1) := by decide +kernel
theorem dX3_fuses_16 : decode cX3_fuses 16 = .ok (.iload_n 2, 1) := by decide +kernel
theorem dX3_fuses_17 : decode cX3_fuses 17 = .ok (.iload_n 3, 1) := by decide +kernel
theorem dX3_fuses_18 : decode cX3_fuses 18 = .ok (.invokevirtual 107, 3) := by decide +kernel
theorem dX3_fuses_21 : decode cX3_fuses 21 = .ok (.iload 4, 2) := by decide +kernel
theorem dX3_fuses_23 : decode cX3_fuses 23 = .ok (.ireturn, 1) := by decide +kernel
theorem dX3_isValue_0 : decode cX3_isValue 0 = .ok (.iload_n 0, 1) := by decide +kernel
theorem dX3_isValue_1 : decode cX3_isValue 1 = .ok (.tableswitch 57 0 2 #[27, 37, 47], 27) := by decide +kernel
theorem dX3_isValue_28 : decode cX3_isValue 28 = .ok (.iload_n 1, 1) := by decide +kernel
theorem dX3_isValue_29 : decode cX3_isValue 29 = .ok (.i2l, 1) := by decide +kernel
theorem dX3_isValue_30 : decode cX3_isValue 30 = .ok (.lconst 0, 1) := by decide +kernel
theorem dX3_isValue_31 : decode cX3_isValue 31 = .ok (.ldc2_w 111, 3) := by decide +kernel
theorem dX3_isValue_34 : decode cX3_isValue 34 = .ok (.invokestatic 85, 3) := by decide +kernel
theorem dX3_isValue_37 : decode cX3_isValue 37 = .ok (.ireturn, 1) := by decide +kernel
theorem dX3_isValue_38 : decode cX3_isValue 38 = .ok (.iload_n 1, 1) := by decide +kernel
theorem dX3_isValue_39 : decode cX3_isValue 39 = .ok (.i2l, 1) := by decide +kernel
theorem dX3_isValue_40 : decode cX3_isValue 40 = .ok (.lconst 1, 1) := by decide +kernel
theorem dX3_isValue_41 : decode cX3_isValue 41 = .ok (.ldc2_w 111, 3) := by decide +kernel
theorem dX3_isValue_44 : decode cX3_isValue 44 = .ok (.invokestatic 85, 3) := by decide +kernel
theorem dX3_isValue_47 : decode cX3_isValue 47 = .ok (.ireturn, 1) := by decide +kernel
theorem dX3_isValue_48 : decode cX3_isValue 48 = .ok (.iload_n 1, 1) := by decide +kernel
theorem dX3_isValue_49 : decode cX3_isValue 49 = .ok (.i2l, 1) := by decide +kernel
theorem dX3_isValue_50 : decode cX3_isValue 50 = .ok (.lconst 1, 1) := by decide +kernel
theorem dX3_isValue_51 : decode cX3_isValue 51 = .ok (.ldc2_w 113, 3) := by decide +kernel
theorem dX3_isValue_54 : decode cX3_isValue 54 = .ok (.invokestatic 85, 3) := by decide +kernel
theorem dX3_isValue_57 : decode cX3_isValue 57 = .ok (.ireturn, 1) := by decide +kernel
theorem dX3_isValue_58 : decode cX3_isValue 58 = .ok (.iconst 0, 1) := by decide +kernel
theorem dX3_isValue_59 : decode cX3_isValue 59 = .ok (.ireturn, 1) := by decide +kernel
theorem dX3_set_0 : decode cX3_set 0 = .ok (.iload_n 1, 1) := by decide +kernel
theorem dX3_set_1 : decode cX3_set 1 = .ok (.iload_n 2, 1) := by decide +kernel
theorem dX3_set_2 : decode cX3_set 2 = .ok (.invokestatic 115, 3) := by decide +kernel
theorem dX3_set_5 : decode cX3_set 5 = .ok (.ifCond .ne 6, 3) := by decide +kernel
theorem dX3_set_8 : decode cX3_set 8 = .ok (.bipush (-2), 2) := by decide +kernel
theorem dX3_set_10 : decode cX3_set 10 = .ok (.ireturn, 1) := by decide +kernel
theorem dX3_set_11 : decode cX3_set 11 = .ok (.aload_n 0, 1) := by decide +kernel
theorem dX3_set_12 : decode cX3_set 12 = .ok (.invokevirtual 118, 3) := by decide +kernel
theorem dX3_set_15 : decode cX3_set 15 = .ok (.aload_n 0, 1) := by decide +kernel
theorem dX3_set_16 : decode cX3_set 16 = .ok (.getfield 7, 3) := by decide +kernel
theorem dX3_set_19 : decode cX3_set 19 = .ok (.iload_n 1, 1) := by decide +kernel
theorem dX3_set_20 : decode cX3_set 20 = .ok (.iaload, 1) := by decide +kernel
theorem dX3_set_21 : decode cX3_set 21 = .ok (.istore_n 3, 1) := by decide +kernel
theorem dX3_set_22 : decode cX3_set 22 = .ok (.aload_n 0, 1) := by decide +kernel
theorem dX3_set_23 : decode cX3_set 23 = .ok (.getfield 7, 3) := by decide +kernel
theorem dX3_set_26 : decode cX3_set 26 = .ok (.iload_n 1, 1) := by decide +kernel
theorem dX3_set_27 : decode cX3_set 27 = .ok (.iload_n 2, 1) := by decide +kernel
theorem dX3_set_28 : decode cX3_set 28 = .ok (.iastore, 1) := by decide +kernel
theorem dX3_set_29 : decode cX3_set 29 = .ok (.iload_n 3, 1) := by decide +kernel
theorem dX3_set_30 : decode cX3_set 30 = .ok (.ireturn, 1) := by decide +kernel
theorem dX3_board_0 : decode cX3_board 0 = .ok (.aload_n 0, 1) := by decide +kernel
theorem dX3_board_1 : decode cX3_board 1 = .ok (.iload_n 1, 1) := by decide +kernel
theorem dX3_board_2 : decode cX3_board 2 = .ok (.iload_n 2, 1) := by decide +kernel
theorem dX3_board_3 : decode cX3_board 3 = .ok (.iload_n 3, 1) := by decide +kernel
theorem dX3_board_4 : decode cX3_board 4 = .ok (.invokevirtual 121, 3) := by decide +kernel
theorem dX3_board_7 : decode cX3_board 7 = .ok (.istore 4, 2) := by decide +kernel
theorem dX3_board_9 : decode cX3_board 9 = .ok (.iload 4, 2) := by decide +kernel
theorem dX3_board_11 : decode cX3_board 11 = .ok (.ifCond .eq 6, 3) := by decide +kernel
theorem dX3_board_14 : decode cX3_board 14 = .ok (.iload 4, 2) := by decide +kernel
theorem dX3_board_16 : decode cX3_board 16 = .ok (.ireturn, 1) := by decide +kernel
theorem dX3_board_17 : decode cX3_board 17 = .ok (.aload_n 0, 1) := by decide +kernel
theorem dX3_board_18 : decode cX3_board 18 = .ok (.invokevirtual 118, 3) := by decide +kernel
theorem dX3_board_21 : decode cX3_board 21 = .ok (.aload_n 0, 1) := by decide +kernel
theorem dX3_board_22 : decode cX3_board 22 = .ok (.iload_n 1, 1) := by decide +kernel
theorem dX3_board_23 : decode cX3_board 23 = .ok (.iload_n 2, 1) := by decide +kernel
theorem dX3_board_24 : decode cX3_board 24 = .ok (.iload_n 3, 1) := by decide +kernel
theorem dX3_board_25 : decode cX3_board 25 = .ok (.invokevirtual 125, 3) := by decide +kernel
theorem dX3_board_28 : decode cX3_board 28 = .ok (.ireturn, 1) := by decide +kernel
theorem dX3_load_0 : decode cX3_load 0 = .ok (.aload_n 0, 1) := by decide +kernel
theorem dX3_load_1 : decode cX3_load 1 = .ok (.iload_n 1, 1) := by decide +kernel
theorem dX3_load_2 : decode cX3_load 2 = .ok (.iload_n 2, 1) := by decide +kernel
theorem dX3_load_3 : decode cX3_load 3 = .ok (.invokevirtual 128, 3) := by decide +kernel
theorem dX3_load_6 : decode cX3_load 6 = .ok (.istore_n 3, 1) := by decide +kernel
theorem dX3_load_7 : decode cX3_load 7 = .ok (.iload_n 3, 1) := by decide +kernel
theorem dX3_load_8 : decode cX3_load 8 = .ok (.ifCond .eq 5, 3) := by decide +kernel
theorem dX3_load_11 : decode cX3_load 11 = .ok (.iload_n 3, 1) := by decide +kernel
theorem dX3_load_12 : decode cX3_load 12 = .ok (.ireturn, 1) := by decide +kernel
theorem dX3_load_13 : decode cX3_load 13 = .ok (.aload_n 0, 1) := by decide +kernel
theorem dX3_load_14 : decode cX3_load 14 = .ok (.invokevirtual 118, 3) := by decide +kernel
theorem dX3_load_17 : decode cX3_load 17 = .ok (.aload_n 0, 1) := by decide +kernel
theorem dX3_load_18 : decode cX3_load 18 = .ok (.iload_n 1, 1) := by decide +kernel
theorem dX3_load_19 : decode cX3_load 19 = .ok (.iload_n 2, 1) := by decide +kernel
theorem dX3_load_20 : decode cX3_load 20 = .ok (.invokevirtual 131, 3) := by decide +kernel
theorem dX3_load_23 : decode cX3_load 23 = .ok (.ireturn, 1) := by decide +kernel
theorem dX3_turn_0 : decode cX3_turn 0 = .ok (.aload_n 0, 1) := by decide +kernel
theorem dX3_turn_1 : decode cX3_turn 1 = .ok (.iload_n 1, 1) := by decide +kernel
theorem dX3_turn_2 : decode cX3_turn 2 = .ok (.invokevirtual 134, 3) := by decide +kernel
theorem dX3_turn_5 : decode cX3_turn 5 = .ok (.istore_n 2, 1) := by decide +kernel
theorem dX3_turn_6 : decode cX3_turn 6 = .ok (.iload_n 2, 1) := by decide +kernel
theorem dX3_turn_7 : decode cX3_turn 7 = .ok (.ifCond .eq 5, 3) := by decide +kernel
theorem dX3_turn_10 : decode cX3_turn 10 = .ok (.iload_n 2, 1) := by decide +kernel
theorem dX3_turn_11 : decode cX3_turn 11 = .ok (.ireturn, 1) := by decide +kernel
theorem dX3_turn_12 : decode cX3_turn 12 = .ok (.aload_n 0, 1) := by decide +kernel
theorem dX3_turn_13 : decode cX3_turn 13 = .ok (.invokevirtual 118, 3) := by decide +kernel
theorem dX3_turn_16 : decode cX3_turn 16 = .ok (.aload_n 0, 1) := by decide +kernel
theorem dX3_turn_17 : decode cX3_turn 17 = .ok (.iload_n 1, 1) := by decide +kernel
theorem dX3_turn_18 : decode cX3_turn 18 = .ok (.invokevirtual 137, 3) := by decide +kernel
theorem dX3_turn_21 : decode cX3_turn 21 = .ok (.ireturn, 1) := by decide +kernel
theorem dX3_fuse_0 : decode cX3_fuse 0 = .ok (.aload_n 0, 1) := by decide +kernel
theorem dX3_fuse_1 : decode cX3_fuse 1 = .ok (.iload_n 1, 1) := by decide +kernel
theorem dX3_fuse_2 : decode cX3_fuse 2 = .ok (.iload_n 2, 1) := by decide +kernel
theorem dX3_fuse_3 : decode cX3_fuse 3 = .ok (.iload_n 3, 1) := by decide +kernel
theorem dX3_fuse_4 : decode cX3_fuse 4 = .ok (.invokevirtual 140, 3) := by decide +kernel
theorem dX3_fuse_7 : decode cX3_fuse 7 = .ok (.istore 4, 2) := by decide +kernel
theorem dX3_fuse_9 : decode cX3_fuse 9 = .ok (.iload 4, 2) := by decide +kernel
theorem dX3_fuse_11 : decode cX3_fuse 11 = .ok (.ifCond .eq 6, 3) := by decide +kernel
theorem dX3_fuse_14 : decode cX3_fuse 14 = .ok (.iload 4, 2) := by decide +kernel
theorem dX3_fuse_16 : decode cX3_fuse 16 = .ok (.ireturn, 1) := by decide +kernel
theorem dX3_fuse_17 : decode cX3_fuse 17 = .ok (.aload_n 0, 1) := by decide +kernel
theorem dX3_fuse_18 : decode cX3_fuse 18 = .ok (.invokevirtual 118, 3) := by decide +kernel
theorem dX3_fuse_21 : decode cX3_fuse 21 = .ok (.aload_n 0, 1) := by decide +kernel
theorem dX3_fuse_22 : decode cX3_fuse 22 = .ok (.iload_n 1, 1) := by decide +kernel
theorem dX3_fuse_23 : decode cX3_fuse 23 = .ok (.iload_n 2, 1) := by decide +kernel
theorem dX3_fuse_24 : decode cX3_fuse 24 = .ok (.iload_n 3, 1) := by decide +kernel
theorem dX3_fuse_25 : decode cX3_fuse 25 = .ok (.invokevirtual 143, 3) := by decide +kernel
theorem dX3_fuse_28 : decode cX3_fuse 28 = .ok (.ireturn, 1) := by decide +kernel
theorem dX3_pass_0 : decode cX3_pass 0 = .ok (.aload_n 0, 1) := by decide +kernel
theorem dX3_pass_1 : decode cX3_pass 1 = .ok (.iload_n 1, 1) := by decide +kernel
theorem dX3_pass_2 : decode cX3_pass 2 = .ok (.invokevirtual 146, 3) := by decide +kernel
theorem dX3_pass_5 : decode cX3_pass 5 = .ok (.istore_n 2, 1) := by decide +kernel
theorem dX3_pass_6 : decode cX3_pass 6 = .ok (.iload_n 2, 1) := by decide +kernel
theorem dX3_pass_7 : decode cX3_pass 7 = .ok (.ifCond .eq 5, 3) := by decide +kernel
theorem dX3_pass_10 : decode cX3_pass 10 = .ok (.iload_n 2, 1) := by decide +kernel
theorem dX3_pass_11 : decode cX3_pass 11 = .ok (.ireturn, 1) := by decide +kernel
theorem dX3_pass_12 : decode cX3_pass 12 = .ok (.aload_n 0, 1) := by decide +kernel
theorem dX3_pass_13 : decode cX3_pass 13 = .ok (.invokevirtual 118, 3) := by decide +kernel
theorem dX3_pass_16 : decode cX3_pass 16 = .ok (.aload_n 0, 1) := by decide +kernel
theorem dX3_pass_17 : decode cX3_pass 17 = .ok (.iconst 0, 1) := by decide +kernel
theorem dX3_pass_18 : decode cX3_pass 18 = .ok (.iload_n 1, 1) := by decide +kernel
theorem dX3_pass_19 : decode cX3_pass 19 = .ok (.invokevirtual 149, 3) := by decide +kernel
theorem dX3_pass_22 : decode cX3_pass 22 = .ok (.ireturn, 1) := by decide +kernel
theorem dX3_depth_0 : decode cX3_depth 0 = .ok (.iconst (-1), 1) := by decide +kernel
theorem dX3_depth_1 : decode cX3_depth 1 = .ok (.istore_n 2, 1) := by decide +kernel
theorem dX3_depth_2 : decode cX3_depth 2 = .ok (.iload_n 1, 1) := by decide +kernel
theorem dX3_depth_3 : decode cX3_depth 3 = .ok (.istore_n 3, 1) := by decide +kernel
theorem dX3_depth_4 : decode cX3_depth 4 = .ok (.iload_n 3, 1) := by decide +kernel
theorem dX3_depth_5 : decode cX3_depth 5 = .ok (.bipush (-6), 2) := by decide +kernel
theorem dX3_depth_7 : decode cX3_depth 7 = .ok (.if_icmp .eq 20, 3) := by decide +kernel
theorem dX3_depth_10 : decode cX3_depth 10 = .ok (.iinc 2 1, 3) := by decide +kernel
theorem dX3_depth_13 : decode cX3_depth 13 = .ok (.aload_n 0, 1) := by decide +kernel
theorem dX3_depth_14 : decode cX3_depth 14 = .ok (.getfield 7, 3) := by decide +kernel
theorem dX3_depth_17 : decode cX3_depth 17 = .ok (.iconst 0, 1) := by decide +kernel
theorem dX3_depth_18 : decode cX3_depth 18 = .ok (.iload_n 3, 1) := by decide +kernel
theorem dX3_depth_19 : decode cX3_depth 19 = .ok (.invokestatic 37, 3) := by decide +kernel
theorem dX3_depth_22 : decode cX3_depth 22 = .ok (.iaload, 1) := by decide +kernel
theorem dX3_depth_23 : decode cX3_depth 23 = .ok (.istore_n 3, 1) := by decide +kernel
theorem dX3_depth_24 : decode cX3_depth 24 = .ok (.goto (-20), 3) := by decide +kernel
theorem dX3_depth_27 : decode cX3_depth 27 = .ok (.iload_n 2, 1) := by decide +kernel
theorem dX3_depth_28 : decode cX3_depth 28 = .ok (.ireturn, 1) := by decide +kernel
theorem dX3_of_0 : decode cX3_of 0 = .ok (.aload_n 0, 1) := by decide +kernel
theorem dX3_of_1 : decode cX3_of 1 = .ok (.iload_n 1, 1) := by decide +kernel
theorem dX3_of_2 : decode cX3_of 2 = .ok (.invokevirtual 93, 3) := by decide +kernel
theorem dX3_of_5 : decode cX3_of 5 = .ok (.ifCond .ne 5, 3) := by decide +kernel
theorem dX3_of_8 : decode cX3_of 8 = .ok (.iconst (-1), 1) := by decide +kernel
theorem dX3_of_9 : decode cX3_of 9 = .ok (.ireturn, 1) := by decide +kernel
theorem dX3_of_10 : decode cX3_of 10 = .ok (.iconst 0, 1) := by decide +kernel
theorem dX3_of_11 : decode cX3_of 11 = .ok (.iload_n 1, 1) := by decide +kernel
theorem dX3_of_12 : decode cX3_of 12 = .ok (.invokestatic 37, 3) := by decide +kernel
theorem dX3_of_15 : decode cX3_of 15 = .ok (.istore_n 3, 1) := by decide +kernel
theorem dX3_of_16 : decode cX3_of 16 = .ok (.iload_n 2, 1) := by decide +kernel
theorem dX3_of_17 : decode cX3_of 17 = .ok (.tableswitch 140 0 11 #[63, 63, 63, 63, 72, 79, 88, 95, 104, 114, 120, 130], 63) := by decide +kernel
theorem dX3_of_80 : decode cX3_of 80 = .ok (.aload_n 0, 1) := by decide +kernel
theorem dX3_of_81 : decode cX3_of 81 = .ok (.getfield 7, 3) := by decide +kernel
theorem dX3_of_84 : decode cX3_of 84 = .ok (.iload_n 3, 1) := by decide +kernel
theorem dX3_of_85 : decode cX3_of 85 = .ok (.iload_n 2, 1) := by decide +kernel
theorem dX3_of_86 : decode cX3_of 86 = .ok (.iadd, 1) := by decide +kernel
theorem dX3_of_87 : decode cX3_of 87 = .ok (.iaload, 1) := by decide +kernel
theorem dX3_of_88 : decode cX3_of 88 = .ok (.ireturn, 1) := by decide +kernel
theorem dX3_of_89 : decode cX3_of 89 = .ok (.aload_n 0, 1) := by decide +kernel
theorem dX3_of_90 : decode cX3_of 90 = .ok (.iconst 0, 1) := by decide +kernel
theorem dX3_of_91 : decode cX3_of 91 = .ok (.iload_n 1, 1) := by decide +kernel
theorem dX3_of_92 : decode cX3_of 92 = .ok (.invokevirtual 60, 3) := by decide +kernel
theorem dX3_of_95 : decode cX3_of 95 = .ok (.ireturn, 1) := by decide +kernel
theorem dX3_of_96 : decode cX3_of 96 = .ok (.aload_n 0, 1) := by decide +kernel
theorem dX3_of_97 : decode cX3_of 97 = .ok (.getfield 7, 3) := by decide +kernel
theorem dX3_of_100 : decode cX3_of 100 = .ok (.iload_n 3, 1) := by decide +kernel
theorem dX3_of_101 : decode cX3_of 101 = .ok (.iconst 4, 1) := by decide +kernel
theorem dX3_of_102 : decode cX3_of 102 = .ok (.iadd, 1) := by decide +kernel
theorem dX3_of_103 : decode cX3_of 103 = .ok (.iaload, 1) := by decide +kernel
theorem dX3_of_104 : decode cX3_of 104 = .ok (.ireturn, 1) := by decide +kernel
theorem dX3_of_105 : decode cX3_of 105 = .ok (.aload_n 0, 1) := by decide +kernel
theorem dX3_of_106 : decode cX3_of 106 = .ok (.iconst 0, 1) := by decide +kernel
theorem dX3_of_107 : decode cX3_of 107 = .ok (.iload_n 1, 1) := by decide +kernel
theorem dX3_of_108 : decode cX3_of 108 = .ok (.invokevirtual 69, 3) := by decide +kernel
theorem dX3_of_111 : decode cX3_of 111 = .ok (.ireturn, 1) := by decide +kernel
theorem dX3_of_112 : decode cX3_of 112 = .ok (.aload_n 0, 1) := by decide +kernel
theorem dX3_of_113 : decode cX3_of 113 = .ok (.getfield 7, 3) := by decide +kernel
theorem dX3_of_116 : decode cX3_of 116 = .ok (.iload_n 3, 1) := by decide +kernel
theorem dX3_of_117 : decode cX3_of 117 = .ok (.iconst 5, 1) := by decide +kernel
theorem dX3_of_118 : decode cX3_of 118 = .ok (.iadd, 1) := by decide +kernel
theorem dX3_of_119 : decode cX3_of 119 = .ok (.iaload, 1) := by decide +kernel
theorem dX3_of_120 : decode cX3_of 120 = .ok (.ireturn, 1) := by decide +kernel
theorem dX3_of_121 : decode cX3_of 121 = .ok (.aload_n 0, 1) := by decide +kernel
theorem dX3_of_122 : decode cX3_of 122 = .ok (.iconst 0, 1) := by decide +kernel
theorem dX3_of_123 : decode cX3_of 123 = .ok (.iload_n 1, 1) := by decide +kernel
theorem dX3_of_124 : decode cX3_of 124 = .ok (.invokevirtual 48, 3) := by decide +kernel
theorem dX3_of_127 : decode cX3_of 127 = .ok (.invokestatic 56, 3) := by decide +kernel
theorem dX3_of_130 : decode cX3_of 130 = .ok (.ireturn, 1) := by decide +kernel
theorem dX3_of_131 : decode cX3_of 131 = .ok (.aload_n 0, 1) := by decide +kernel
theorem dX3_of_132 : decode cX3_of 132 = .ok (.iload_n 1, 1) := by decide +kernel
theorem dX3_of_133 : decode cX3_of 133 = .ok (.invokevirtual 152, 3) := by decide +kernel
theorem dX3_of_136 : decode cX3_of 136 = .ok (.ireturn, 1) := by decide +kernel
theorem dX3_of_137 : decode cX3_of 137 = .ok (.aload_n 0, 1) := by decide +kernel
theorem dX3_of_138 : decode cX3_of 138 = .ok (.getfield 7, 3) := by decide +kernel
theorem dX3_of_141 : decode cX3_of 141 = .ok (.iload_n 3, 1) := by decide +kernel
theorem dX3_of_142 : decode cX3_of 142 = .ok (.bipush 7, 2) := by decide +kernel
theorem dX3_of_144 : decode cX3_of 144 = .ok (.iadd, 1) := by decide +kernel
theorem dX3_of_145 : decode cX3_of 145 = .ok (.iaload, 1) := by decide +kernel
theorem dX3_of_146 : decode cX3_of 146 = .ok (.ireturn, 1) := by decide +kernel
theorem dX3_of_147 : decode cX3_of 147 = .ok (.aload_n 0, 1) := by decide +kernel
theorem dX3_of_148 : decode cX3_of 148 = .ok (.getfield 7, 3) := by decide +kernel
theorem dX3_of_151 : decode cX3_of 151 = .ok (.iload_n 3, 1) := by decide +kernel
theorem dX3_of_152 : decode cX3_of 152 = .ok (.bipush 8, 2) := by decide +kernel
theorem dX3_of_154 : decode cX3_of 154 = .ok (.iadd, 1) := by decide +kernel
theorem dX3_of_155 : decode cX3_of 155 = .ok (.iaload, 1) := by decide +kernel
theorem dX3_of_156 : decode cX3_of 156 = .ok (.ireturn, 1) := by decide +kernel
theorem dX3_of_157 : decode cX3_of 157 = .ok (.bipush (-2), 2) := by decide +kernel
theorem dX3_of_159 : decode cX3_of 159 = .ok (.ireturn, 1) := by decide +kernel
theorem dX3_works_0 : decode cX3_works 0 = .ok (.aload_n 0, 1) := by decide +kernel
theorem dX3_works_1 : decode cX3_works 1 = .ok (.getfield 7, 3) := by decide +kernel
theorem dX3_works_4 : decode cX3_works 4 = .ok (.iconst 0, 1) := by decide +kernel
theorem dX3_works_5 : decode cX3_works 5 = .ok (.iload_n 1, 1) := by decide +kernel
theorem dX3_works_6 : decode cX3_works 6 = .ok (.invokestatic 41, 3) := by decide +kernel
theorem dX3_works_9 : decode cX3_works 9 = .ok (.iconst 2, 1) := by decide +kernel
theorem dX3_works_10 : decode cX3_works 10 = .ok (.iadd, 1) := by decide +kernel
theorem dX3_works_11 : decode cX3_works 11 = .ok (.iaload, 1) := by decide +kernel
theorem dX3_works_12 : decode cX3_works 12 = .ok (.iconst 1, 1) := by decide +kernel
theorem dX3_works_13 : decode cX3_works 13 = .ok (.if_icmp .ne 25, 3) := by decide +kernel
theorem dX3_works_16 : decode cX3_works 16 = .ok (.aload_n 0, 1) := by decide +kernel
theorem dX3_works_17 : decode cX3_works 17 = .ok (.iconst 0, 1) := by decide +kernel
theorem dX3_works_18 : decode cX3_works 18 = .ok (.aload_n 0, 1) := by decide +kernel
theorem dX3_works_19 : decode cX3_works 19 = .ok (.getfield 7, 3) := by decide +kernel
theorem dX3_works_22 : decode cX3_works 22 = .ok (.iconst 0, 1) := by decide +kernel
theorem dX3_works_23 : decode cX3_works 23 = .ok (.iload_n 1, 1) := by decide +kernel
theorem dX3_works_24 : decode cX3_works 24 = .ok (.invokestatic 41, 3) := by decide +kernel
theorem dX3_works_27 : decode cX3_works 27 = .ok (.iaload, 1) := by decide +kernel
theorem dX3_works_28 : decode cX3_works 28 = .ok (.invokevirtual 48, 3) := by decide +kernel
theorem dX3_works_31 : decode cX3_works 31 = .ok (.ifCond .ne 7, 3) := by decide +kernel
theorem dX3_works_34 : decode cX3_works 34 = .ok (.iconst 1, 1) := by decide +kernel
theorem dX3_works_35 : decode cX3_works 35 = .ok (.goto 4, 3) := by decide +kernel
theorem dX3_works_38 : decode cX3_works 38 = .ok (.iconst 0, 1) := by decide +kernel
theorem dX3_works_39 : decode cX3_works 39 = .ok (.ireturn, 1) := by decide +kernel
theorem dX3_ofLoad_0 : decode cX3_ofLoad 0 = .ok (.aload_n 0, 1) := by decide +kernel
theorem dX3_ofLoad_1 : decode cX3_ofLoad 1 = .ok (.iload_n 1, 1) := by decide +kernel
theorem dX3_ofLoad_2 : decode cX3_ofLoad 2 = .ok (.invokevirtual 102, 3) := by decide +kernel
theorem dX3_ofLoad_5 : decode cX3_ofLoad 5 = .ok (.ifCond .ne 5, 3) := by decide +kernel
theorem dX3_ofLoad_8 : decode cX3_ofLoad 8 = .ok (.iconst (-1), 1) := by decide +kernel
theorem dX3_ofLoad_9 : decode cX3_ofLoad 9 = .ok (.ireturn, 1) := by decide +kernel
theorem dX3_ofLoad_10 : decode cX3_ofLoad 10 = .ok (.iload_n 2, 1) := by decide +kernel
theorem dX3_ofLoad_11 : decode cX3_ofLoad 11 = .ok (.i2l, 1) := by decide +kernel
theorem dX3_ofLoad_12 : decode cX3_ofLoad 12 = .ok (.lconst 0, 1) := by decide +kernel
theorem dX3_ofLoad_13 : decode cX3_ofLoad 13 = .ok (.ldc2_w 91, 3) := by decide +kernel
theorem dX3_ofLoad_16 : decode cX3_ofLoad 16 = .ok (.invokestatic 85, 3) := by decide +kernel
theorem dX3_ofLoad_19 : decode cX3_ofLoad 19 = .ok (.ifCond .eq 18, 3) := by decide +kernel
theorem dX3_ofLoad_22 : decode cX3_ofLoad 22 = .ok (.aload_n 0, 1) := by decide +kernel
theorem dX3_ofLoad_23 : decode cX3_ofLoad 23 = .ok (.getfield 7, 3) := by decide +kernel
theorem dX3_ofLoad_26 : decode cX3_ofLoad 26 = .ok (.iconst 0, 1) := by decide +kernel
theorem dX3_ofLoad_27 : decode cX3_ofLoad 27 = .ok (.iload_n 1, 1) := by decide +kernel
theorem dX3_ofLoad_28 : decode cX3_ofLoad 28 = .ok (.invokestatic 41, 3) := by decide +kernel
theorem dX3_ofLoad_31 : decode cX3_ofLoad 31 = .ok (.iload_n 2, 1) := by decide +kernel
theorem dX3_ofLoad_32 : decode cX3_ofLoad 32 = .ok (.iadd, 1) := by decide +kernel
theorem dX3_ofLoad_33 : decode cX3_ofLoad 33 = .ok (.iaload, 1) := by decide +kernel
theorem dX3_ofLoad_34 : decode cX3_ofLoad 34 = .ok (.goto 21, 3) := by decide +kernel
theorem dX3_ofLoad_37 : decode cX3_ofLoad 37 = .ok (.iload_n 2, 1) := by decide +kernel
theorem dX3_ofLoad_38 : decode cX3_ofLoad 38 = .ok (.iconst 3, 1) := by decide +kernel
theorem dX3_ofLoad_39 : decode cX3_ofLoad 39 = .ok (.if_icmp .ne 14, 3) := by decide +kernel
theorem dX3_ofLoad_42 : decode cX3_ofLoad 42 = .ok (.aload_n 0, 1) := by decide +kernel
theorem dX3_ofLoad_43 : decode cX3_ofLoad 43 = .ok (.iload_n 1, 1) := by decide +kernel
theorem dX3_ofLoad_44 : decode cX3_ofLoad 44 = .ok (.invokevirtual 155, 3) := by decide +kernel
theorem dX3_ofLoad_47 : decode cX3_ofLoad 47 = .ok (.invokestatic 56, 3) := by decide +kernel
theorem dX3_ofLoad_50 : decode cX3_ofLoad 50 = .ok (.goto 5, 3) := by decide +kernel
theorem dX3_ofLoad_53 : decode cX3_ofLoad 53 = .ok (.bipush (-2), 2) := by decide +kernel
theorem dX3_ofLoad_55 : decode cX3_ofLoad 55 = .ok (.ireturn, 1) := by decide +kernel
theorem dX3_fed_0 : decode cX3_fed 0 = .ok (.aload_n 0, 1) := by decide +kernel
theorem dX3_fed_1 : decode cX3_fed 1 = .ok (.iload_n 1, 1) := by decide +kernel
theorem dX3_fed_2 : decode cX3_fed 2 = .ok (.invokevirtual 93, 3) := by decide +kernel
theorem dX3_fed_5 : decode cX3_fed 5 = .ok (.ifCond .ne 5, 3) := by decide +kernel
theorem dX3_fed_8 : decode cX3_fed 8 = .ok (.iconst (-1), 1) := by decide +kernel
theorem dX3_fed_9 : decode cX3_fed 9 = .ok (.ireturn, 1) := by decide +kernel
theorem dX3_fed_10 : decode cX3_fed 10 = .ok (.iconst 0, 1) := by decide +kernel
theorem dX3_fed_11 : decode cX3_fed 11 = .ok (.istore_n 2, 1) := by decide +kernel
theorem dX3_fed_12 : decode cX3_fed 12 = .ok (.iconst 0, 1) := by decide +kernel
theorem dX3_fed_13 : decode cX3_fed 13 = .ok (.istore_n 3, 1) := by decide +kernel
theorem dX3_fed_14 : decode cX3_fed 14 = .ok (.iload_n 3, 1) := by decide +kernel
theorem dX3_fed_15 : decode cX3_fed 15 = .ok (.aload_n 0, 1) := by decide +kernel
theorem dX3_fed_16 : decode cX3_fed 16 = .ok (.getfield 7, 3) := by decide +kernel
theorem dX3_fed_19 : decode cX3_fed 19 = .ok (.iconst 4, 1) := by decide +kernel
theorem dX3_fed_20 : decode cX3_fed 20 = .ok (.iaload, 1) := by decide +kernel
theorem dX3_fed_21 : decode cX3_fed 21 = .ok (.if_icmp .ge 24, 3) := by decide +kernel
theorem dX3_fed_24 : decode cX3_fed 24 = .ok (.iload_n 2, 1) := by decide +kernel
theorem dX3_fed_25 : decode cX3_fed 25 = .ok (.aload_n 0, 1) := by decide +kernel
theorem dX3_fed_26 : decode cX3_fed 26 = .ok (.iconst 0, 1) := by decide +kernel
theorem dX3_fed_27 : decode cX3_fed 27 = .ok (.iload_n 3, 1) := by decide +kernel
theorem dX3_fed_28 : decode cX3_fed 28 = .ok (.iload_n 1, 1) := by decide +kernel
theorem dX3_fed_29 : decode cX3_fed 29 = .ok (.invokevirtual 44, 3) := by decide +kernel
theorem dX3_fed_32 : decode cX3_fed 32 = .ok (.invokestatic 56, 3) := by decide +kernel
theorem dX3_fed_35 : decode cX3_fed 35 = .ok (.iload_n 3, 1) := by decide +kernel
theorem dX3_fed_36 : decode cX3_fed 36 = .ok (.ishl, 1) := by decide +kernel
theorem dX3_fed_37 : decode cX3_fed 37 = .ok (.ior, 1) := by decide +kernel
theorem dX3_fed_38 : decode cX3_fed 38 = .ok (.istore_n 2, 1) := by decide +kernel
theorem dX3_fed_39 : decode cX3_fed 39 = .ok (.iinc 3 1, 3) := by decide +kernel
theorem dX3_fed_42 : decode cX3_fed 42 = .ok (.goto (-28), 3) := by decide +kernel
theorem dX3_fed_45 : decode cX3_fed 45 = .ok (.iload_n 2, 1) := by decide +kernel
theorem dX3_fed_46 : decode cX3_fed 46 = .ok (.ireturn, 1) := by decide +kernel
theorem dX3_blown_0 : decode cX3_blown 0 = .ok (.iload_n 1, 1) := by decide +kernel
theorem dX3_blown_1 : decode cX3_blown 1 = .ok (.i2l, 1) := by decide +kernel
theorem dX3_blown_2 : decode cX3_blown 2 = .ok (.lconst 0, 1) := by decide +kernel
theorem dX3_blown_3 : decode cX3_blown 3 = .ok (.aload_n 0, 1) := by decide +kernel
theorem dX3_blown_4 : decode cX3_blown 4 = .ok (.getfield 7, 3) := by decide +kernel
theorem dX3_blown_7 : decode cX3_blown 7 = .ok (.bipush 7, 2) := by decide +kernel
theorem dX3_blown_9 : decode cX3_blown 9 = .ok (.iaload, 1) := by decide +kernel
theorem dX3_blown_10 : decode cX3_blown 10 = .ok (.iconst 1, 1) := by decide +kernel
theorem dX3_blown_11 : decode cX3_blown 11 = .ok (.isub, 1) := by decide +kernel
theorem dX3_blown_12 : decode cX3_blown 12 = .ok (.i2l, 1) := by decide +kernel
theorem dX3_blown_13 : decode cX3_blown 13 = .ok (.invokestatic 85, 3) := by decide +kernel
theorem dX3_blown_16 : decode cX3_blown 16 = .ok (.ifCond .eq 15, 3) := by decide +kernel
theorem dX3_blown_19 : decode cX3_blown 19 = .ok (.aload_n 0, 1) := by decide +kernel
theorem dX3_blown_20 : decode cX3_blown 20 = .ok (.getfield 7, 3) := by decide +kernel
theorem dX3_blown_23 : decode cX3_blown 23 = .ok (.bipush 8, 2) := by decide +kernel
theorem dX3_blown_25 : decode cX3_blown 25 = .ok (.iload_n 1, 1) := by decide +kernel
theorem dX3_blown_26 : decode cX3_blown 26 = .ok (.iadd, 1) := by decide +kernel
theorem dX3_blown_27 : decode cX3_blown 27 = .ok (.iaload, 1) := by decide +kernel
theorem dX3_blown_28 : decode cX3_blown 28 = .ok (.goto 4, 3) := by decide +kernel
theorem dX3_blown_31 : decode cX3_blown 31 = .ok (.iconst (-1), 1) := by decide +kernel
theorem dX3_blown_32 : decode cX3_blown 32 = .ok (.ireturn, 1) := by decide +kernel
theorem dX3_boards_0 : decode cX3_boards 0 = .ok (.iconst 0, 1) := by decide +kernel
theorem dX3_boards_1 : decode cX3_boards 1 = .ok (.istore_n 2, 1) := by decide +kernel
theorem dX3_boards_2 : decode cX3_boards 2 = .ok (.iconst 0, 1) := by decide +kernel
theorem dX3_boards_3 : decode cX3_boards 3 = .ok (.istore_n 3, 1) := by decide +kernel
theorem dX3_boards_4 : decode cX3_boards 4 = .ok (.iload_n 3, 1) := by decide +kernel
theorem dX3_boards_5 : decode cX3_boards 5 = .ok (.aload_n 0, 1) := by decide +kernel
theorem dX3_boards_6 : decode cX3_boards 6 = .ok (.getfield 7, 3) := by decide +kernel
theorem dX3_boards_9 : decode cX3_boards 9 = .ok (.iconst 4, 1) := by decide +kernel
theorem dX3_boards_10 : decode cX3_boards 10 = .ok (.iaload, 1) := by decide +kernel
theorem dX3_boards_11 : decode cX3_boards 11 = .ok (.if_icmp .ge 65, 3) := by decide +kernel
theorem dX3_boards_14 : decode cX3_boards 14 = .ok (.iload_n 1, 1) := by decide +kernel
theorem dX3_boards_15 : decode cX3_boards 15 = .ok (.iconst 3, 1) := by decide +kernel
theorem dX3_boards_16 : decode cX3_boards 16 = .ok (.if_icmp .ne 12, 3) := by decide +kernel
theorem dX3_boards_19 : decode cX3_boards 19 = .ok (.aload_n 0, 1) := by decide +kernel
theorem dX3_boards_20 : decode cX3_boards 20 = .ok (.iconst 0, 1) := by decide +kernel
theorem dX3_boards_21 : decode cX3_boards 21 = .ok (.iload_n 3, 1) := by decide +kernel
theorem dX3_boards_22 : decode cX3_boards 22 = .ok (.invokevirtual 48, 3) := by decide +kernel
theorem dX3_boards_25 : decode cX3_boards 25 = .ok (.goto 33, 3) := by decide +kernel
theorem dX3_boards_28 : decode cX3_boards 28 = .ok (.aload_n 0, 1) := by decide +kernel
theorem dX3_boards_29 : decode cX3_boards 29 = .ok (.getfield 7, 3) := by decide +kernel
theorem dX3_boards_32 : decode cX3_boards 32 = .ok (.iconst 0, 1) := by decide +kernel
theorem dX3_boards_33 : decode cX3_boards 33 = .ok (.iload_n 3, 1) := by decide +kernel
theorem dX3_boards_34 : decode cX3_boards 34 = .ok (.invokestatic 37, 3) := by decide +kernel
theorem dX3_boards_37 : decode cX3_boards 37 = .ok (.iconst 3, 1) := by decide +kernel
theorem dX3_boards_38 : decode cX3_boards 38 = .ok (.iadd, 1) := by decide +kernel
theorem dX3_boards_39 : decode cX3_boards 39 = .ok (.iaload, 1) := by decide +kernel
theorem dX3_boards_40 : decode cX3_boards 40 = .ok (.iload_n 1, 1) := by decide +kernel
theorem dX3_boards_41 : decode cX3_boards 41 = .ok (.iconst 5, 1) := by decide +kernel
theorem dX3_boards_42 : decode cX3_boards 42 = .ok (.if_icmp .ne 7, 3) := by decide +kernel
theorem dX3_boards_45 : decode cX3_boards 45 = .ok (.iconst 2, 1) := by decide +kernel
theorem dX3_boards_46 : decode cX3_boards 46 = .ok (.goto 4, 3) := by decide +kernel
theorem dX3_boards_49 : decode cX3_boards 49 = .ok (.iconst 1, 1) := by decide +kernel
theorem dX3_boards_50 : decode cX3_boards 50 = .ok (.if_icmp .ne 7, 3) := by decide +kernel
theorem dX3_boards_53 : decode cX3_boards 53 = .ok (.iconst 1, 1) := by decide +kernel
theorem dX3_boards_54 : decode cX3_boards 54 = .ok (.goto 4, 3) := by decide +kernel
theorem dX3_boards_57 : decode cX3_boards 57 = .ok (.iconst 0, 1) := by decide +kernel
theorem dX3_boards_58 : decode cX3_boards 58 = .ok (.istore 4, 2) := by decide +kernel
theorem dX3_boards_60 : decode cX3_boards 60 = .ok (.iload_n 2, 1) := by decide +kernel
theorem dX3_boards_61 : decode cX3_boards 61 = .ok (.iload 4, 2) := by decide +kernel
theorem dX3_boards_63 : decode cX3_boards 63 = .ok (.invokestatic 56, 3) := by decide +kernel
theorem dX3_boards_66 : decode cX3_boards 66 = .ok (.iload_n 3, 1) := by decide +kernel
theorem dX3_boards_67 : decode cX3_boards 67 = .ok (.ishl, 1) := by decide +kernel
theorem dX3_boards_68 : decode cX3_boards 68 = .ok (.ior, 1) := by decide +kernel
theorem dX3_boards_69 : decode cX3_boards 69 = .ok (.istore_n 2, 1) := by decide +kernel
theorem dX3_boards_70 : decode cX3_boards 70 = .ok (.iinc 3 1, 3) := by decide +kernel
theorem dX3_boards_73 : decode cX3_boards 73 = .ok (.goto (-69), 3) := by decide +kernel
theorem dX3_boards_76 : decode cX3_boards 76 = .ok (.iload_n 2, 1) := by decide +kernel
theorem dX3_boards_77 : decode cX3_boards 77 = .ok (.ireturn, 1) := by decide +kernel
theorem dX3_working_0 : decode cX3_working 0 = .ok (.iconst 0, 1) := by decide +kernel
theorem dX3_working_1 : decode cX3_working 1 = .ok (.istore_n 1, 1) := by decide +kernel
theorem dX3_working_2 : decode cX3_working 2 = .ok (.iconst 0, 1) := by decide +kernel
theorem dX3_working_3 : decode cX3_working 3 = .ok (.istore_n 2, 1) := by decide +kernel
theorem dX3_working_4 : decode cX3_working 4 = .ok (.iload_n 2, 1) := by decide +kernel
theorem dX3_working_5 : decode cX3_working 5 = .ok (.aload_n 0, 1) := by decide +kernel
theorem dX3_working_6 : decode cX3_working 6 = .ok (.getfield 7, 3) := by decide +kernel
theorem dX3_working_9 : decode cX3_working 9 = .ok (.iconst 5, 1) := by decide +kernel
theorem dX3_working_10 : decode cX3_working 10 = .ok (.iaload, 1) := by decide +kernel
theorem dX3_working_11 : decode cX3_working 11 = .ok (.if_icmp .ge 22, 3) := by decide +kernel
theorem dX3_working_14 : decode cX3_working 14 = .ok (.iload_n 1, 1) := by decide +kernel
theorem dX3_working_15 : decode cX3_working 15 = .ok (.aload_n 0, 1) := by decide +kernel
theorem dX3_working_16 : decode cX3_working 16 = .ok (.iload_n 2, 1) := by decide +kernel
theorem dX3_working_17 : decode cX3_working 17 = .ok (.invokevirtual 155, 3) := by decide +kernel
theorem dX3_working_20 : decode cX3_working 20 = .ok (.invokestatic 56, 3) := by decide +kernel
theorem dX3_working_23 : decode cX3_working 23 = .ok (.iload_n 2, 1) := by decide +kernel
theorem dX3_working_24 : decode cX3_working 24 = .ok (.ishl, 1) := by decide +kernel
theorem dX3_working_25 : decode cX3_working 25 = .ok (.ior, 1) := by decide +kernel
theorem dX3_working_26 : decode cX3_working 26 = .ok (.istore_n 1, 1) := by decide +kernel
theorem dX3_working_27 : decode cX3_working 27 = .ok (.iinc 2 1, 3) := by decide +kernel
theorem dX3_working_30 : decode cX3_working 30 = .ok (.goto (-26), 3) := by decide +kernel
theorem dX3_working_33 : decode cX3_working 33 = .ok (.iload_n 1, 1) := by decide +kernel
theorem dX3_working_34 : decode cX3_working 34 = .ok (.ireturn, 1) := by decide +kernel
theorem dX3_count_0 : decode cX3_count 0 = .ok (.iload_n 1, 1) := by decide +kernel
theorem dX3_count_1 : decode cX3_count 1 = .ok (.tableswitch 151 0 13 #[71, 78, 85, 92, 98, 92, 92, 103, 111, 131, 131, 131, 141, 146], 71) := by decide +kernel
theorem dX3_count_72 : decode cX3_count 72 = .ok (.aload_n 0, 1) := by decide +kernel
theorem dX3_count_73 : decode cX3_count 73 = .ok (.getfield 7, 3) := by decide +kernel
theorem dX3_count_76 : decode cX3_count 76 = .ok (.iconst 3, 1) := by decide +kernel
theorem dX3_count_77 : decode cX3_count 77 = .ok (.iaload, 1) := by decide +kernel
theorem dX3_count_78 : decode cX3_count 78 = .ok (.ireturn, 1) := by decide +kernel
theorem dX3_count_79 : decode cX3_count 79 = .ok (.aload_n 0, 1) := by decide +kernel
theorem dX3_count_80 : decode cX3_count 80 = .ok (.getfield 7, 3) := by decide +kernel
theorem dX3_count_83 : decode cX3_count 83 = .ok (.iconst 4, 1) := by decide +kernel
theorem dX3_count_84 : decode cX3_count 84 = .ok (.iaload, 1) := by decide +kernel
theorem dX3_count_85 : decode cX3_count 85 = .ok (.ireturn, 1) := by decide +kernel
theorem dX3_count_86 : decode cX3_count 86 = .ok (.aload_n 0, 1) := by decide +kernel
theorem dX3_count_87 : decode cX3_count 87 = .ok (.getfield 7, 3) := by decide +kernel
theorem dX3_count_90 : decode cX3_count 90 = .ok (.iconst 5, 1) := by decide +kernel
theorem dX3_count_91 : decode cX3_count 91 = .ok (.iaload, 1) := by decide +kernel
theorem dX3_count_92 : decode cX3_count 92 = .ok (.ireturn, 1) := by decide +kernel
theorem dX3_count_93 : decode cX3_count 93 = .ok (.aload_n 0, 1) := by decide +kernel
theorem dX3_count_94 : decode cX3_count 94 = .ok (.iload_n 1, 1) := by decide +kernel
theorem dX3_count_95 : decode cX3_count 95 = .ok (.invokevirtual 158, 3) := by decide +kernel
theorem dX3_count_98 : decode cX3_count 98 = .ok (.ireturn, 1) := by decide +kernel
theorem dX3_count_99 : decode cX3_count 99 = .ok (.aload_n 0, 1) := by decide +kernel
theorem dX3_count_100 : decode cX3_count 100 = .ok (.invokevirtual 161, 3) := by decide +kernel
theorem dX3_count_103 : decode cX3_count 103 = .ok (.ireturn, 1) := by decide +kernel
theorem dX3_count_104 : decode cX3_count 104 = .ok (.aload_n 0, 1) := by decide +kernel
theorem dX3_count_105 : decode cX3_count 105 = .ok (.getfield 7, 3) := by decide +kernel
theorem dX3_count_108 : decode cX3_count 108 = .ok (.bipush 6, 2) := by decide +kernel
theorem dX3_count_110 : decode cX3_count 110 = .ok (.iaload, 1) := by decide +kernel
theorem dX3_count_111 : decode cX3_count 111 = .ok (.ireturn, 1) := by decide +kernel
theorem dX3_count_112 : decode cX3_count 112 = .ok (.aload_n 0, 1) := by decide +kernel
theorem dX3_count_113 : decode cX3_count 113 = .ok (.getfield 7, 3) := by decide +kernel
theorem dX3_count_116 : decode cX3_count 116 = .ok (.iconst 4, 1) := by decide +kernel
theorem dX3_count_117 : decode cX3_count 117 = .ok (.iaload, 1) := by decide +kernel
theorem dX3_count_118 : decode cX3_count 118 = .ok (.ifCond .ne 7, 3) := by decide +kernel
theorem dX3_count_121 : decode cX3_count 121 = .ok (.iconst 0, 1) := by decide +kernel
theorem dX3_count_122 : decode cX3_count 122 = .ok (.goto 9, 3) := by decide +kernel
theorem dX3_count_125 : decode cX3_count 125 = .ok (.aload_n 0, 1) := by decide +kernel
theorem dX3_count_126 : decode cX3_count 126 = .ok (.iconst 0, 1) := by decide +kernel
theorem dX3_count_127 : decode cX3_count 127 = .ok (.iconst 0, 1) := by decide +kernel
theorem dX3_count_128 : decode cX3_count 128 = .ok (.invokevirtual 60, 3) := by decide +kernel
theorem dX3_count_131 : decode cX3_count 131 = .ok (.ireturn, 1) := by decide +kernel
theorem dX3_count_132 : decode cX3_count 132 = .ok (.aload_n 0, 1) := by decide +kernel
theorem dX3_count_133 : decode cX3_count 133 = .ok (.getfield 7, 3) := by decide +kernel
theorem dX3_count_136 : decode cX3_count 136 = .ok (.iload_n 1, 1) := by decide +kernel
theorem dX3_count_137 : decode cX3_count 137 = .ok (.bipush 9, 2) := by decide +kernel
theorem dX3_count_139 : decode cX3_count 139 = .ok (.isub, 1) := by decide +kernel
theorem dX3_count_140 : decode cX3_count 140 = .ok (.iaload, 1) := by decide +kernel
theorem dX3_count_141 : decode cX3_count 141 = .ok (.ireturn, 1) := by decide +kernel
theorem dX3_count_142 : decode cX3_count 142 = .ok (.aload_n 0, 1) := by decide +kernel
theorem dX3_count_143 : decode cX3_count 143 = .ok (.getfield 165, 3) := by decide +kernel
theorem dX3_count_146 : decode cX3_count 146 = .ok (.ireturn, 1) := by decide +kernel
theorem dX3_count_147 : decode cX3_count 147 = .ok (.aload_n 0, 1) := by decide +kernel
theorem dX3_count_148 : decode cX3_count 148 = .ok (.getfield 30, 3) := by decide +kernel
theorem dX3_count_151 : decode cX3_count 151 = .ok (.ireturn, 1) := by decide +kernel
theorem dX3_count_152 : decode cX3_count 152 = .ok (.bipush (-2), 2) := by decide +kernel
theorem dX3_count_154 : decode cX3_count 154 = .ok (.ireturn, 1) := by decide +kernel
theorem dX3_lowest_0 : decode cX3_lowest 0 = .ok (.iconst 0, 1) := by decide +kernel
theorem dX3_lowest_1 : decode cX3_lowest 1 = .ok (.istore_n 1, 1) := by decide +kernel
theorem dX3_lowest_2 : decode cX3_lowest 2 = .ok (.iload_n 0, 1) := by decide +kernel
theorem dX3_lowest_3 : decode cX3_lowest 3 = .ok (.iload_n 1, 1) := by decide +kernel
theorem dX3_lowest_4 : decode cX3_lowest 4 = .ok (.ishr, 1) := by decide +kernel
theorem dX3_lowest_5 : decode cX3_lowest 5 = .ok (.iconst 1, 1) := by decide +kernel
theorem dX3_lowest_6 : decode cX3_lowest 6 = .ok (.iand, 1) := by decide +kernel
theorem dX3_lowest_7 : decode cX3_lowest 7 = .ok (.ifCond .ne 9, 3) := by decide +kernel
theorem dX3_lowest_10 : decode cX3_lowest 10 = .ok (.iinc 1 1, 3) := by decide +kernel
theorem dX3_lowest_13 : decode cX3_lowest 13 = .ok (.goto (-11), 3) := by decide +kernel
theorem dX3_lowest_16 : decode cX3_lowest 16 = .ok (.iload_n 1, 1) := by decide +kernel
theorem dX3_lowest_17 : decode cX3_lowest 17 = .ok (.ireturn, 1) := by decide +kernel
theorem dX3_first_0 : decode cX3_first 0 = .ok (.iconst 1, 1) := by decide +kernel
theorem dX3_first_1 : decode cX3_first 1 = .ok (.istore_n 2, 1) := by decide +kernel
theorem dX3_first_2 : decode cX3_first 2 = .ok (.iload_n 2, 1) := by decide +kernel
theorem dX3_first_3 : decode cX3_first 3 = .ok (.sipush 200, 3) := by decide +kernel
theorem dX3_first_6 : decode cX3_first 6 = .ok (.if_icmp .gt 34, 3) := by decide +kernel
theorem dX3_first_9 : decode cX3_first 9 = .ok (.aload_n 0, 1) := by decide +kernel
theorem dX3_first_10 : decode cX3_first 10 = .ok (.sipush 1332, 3) := by decide +kernel
theorem dX3_first_13 : decode cX3_first 13 = .ok (.invokevirtual 78, 3) := by decide +kernel
theorem dX3_first_16 : decode cX3_first 16 = .ok (.istore_n 3, 1) := by decide +kernel
theorem dX3_first_17 : decode cX3_first 17 = .ok (.iload_n 3, 1) := by decide +kernel
theorem dX3_first_18 : decode cX3_first 18 = .ok (.ifCond .eq 16, 3) := by decide +kernel
theorem dX3_first_21 : decode cX3_first 21 = .ok (.iload_n 1, 1) := by decide +kernel
theorem dX3_first_22 : decode cX3_first 22 = .ok (.ifCond .ne 7, 3) := by decide +kernel
theorem dX3_first_25 : decode cX3_first 25 = .ok (.iload_n 2, 1) := by decide +kernel
theorem dX3_first_26 : decode cX3_first 26 = .ok (.goto 7, 3) := by decide +kernel
theorem dX3_first_29 : decode cX3_first 29 = .ok (.iload_n 3, 1) := by decide +kernel
theorem dX3_first_30 : decode cX3_first 30 = .ok (.invokestatic 168, 3) := by decide +kernel
theorem dX3_first_33 : decode cX3_first 33 = .ok (.ireturn, 1) := by decide +kernel
theorem dX3_first_34 : decode cX3_first 34 = .ok (.iinc 2 1, 3) := by decide +kernel
theorem dX3_first_37 : decode cX3_first 37 = .ok (.goto (-35), 3) := by decide +kernel
theorem dX3_first_40 : decode cX3_first 40 = .ok (.bipush (-6), 2) := by decide +kernel
theorem dX3_first_42 : decode cX3_first 42 = .ok (.ireturn, 1) := by decide +kernel
theorem dX3_next_0 : decode cX3_next 0 = .ok (.iload_n 1, 1) := by decide +kernel
theorem dX3_next_1 : decode cX3_next 1 = .ok (.i2l, 1) := by decide +kernel
theorem dX3_next_2 : decode cX3_next 2 = .ok (.lconst 0, 1) := by decide +kernel
theorem dX3_next_3 : decode cX3_next 3 = .ok (.lconst 1, 1) := by decide +kernel
theorem dX3_next_4 : decode cX3_next 4 = .ok (.invokestatic 85, 3) := by decide +kernel
theorem dX3_next_7 : decode cX3_next 7 = .ok (.ifCond .ne 6, 3) := by decide +kernel
theorem dX3_next_10 : decode cX3_next 10 = .ok (.bipush (-2), 2) := by decide +kernel
theorem dX3_next_12 : decode cX3_next 12 = .ok (.ireturn, 1) := by decide +kernel
theorem dX3_next_13 : decode cX3_next 13 = .ok (.aload_n 0, 1) := by decide +kernel
theorem dX3_next_14 : decode cX3_next 14 = .ok (.iconst 0, 1) := by decide +kernel
theorem dX3_next_15 : decode cX3_next 15 = .ok (.bipush 9, 2) := by decide +kernel
theorem dX3_next_17 : decode cX3_next 17 = .ok (.invokevirtual 33, 3) := by decide +kernel
theorem dX3_next_20 : decode cX3_next 20 = .ok (.aload_n 0, 1) := by decide +kernel
theorem dX3_next_21 : decode cX3_next 21 = .ok (.iload_n 1, 1) := by decide +kernel
theorem dX3_next_22 : decode cX3_next 22 = .ok (.invokevirtual 171, 3) := by decide +kernel
theorem dX3_next_25 : decode cX3_next 25 = .ok (.ireturn, 1) := by decide +kernel
theorem dX3_tests_0 : decode cX3_tests 0 = .ok (.aload_n 0, 1) := by decide +kernel
theorem dX3_tests_1 : decode cX3_tests 1 = .ok (.iconst 0, 1) := by decide +kernel
theorem dX3_tests_2 : decode cX3_tests 2 = .ok (.bipush 9, 2) := by decide +kernel
theorem dX3_tests_4 : decode cX3_tests 4 = .ok (.invokevirtual 33, 3) := by decide +kernel
theorem dX3_tests_7 : decode cX3_tests 7 = .ok (.sipush 1332, 3) := by decide +kernel
theorem dX3_tests_10 : decode cX3_tests 10 = .ok (.istore 4, 2) := by decide +kernel
theorem dX3_tests_12 : decode cX3_tests 12 = .ok (.iconst 0, 1) := by decide +kernel
theorem dX3_tests_13 : decode cX3_tests 13 = .ok (.istore 5, 2) := by decide +kernel
theorem dX3_tests_15 : decode cX3_tests 15 = .ok (.iload 5, 2) := by decide +kernel
theorem dX3_tests_17 : decode cX3_tests 17 = .ok (.aload_n 0, 1) := by decide +kernel
theorem dX3_tests_18 : decode cX3_tests 18 = .ok (.getfield 7, 3) := by decide +kernel
theorem dX3_tests_21 : decode cX3_tests 21 = .ok (.iconst 5, 1) := by decide +kernel
theorem dX3_tests_22 : decode cX3_tests 22 = .ok (.iaload, 1) := by decide +kernel
theorem dX3_tests_23 : decode cX3_tests 23 = .ok (.if_icmp .ge 24, 3) := by decide +kernel
theorem dX3_tests_26 : decode cX3_tests 26 = .ok (.aload_n 0, 1) := by decide +kernel
theorem dX3_tests_27 : decode cX3_tests 27 = .ok (.getfield 7, 3) := by decide +kernel
theorem dX3_tests_30 : decode cX3_tests 30 = .ok (.iload 4, 2) := by decide +kernel
theorem dX3_tests_32 : decode cX3_tests 32 = .ok (.iload 5, 2) := by decide +kernel
theorem dX3_tests_34 : decode cX3_tests 34 = .ok (.invokestatic 41, 3) := by decide +kernel
theorem dX3_tests_37 : decode cX3_tests 37 = .ok (.iconst 2, 1) := by decide +kernel
theorem dX3_tests_38 : decode cX3_tests 38 = .ok (.iadd, 1) := by decide +kernel
theorem dX3_tests_39 : decode cX3_tests 39 = .ok (.iconst 0, 1) := by decide +kernel
theorem dX3_tests_40 : decode cX3_tests 40 = .ok (.iastore, 1) := by decide +kernel
theorem dX3_tests_41 : decode cX3_tests 41 = .ok (.iinc 5 1, 3) := by decide +kernel
theorem dX3_tests_44 : decode cX3_tests 44 = .ok (.goto (-29), 3) := by decide +kernel
theorem dX3_tests_47 : decode cX3_tests 47 = .ok (.iconst 0, 1) := by decide +kernel
theorem dX3_tests_48 : decode cX3_tests 48 = .ok (.istore 5, 2) := by decide +kernel
theorem dX3_tests_50 : decode cX3_tests 50 = .ok (.iload 5, 2) := by decide +kernel
theorem dX3_tests_52 : decode cX3_tests 52 = .ok (.aload_n 0, 1) := by decide +kernel
theorem dX3_tests_53 : decode cX3_tests 53 = .ok (.getfield 7, 3) := by decide +kernel
theorem dX3_tests_56 : decode cX3_tests 56 = .ok (.iconst 4, 1) := by decide +kernel
theorem dX3_tests_57 : decode cX3_tests 57 = .ok (.iaload, 1) := by decide +kernel
theorem dX3_tests_58 : decode cX3_tests 58 = .ok (.if_icmp .ge 24, 3) := by decide +kernel
theorem dX3_tests_61 : decode cX3_tests 61 = .ok (.aload_n 0, 1) := by decide +kernel
theorem dX3_tests_62 : decode cX3_tests 62 = .ok (.getfield 7, 3) := by decide +kernel
theorem dX3_tests_65 : decode cX3_tests 65 = .ok (.iload 4, 2) := by decide +kernel
theorem dX3_tests_67 : decode cX3_tests 67 = .ok (.iload 5, 2) := by decide +kernel
theorem dX3_tests_69 : decode cX3_tests 69 = .ok (.invokestatic 37, 3) := by decide +kernel
theorem dX3_tests_72 : decode cX3_tests 72 = .ok (.iconst 4, 1) := by decide +kernel
theorem dX3_tests_73 : decode cX3_tests 73 = .ok (.iadd, 1) := by decide +kernel
theorem dX3_tests_74 : decode cX3_tests 74 = .ok (.iconst 0, 1) := by decide +kernel
theorem dX3_tests_75 : decode cX3_tests 75 = .ok (.iastore, 1) := by decide +kernel
theorem dX3_tests_76 : decode cX3_tests 76 = .ok (.iinc 5 1, 3) := by decide +kernel
theorem dX3_tests_79 : decode cX3_tests 79 = .ok (.goto (-29), 3) := by decide +kernel
theorem dX3_tests_82 : decode cX3_tests 82 = .ok (.aload_n 0, 1) := by decide +kernel
theorem dX3_tests_83 : decode cX3_tests 83 = .ok (.iload_n 1, 1) := by decide +kernel
theorem dX3_tests_84 : decode cX3_tests 84 = .ok (.putfield 20, 3) := by decide +kernel
theorem dX3_tests_87 : decode cX3_tests 87 = .ok (.aload_n 0, 1) := by decide +kernel
theorem dX3_tests_88 : decode cX3_tests 88 = .ok (.iload_n 2, 1) := by decide +kernel
theorem dX3_tests_89 : decode cX3_tests 89 = .ok (.putfield 52, 3) := by decide +kernel
theorem dX3_tests_92 : decode cX3_tests 92 = .ok (.aload_n 0, 1) := by decide +kernel
theorem dX3_tests_93 : decode cX3_tests 93 = .ok (.iload_n 3, 1) := by decide +kernel
theorem dX3_tests_94 : decode cX3_tests 94 = .ok (.invokevirtual 171, 3) := by decide +kernel
theorem dX3_tests_97 : decode cX3_tests 97 = .ok (.istore 5, 2) := by decide +kernel
theorem dX3_tests_99 : decode cX3_tests 99 = .ok (.aload_n 0, 1) := by decide +kernel
theorem dX3_tests_100 : decode cX3_tests 100 = .ok (.bipush (-6), 2) := by decide +kernel
theorem dX3_tests_102 : decode cX3_tests 102 = .ok (.putfield 20, 3) := by decide +kernel
theorem dX3_tests_105 : decode cX3_tests 105 = .ok (.iload 5, 2) := by decide +kernel
theorem dX3_tests_107 : decode cX3_tests 107 = .ok (.ireturn, 1) := by decide +kernel
theorem dX3_test_0 : decode cX3_test 0 = .ok (.aload_n 0, 1) := by decide +kernel
theorem dX3_test_1 : decode cX3_test 1 = .ok (.iload_n 1, 1) := by decide +kernel
theorem dX3_test_2 : decode cX3_test 2 = .ok (.invokevirtual 93, 3) := by decide +kernel
theorem dX3_test_5 : decode cX3_test 5 = .ok (.ifCond .ne 5, 3) := by decide +kernel
theorem dX3_test_8 : decode cX3_test 8 = .ok (.iconst (-1), 1) := by decide +kernel
theorem dX3_test_9 : decode cX3_test 9 = .ok (.ireturn, 1) := by decide +kernel
theorem dX3_test_10 : decode cX3_test 10 = .ok (.iload_n 2, 1) := by decide +kernel
theorem dX3_test_11 : decode cX3_test 11 = .ok (.i2l, 1) := by decide +kernel
theorem dX3_test_12 : decode cX3_test 12 = .ok (.lconst 1, 1) := by decide +kernel
theorem dX3_test_13 : decode cX3_test 13 = .ok (.ldc2_w 174, 3) := by decide +kernel
theorem dX3_test_16 : decode cX3_test 16 = .ok (.invokestatic 85, 3) := by decide +kernel
theorem dX3_test_19 : decode cX3_test 19 = .ok (.ifCond .eq 23, 3) := by decide +kernel
theorem dX3_test_22 : decode cX3_test 22 = .ok (.iload_n 3, 1) := by decide +kernel
theorem dX3_test_23 : decode cX3_test 23 = .ok (.i2l, 1) := by decide +kernel
theorem dX3_test_24 : decode cX3_test 24 = .ok (.lconst 0, 1) := by decide +kernel
theorem dX3_test_25 : decode cX3_test 25 = .ok (.lconst 1, 1) := by decide +kernel
theorem dX3_test_26 : decode cX3_test 26 = .ok (.invokestatic 85, 3) := by decide +kernel
theorem dX3_test_29 : decode cX3_test 29 = .ok (.ifCond .eq 13, 3) := by decide +kernel
theorem dX3_test_32 : decode cX3_test 32 = .ok (.aload_n 0, 1) := by decide +kernel
theorem dX3_test_33 : decode cX3_test 33 = .ok (.iload_n 1, 1) := by decide +kernel
theorem dX3_test_34 : decode cX3_test 34 = .ok (.iload_n 2, 1) := by decide +kernel
theorem dX3_test_35 : decode cX3_test 35 = .ok (.iload_n 3, 1) := by decide +kernel
theorem dX3_test_36 : decode cX3_test 36 = .ok (.invokevirtual 176, 3) := by decide +kernel
theorem dX3_test_39 : decode cX3_test 39 = .ok (.goto 5, 3) := by decide +kernel
theorem dX3_test_42 : decode cX3_test 42 = .ok (.bipush (-2), 2) := by decide +kernel
theorem dX3_test_44 : decode cX3_test 44 = .ok (.ireturn, 1) := by decide +kernel
theorem dX3_unfair_0 : decode cX3_unfair 0 = .ok (.iload_n 1, 1) := by decide +kernel
theorem dX3_unfair_1 : decode cX3_unfair 1 = .ok (.i2l, 1) := by decide +kernel
theorem dX3_unfair_2 : decode cX3_unfair 2 = .ok (.ldc2_w 91, 3) := by decide +kernel
theorem dX3_unfair_5 : decode cX3_unfair 5 = .ok (.ldc2_w 179, 3) := by decide +kernel
theorem dX3_unfair_8 : decode cX3_unfair 8 = .ok (.invokestatic 85, 3) := by decide +kernel
theorem dX3_unfair_11 : decode cX3_unfair 11 = .ok (.ifCond .ne 6, 3) := by decide +kernel
theorem dX3_unfair_14 : decode cX3_unfair 14 = .ok (.bipush (-2), 2) := by decide +kernel
theorem dX3_unfair_16 : decode cX3_unfair 16 = .ok (.ireturn, 1) := by decide +kernel
theorem dX3_unfair_17 : decode cX3_unfair 17 = .ok (.iconst 0, 1) := by decide +kernel
theorem dX3_unfair_18 : decode cX3_unfair 18 = .ok (.istore_n 2, 1) := by decide +kernel
theorem dX3_unfair_19 : decode cX3_unfair 19 = .ok (.iconst 0, 1) := by decide +kernel
theorem dX3_unfair_20 : decode cX3_unfair 20 = .ok (.istore_n 3, 1) := by decide +kernel
theorem dX3_unfair_21 : decode cX3_unfair 21 = .ok (.iload_n 3, 1) := by decide +kernel
theorem dX3_unfair_22 : decode cX3_unfair 22 = .ok (.aload_n 0, 1) := by decide +kernel
theorem dX3_unfair_23 : decode cX3_unfair 23 = .ok (.getfield 7, 3) := by decide +kernel
theorem dX3_unfair_26 : decode cX3_unfair 26 = .ok (.iconst 4, 1) := by decide +kernel
theorem dX3_unfair_27 : decode cX3_unfair 27 = .ok (.iaload, 1) := by decide +kernel
theorem dX3_unfair_28 : decode cX3_unfair 28 = .ok (.if_icmp .ge 57, 3) := by decide +kernel
theorem dX3_unfair_31 : decode cX3_unfair 31 = .ok (.aload_n 0, 1) := by decide +kernel
theorem dX3_unfair_32 : decode cX3_unfair 32 = .ok (.iload_n 3, 1) := by decide +kernel
theorem dX3_unfair_33 : decode cX3_unfair 33 = .ok (.iload_n 1, 1) := by decide +kernel
theorem dX3_unfair_34 : decode cX3_unfair 34 = .ok (.aload_n 0, 1) := by decide +kernel
theorem dX3_unfair_35 : decode cX3_unfair 35 = .ok (.getfield 7, 3) := by decide +kernel
theorem dX3_unfair_38 : decode cX3_unfair 38 = .ok (.iconst 0, 1) := by decide +kernel
theorem dX3_unfair_39 : decode cX3_unfair 39 = .ok (.iload_n 3, 1) := by decide +kernel
theorem dX3_unfair_40 : decode cX3_unfair 40 = .ok (.invokestatic 37, 3) := by decide +kernel
theorem dX3_unfair_43 : decode cX3_unfair 43 = .ok (.iconst 1, 1) := by decide +kernel
theorem dX3_unfair_44 : decode cX3_unfair 44 = .ok (.iadd, 1) := by decide +kernel
theorem dX3_unfair_45 : decode cX3_unfair 45 = .ok (.iaload, 1) := by decide +kernel
theorem dX3_unfair_46 : decode cX3_unfair 46 = .ok (.imul, 1) := by decide +kernel
theorem dX3_unfair_47 : decode cX3_unfair 47 = .ok (.iconst 1, 1) := by decide +kernel
theorem dX3_unfair_48 : decode cX3_unfair 48 = .ok (.invokevirtual 176, 3) := by decide +kernel
theorem dX3_unfair_51 : decode cX3_unfair 51 = .ok (.istore 4, 2) := by decide +kernel
theorem dX3_unfair_53 : decode cX3_unfair 53 = .ok (.iload_n 2, 1) := by decide +kernel
theorem dX3_unfair_54 : decode cX3_unfair 54 = .ok (.iload 4, 2) := by decide +kernel
theorem dX3_unfair_56 : decode cX3_unfair 56 = .ok (.bipush (-6), 2) := by decide +kernel
theorem dX3_unfair_58 : decode cX3_unfair 58 = .ok (.if_icmp .eq 13, 3) := by decide +kernel
theorem dX3_unfair_61 : decode cX3_unfair 61 = .ok (.iload 4, 2) := by decide +kernel
theorem dX3_unfair_63 : decode cX3_unfair 63 = .ok (.iload_n 3, 1) := by decide +kernel
theorem dX3_unfair_64 : decode cX3_unfair 64 = .ok (.if_icmp .eq 7, 3) := by decide +kernel
theorem dX3_unfair_67 : decode cX3_unfair 67 = .ok (.iconst 1, 1) := by decide +kernel
theorem dX3_unfair_68 : decode cX3_unfair 68 = .ok (.goto 4, 3) := by decide +kernel
theorem dX3_unfair_71 : decode cX3_unfair 71 = .ok (.iconst 0, 1) := by decide +kernel
theorem dX3_unfair_72 : decode cX3_unfair 72 = .ok (.invokestatic 56, 3) := by decide +kernel
theorem dX3_unfair_75 : decode cX3_unfair 75 = .ok (.iload_n 3, 1) := by decide +kernel
theorem dX3_unfair_76 : decode cX3_unfair 76 = .ok (.ishl, 1) := by decide +kernel
theorem dX3_unfair_77 : decode cX3_unfair 77 = .ok (.ior, 1) := by decide +kernel
theorem dX3_unfair_78 : decode cX3_unfair 78 = .ok (.istore_n 2, 1) := by decide +kernel
theorem dX3_unfair_79 : decode cX3_unfair 79 = .ok (.iinc 3 1, 3) := by decide +kernel
theorem dX3_unfair_82 : decode cX3_unfair 82 = .ok (.goto (-61), 3) := by decide +kernel
theorem dX3_unfair_85 : decode cX3_unfair 85 = .ok (.iload_n 2, 1) := by decide +kernel
theorem dX3_unfair_86 : decode cX3_unfair 86 = .ok (.ireturn, 1) := by decide +kernel
theorem dX3_ifOpen_0 : decode cX3_ifOpen 0 = .ok (.aload_n 0, 1) := by decide +kernel
theorem dX3_ifOpen_1 : decode cX3_ifOpen 1 = .ok (.iload_n 1, 1) := by decide +kernel
theorem dX3_ifOpen_2 : decode cX3_ifOpen 2 = .ok (.invokevirtual 93, 3) := by decide +kernel
theorem dX3_ifOpen_5 : decode cX3_ifOpen 5 = .ok (.ifCond .ne 5, 3) := by decide +kernel
theorem dX3_ifOpen_8 : decode cX3_ifOpen 8 = .ok (.iconst (-1), 1) := by decide +kernel
theorem dX3_ifOpen_9 : decode cX3_ifOpen 9 = .ok (.ireturn, 1) := by decide +kernel
theorem dX3_ifOpen_10 : decode cX3_ifOpen 10 = .ok (.iconst 0, 1) := by decide +kernel
theorem dX3_ifOpen_11 : decode cX3_ifOpen 11 = .ok (.istore_n 2, 1) := by decide +kernel
theorem dX3_ifOpen_12 : decode cX3_ifOpen 12 = .ok (.iconst 0, 1) := by decide +kernel
theorem dX3_ifOpen_13 : decode cX3_ifOpen 13 = .ok (.istore_n 3, 1) := by decide +kernel
theorem dX3_ifOpen_14 : decode cX3_ifOpen 14 = .ok (.iload_n 3, 1) := by decide +kernel
theorem dX3_ifOpen_15 : decode cX3_ifOpen 15 = .ok (.aload_n 0, 1) := by decide +kernel
theorem dX3_ifOpen_16 : decode cX3_ifOpen 16 = .ok (.getfield 7, 3) := by decide +kernel
theorem dX3_ifOpen_19 : decode cX3_ifOpen 19 = .ok (.iconst 5, 1) := by decide +kernel
theorem dX3_ifOpen_20 : decode cX3_ifOpen 20 = .ok (.iaload, 1) := by decide +kernel
theorem dX3_ifOpen_21 : decode cX3_ifOpen 21 = .ok (.if_icmp .ge 49, 3) := by decide +kernel
theorem dX3_ifOpen_24 : decode cX3_ifOpen 24 = .ok (.iload_n 2, 1) := by decide +kernel
theorem dX3_ifOpen_25 : decode cX3_ifOpen 25 = .ok (.aload_n 0, 1) := by decide +kernel
theorem dX3_ifOpen_26 : decode cX3_ifOpen 26 = .ok (.iload_n 3, 1) := by decide +kernel
theorem dX3_ifOpen_27 : decode cX3_ifOpen 27 = .ok (.invokevirtual 155, 3) := by decide +kernel
theorem dX3_ifOpen_30 : decode cX3_ifOpen 30 = .ok (.ifCond .eq 26, 3) := by decide +kernel
theorem dX3_ifOpen_33 : decode cX3_ifOpen 33 = .ok (.aload_n 0, 1) := by decide +kernel
theorem dX3_ifOpen_34 : decode cX3_ifOpen 34 = .ok (.iconst 0, 1) := by decide +kernel
theorem dX3_ifOpen_35 : decode cX3_ifOpen 35 = .ok (.aload_n 0, 1) := by decide +kernel
theorem dX3_ifOpen_36 : decode cX3_ifOpen 36 = .ok (.getfield 7, 3) := by decide +kernel
theorem dX3_ifOpen_39 : decode cX3_ifOpen 39 = .ok (.iconst 0, 1) := by decide +kernel
theorem dX3_ifOpen_40 : decode cX3_ifOpen 40 = .ok (.iload_n 3, 1) := by decide +kernel
theorem dX3_ifOpen_41 : decode cX3_ifOpen 41 = .ok (.invokestatic 41, 3) := by decide +kernel
theorem dX3_ifOpen_44 : decode cX3_ifOpen 44 = .ok (.iaload, 1) := by decide +kernel
theorem dX3_ifOpen_45 : decode cX3_ifOpen 45 = .ok (.iload_n 1, 1) := by decide +kernel
theorem dX3_ifOpen_46 : decode cX3_ifOpen 46 = .ok (.invokevirtual 44, 3) := by decide +kernel
theorem dX3_ifOpen_49 : decode cX3_ifOpen 49 = .ok (.ifCond .eq 7, 3) := by decide +kernel
theorem dX3_ifOpen_52 : decode cX3_ifOpen 52 = .ok (.iconst 1, 1) := by decide +kernel
theorem dX3_ifOpen_53 : decode cX3_ifOpen 53 = .ok (.goto 4, 3) := by decide +kernel
theorem dX3_ifOpen_56 : decode cX3_ifOpen 56 = .ok (.iconst 0, 1) := by decide +kernel
theorem dX3_ifOpen_57 : decode cX3_ifOpen 57 = .ok (.invokestatic 56, 3) := by decide +kernel
theorem dX3_ifOpen_60 : decode cX3_ifOpen 60 = .ok (.iload_n 3, 1) := by decide +kernel
theorem dX3_ifOpen_61 : decode cX3_ifOpen 61 = .ok (.ishl, 1) := by decide +kernel
theorem dX3_ifOpen_62 : decode cX3_ifOpen 62 = .ok (.ior, 1) := by decide +kernel
theorem dX3_ifOpen_63 : decode cX3_ifOpen 63 = .ok (.istore_n 2, 1) := by decide +kernel
theorem dX3_ifOpen_64 : decode cX3_ifOpen 64 = .ok (.iinc 3 1, 3) := by decide +kernel
theorem dX3_ifOpen_67 : decode cX3_ifOpen 67 = .ok (.goto (-53), 3) := by decide +kernel
theorem dX3_ifOpen_70 : decode cX3_ifOpen 70 = .ok (.iload_n 2, 1) := by decide +kernel
theorem dX3_ifOpen_71 : decode cX3_ifOpen 71 = .ok (.ireturn, 1) := by decide +kernel
theorem dX3_charactersOf_0 : decode cX3_charactersOf 0 = .ok (.lload_n 0, 1) := by decide +kernel
theorem dX3_charactersOf_1 : decode cX3_charactersOf 1 = .ok (.lstore_n 2, 1) := by decide +kernel
theorem dX3_charactersOf_2 : decode cX3_charactersOf 2 = .ok (.iconst 0, 1) := by decide +kernel
theorem dX3_charactersOf_3 : decode cX3_charactersOf 3 = .ok (.istore 4, 2) := by decide +kernel
theorem dX3_charactersOf_5 : decode cX3_charactersOf 5 = .ok (.iload 4, 2) := by decide +kernel
theorem dX3_charactersOf_7 : decode cX3_charactersOf 7 = .ok (.bipush 8, 2) := by decide +kernel
theorem dX3_charactersOf_9 : decode cX3_charactersOf 9 = .ok (.if_icmp .ge 31, 3) := by decide +kernel
theorem dX3_charactersOf_12 : decode cX3_charactersOf 12 = .ok (.lload_n 2, 1) := by decide +kernel
theorem dX3_charactersOf_13 : decode cX3_charactersOf 13 = .ok (.ldc2_w 181, 3) := by decide +kernel
theorem dX3_charactersOf_16 : decode cX3_charactersOf 16 = .ok (.land, 1) := by decide +kernel
theorem dX3_charactersOf_17 : decode cX3_charactersOf 17 = .ok (.ldc2_w 183, 3) := by decide +kernel
theorem dX3_charactersOf_20 : decode cX3_charactersOf 20 = .ok (.ldc2_w 185, 3) := by decide +kernel
theorem dX3_charactersOf_23 : decode cX3_charactersOf 23 = .ok (.invokestatic 85, 3) := by decide +kernel
theorem dX3_charactersOf_26 : decode cX3_charactersOf 26 = .ok (.ifCond .eq 14, 3) := by decide +kernel
theorem dX3_charactersOf_29 : decode cX3_charactersOf 29 = .ok (.lload_n 2, 1) := by decide +kernel
theorem dX3_charactersOf_30 : decode cX3_charactersOf 30 = .ok (.bipush 8, 2) := by decide +kernel
theorem dX3_charactersOf_32 : decode cX3_charactersOf 32 = .ok (.lushr, 1) := by decide +kernel
theorem dX3_charactersOf_33 : decode cX3_charactersOf 33 = .ok (.lstore_n 2, 1) := by decide +kernel
theorem dX3_charactersOf_34 : decode cX3_charactersOf 34 = .ok (.iinc 4 1, 3) := by decide +kernel
theorem dX3_charactersOf_37 : decode cX3_charactersOf 37 = .ok (.goto (-32), 3) := by decide +kernel
theorem dX3_charactersOf_40 : decode cX3_charactersOf 40 = .ok (.lload_n 2, 1) := by decide +kernel
theorem dX3_charactersOf_41 : decode cX3_charactersOf 41 = .ok (.lconst 0, 1) := by decide +kernel
theorem dX3_charactersOf_42 : decode cX3_charactersOf 42 = .ok (.lcmp, 1) := by decide +kernel
theorem dX3_charactersOf_43 : decode cX3_charactersOf 43 = .ok (.ifCond .ne 8, 3) := by decide +kernel
theorem dX3_charactersOf_46 : decode cX3_charactersOf 46 = .ok (.iload 4, 2) := by decide +kernel
theorem dX3_charactersOf_48 : decode cX3_charactersOf 48 = .ok (.goto 4, 3) := by decide +kernel
theorem dX3_charactersOf_51 : decode cX3_charactersOf 51 = .ok (.iconst 0, 1) := by decide +kernel
theorem dX3_charactersOf_52 : decode cX3_charactersOf 52 = .ok (.ireturn, 1) := by decide +kernel
theorem dX3_put_0 : decode cX3_put 0 = .ok (.lload_n 1, 1) := by decide +kernel
theorem dX3_put_1 : decode cX3_put 1 = .ok (.invokestatic 187, 3) := by decide +kernel
theorem dX3_put_4 : decode cX3_put 4 = .ok (.istore_n 3, 1) := by decide +kernel
theorem dX3_put_5 : decode cX3_put 5 = .ok (.iload_n 3, 1) := by decide +kernel
theorem dX3_put_6 : decode cX3_put 6 = .ok (.ifCond .ne 6, 3) := by decide +kernel
theorem dX3_put_9 : decode cX3_put 9 = .ok (.bipush (-2), 2) := by decide +kernel
theorem dX3_put_11 : decode cX3_put 11 = .ok (.ireturn, 1) := by decide +kernel
theorem dX3_put_12 : decode cX3_put 12 = .ok (.aload_n 0, 1) := by decide +kernel
theorem dX3_put_13 : decode cX3_put 13 = .ok (.getfield 165, 3) := by decide +kernel
theorem dX3_put_16 : decode cX3_put 16 = .ok (.iload_n 3, 1) := by decide +kernel
theorem dX3_put_17 : decode cX3_put 17 = .ok (.iadd, 1) := by decide +kernel
theorem dX3_put_18 : decode cX3_put 18 = .ok (.bipush 80, 2) := by decide +kernel
theorem dX3_put_20 : decode cX3_put 20 = .ok (.if_icmp .le 6, 3) := by decide +kernel
theorem dX3_put_23 : decode cX3_put 23 = .ok (.bipush (-4), 2) := by decide +kernel
theorem dX3_put_25 : decode cX3_put 25 = .ok (.ireturn, 1) := by decide +kernel
theorem dX3_put_26 : decode cX3_put 26 = .ok (.iconst 0, 1) := by decide +kernel
theorem dX3_put_27 : decode cX3_put 27 = .ok (.istore 4, 2) := by decide +kernel
theorem dX3_put_29 : decode cX3_put 29 = .ok (.iload 4, 2) := by decide +kernel
theorem dX3_put_31 : decode cX3_put 31 = .ok (.iload_n 3, 1) := by decide +kernel
theorem dX3_put_32 : decode cX3_put 32 = .ok (.if_icmp .ge 37, 3) := by decide +kernel
theorem dX3_put_35 : decode cX3_put 35 = .ok (.aload_n 0, 1) := by decide +kernel
theorem dX3_put_36 : decode cX3_put 36 = .ok (.getfield 17, 3) := by decide +kernel
theorem dX3_put_39 : decode cX3_put 39 = .ok (.aload_n 0, 1) := by decide +kernel
theorem dX3_put_40 : decode cX3_put 40 = .ok (.getfield 165, 3) := by decide +kernel
theorem dX3_put_43 : decode cX3_put 43 = .ok (.iload 4, 2) := by decide +kernel
theorem dX3_put_45 : decode cX3_put 45 = .ok (.iadd, 1) := by decide +kernel
theorem dX3_put_46 : decode cX3_put 46 = .ok (.lload_n 1, 1) := by decide +kernel
theorem dX3_put_47 : decode cX3_put 47 = .ok (.bipush 8, 2) := by decide +kernel
theorem dX3_put_49 : decode cX3_put 49 = .ok (.iload_n 3, 1) := by decide +kernel
theorem dX3_put_50 : decode cX3_put 50 = .ok (.iconst 1, 1) := by decide +kernel
theorem dX3_put_51 : decode cX3_put 51 = .ok (.isub, 1) := by decide +kernel
theorem dX3_put_52 : decode cX3_put 52 = .ok (.iload 4, 2) := by decide +kernel
theorem dX3_put_54 : decode cX3_put 54 = .ok (.isub, 1) := by decide +kernel
theorem dX3_put_55 : decode cX3_put 55 = .ok (.imul, 1) := by decide +kernel
theorem dX3_put_56 : decode cX3_put 56 = .ok (.lushr, 1) := by decide +kernel
theorem dX3_put_57 : decode cX3_put 57 = .ok (.ldc2_w 181, 3) := by decide +kernel
theorem dX3_put_60 : decode cX3_put 60 = .ok (.land, 1) := by decide +kernel
theorem dX3_put_61 : decode cX3_put 61 = .ok (.l2i, 1) := by decide +kernel
theorem dX3_put_62 : decode cX3_put 62 = .ok (.iastore, 1) := by decide +kernel
theorem dX3_put_63 : decode cX3_put 63 = .ok (.iinc 4 1, 3) := by decide +kernel
theorem dX3_put_66 : decode cX3_put 66 = .ok (.goto (-37), 3) := by decide +kernel
theorem dX3_put_69 : decode cX3_put 69 = .ok (.aload_n 0, 1) := by decide +kernel
theorem dX3_put_70 : decode cX3_put 70 = .ok (.dup, 1) := by decide +kernel
theorem dX3_put_71 : decode cX3_put 71 = .ok (.getfield 165, 3) := by decide +kernel
theorem dX3_put_74 : decode cX3_put 74 = .ok (.iload_n 3, 1) := by decide +kernel
theorem dX3_put_75 : decode cX3_put 75 = .ok (.iadd, 1) := by decide +kernel
theorem dX3_put_76 : decode cX3_put 76 = .ok (.putfield 165, 3) := by decide +kernel
theorem dX3_put_79 : decode cX3_put 79 = .ok (.aload_n 0, 1) := by decide +kernel
theorem dX3_put_80 : decode cX3_put 80 = .ok (.getfield 165, 3) := by decide +kernel
theorem dX3_put_83 : decode cX3_put 83 = .ok (.ireturn, 1) := by decide +kernel
theorem dX3_wipe_0 : decode cX3_wipe 0 = .ok (.aload_n 0, 1) := by decide +kernel
theorem dX3_wipe_1 : decode cX3_wipe 1 = .ok (.getfield 165, 3) := by decide +kernel
theorem dX3_wipe_4 : decode cX3_wipe 4 = .ok (.istore_n 1, 1) := by decide +kernel
theorem dX3_wipe_5 : decode cX3_wipe 5 = .ok (.aload_n 0, 1) := by decide +kernel
theorem dX3_wipe_6 : decode cX3_wipe 6 = .ok (.iconst 0, 1) := by decide +kernel
theorem dX3_wipe_7 : decode cX3_wipe 7 = .ok (.putfield 165, 3) := by decide +kernel
theorem dX3_wipe_10 : decode cX3_wipe 10 = .ok (.iload_n 1, 1) := by decide +kernel
theorem dX3_wipe_11 : decode cX3_wipe 11 = .ok (.ireturn, 1) := by decide +kernel
theorem dX3_isHere_0 : decode cX3_isHere 0 = .ok (.aload_n 0, 1) := by decide +kernel
theorem dX3_isHere_1 : decode cX3_isHere 1 = .ok (.getfield 191, 3) := by decide +kernel
theorem dX3_isHere_4 : decode cX3_isHere 4 = .ok (.aload_n 0, 1) := by decide +kernel
theorem dX3_isHere_5 : decode cX3_isHere 5 = .ok (.getfield 165, 3) := by decide +kernel
theorem dX3_isHere_8 : decode cX3_isHere 8 = .ok (.if_icmp .ge 27, 3) := by decide +kernel
theorem dX3_isHere_11 : decode cX3_isHere 11 = .ok (.aload_n 0, 1) := by decide +kernel
theorem dX3_isHere_12 : decode cX3_isHere 12 = .ok (.getfield 17, 3) := by decide +kernel
theorem dX3_isHere_15 : decode cX3_isHere 15 = .ok (.aload_n 0, 1) := by decide +kernel
theorem dX3_isHere_16 : decode cX3_isHere 16 = .ok (.getfield 191, 3) := by decide +kernel
theorem dX3_isHere_19 : decode cX3_isHere 19 = .ok (.iaload, 1) := by decide +kernel
theorem dX3_isHere_20 : decode cX3_isHere 20 = .ok (.i2l, 1) := by decide +kernel
theorem dX3_isHere_21 : decode cX3_isHere 21 = .ok (.iload_n 1, 1) := by decide +kernel
theorem dX3_isHere_22 : decode cX3_isHere 22 = .ok (.i2l, 1) := by decide +kernel
theorem dX3_isHere_23 : decode cX3_isHere 23 = .ok (.iload_n 2, 1) := by decide +kernel
theorem dX3_isHere_24 : decode cX3_isHere 24 = .ok (.i2l, 1) := by decide +kernel
theorem dX3_isHere_25 : decode cX3_isHere 25 = .ok (.invokestatic 85, 3) := by decide +kernel
theorem dX3_isHere_28 : decode cX3_isHere 28 = .ok (.ifCond .eq 7, 3) := by decide +kernel
theorem dX3_isHere_31 : decode cX3_isHere 31 = .ok (.iconst 1, 1) := by decide +kernel
theorem dX3_isHere_32 : decode cX3_isHere 32 = .ok (.goto 4, 3) := by decide +kernel
theorem dX3_isHere_35 : decode cX3_isHere 35 = .ok (.iconst 0, 1) := by decide +kernel
theorem dX3_isHere_36 : decode cX3_isHere 36 = .ok (.ireturn, 1) := by decide +kernel
theorem dX3_takes_0 : decode cX3_takes 0 = .ok (.aload_n 0, 1) := by decide +kernel
theorem dX3_takes_1 : decode cX3_takes 1 = .ok (.iload_n 1, 1) := by decide +kernel
theorem dX3_takes_2 : decode cX3_takes 2 = .ok (.iload_n 1, 1) := by decide +kernel
theorem dX3_takes_3 : decode cX3_takes 3 = .ok (.invokevirtual 194, 3) := by decide +kernel
theorem dX3_takes_6 : decode cX3_takes 6 = .ok (.istore_n 2, 1) := by decide +kernel
theorem dX3_takes_7 : decode cX3_takes 7 = .ok (.aload_n 0, 1) := by decide +kernel
theorem dX3_takes_8 : decode cX3_takes 8 = .ok (.dup, 1) := by decide +kernel
theorem dX3_takes_9 : decode cX3_takes 9 = .ok (.getfield 191, 3) := by decide +kernel
theorem dX3_takes_12 : decode cX3_takes 12 = .ok (.iload_n 2, 1) := by decide +kernel
theorem dX3_takes_13 : decode cX3_takes 13 = .ok (.invokestatic 56, 3) := by decide +kernel
theorem dX3_takes_16 : decode cX3_takes 16 = .ok (.iadd, 1) := by decide +kernel
theorem dX3_takes_17 : decode cX3_takes 17 = .ok (.putfield 191, 3) := by decide +kernel
theorem dX3_takes_20 : decode cX3_takes 20 = .ok (.iload_n 2, 1) := by decide +kernel
theorem dX3_takes_21 : decode cX3_takes 21 = .ok (.ireturn, 1) := by decide +kernel
theorem dX3_digit_0 : decode cX3_digit 0 = .ok (.aload_n 0, 1) := by decide +kernel
theorem dX3_digit_1 : decode cX3_digit 1 = .ok (.bipush 48, 2) := by decide +kernel
theorem dX3_digit_3 : decode cX3_digit 3 = .ok (.bipush 57, 2) := by decide +kernel
theorem dX3_digit_5 : decode cX3_digit 5 = .ok (.invokevirtual 194, 3) := by decide +kernel
theorem dX3_digit_8 : decode cX3_digit 8 = .ok (.ifCond .eq 18, 3) := by decide +kernel
theorem dX3_digit_11 : decode cX3_digit 11 = .ok (.aload_n 0, 1) := by decide +kernel
theorem dX3_digit_12 : decode cX3_digit 12 = .ok (.getfield 17, 3) := by decide +kernel
theorem dX3_digit_15 : decode cX3_digit 15 = .ok (.aload_n 0, 1) := by decide +kernel
theorem dX3_digit_16 : decode cX3_digit 16 = .ok (.getfield 191, 3) := by decide +kernel
theorem dX3_digit_19 : decode cX3_digit 19 = .ok (.iaload, 1) := by decide +kernel
theorem dX3_digit_20 : decode cX3_digit 20 = .ok (.bipush 48, 2) := by decide +kernel
theorem dX3_digit_22 : decode cX3_digit 22 = .ok (.isub, 1) := by decide +kernel
theorem dX3_digit_23 : decode cX3_digit 23 = .ok (.goto 5, 3) := by decide +kernel
theorem dX3_digit_26 : decode cX3_digit 26 = .ok (.bipush (-6), 2) := by decide +kernel
theorem dX3_digit_28 : decode cX3_digit 28 = .ok (.istore_n 1, 1) := by decide +kernel
theorem dX3_digit_29 : decode cX3_digit 29 = .ok (.aload_n 0, 1) := by decide +kernel
theorem dX3_digit_30 : decode cX3_digit 30 = .ok (.dup, 1) := by decide +kernel
theorem dX3_digit_31 : decode cX3_digit 31 = .ok (.getfield 191, 3) := by decide +kernel
theorem dX3_digit_34 : decode cX3_digit 34 = .ok (.iload_n 1, 1) := by decide +kernel
theorem dX3_digit_35 : decode cX3_digit 35 = .ok (.bipush (-6), 2) := by decide +kernel
theorem dX3_digit_37 : decode cX3_digit 37 = .ok (.if_icmp .eq 7, 3) := by decide +kernel
theorem dX3_digit_40 : decode cX3_digit 40 = .ok (.iconst 1, 1) := by decide +kernel
theorem dX3_digit_41 : decode cX3_digit 41 = .ok (.goto 4, 3) := by decide +kernel
theorem dX3_digit_44 : decode cX3_digit 44 = .ok (.iconst 0, 1) := by decide +kernel
theorem dX3_digit_45 : decode cX3_digit 45 = .ok (.invokestatic 56, 3) := by decide +kernel
theorem dX3_digit_48 : decode cX3_digit 48 = .ok (.iadd, 1) := by decide +kernel
theorem dX3_digit_49 : decode cX3_digit 49 = .ok (.putfield 191, 3) := by decide +kernel
theorem dX3_digit_52 : decode cX3_digit 52 = .ok (.iload_n 1, 1) := by decide +kernel
theorem dX3_digit_53 : decode cX3_digit 53 = .ok (.ireturn, 1) := by decide +kernel
theorem dX3_number_0 : decode cX3_number 0 = .ok (.aload_n 0, 1) := by decide +kernel
theorem dX3_number_1 : decode cX3_number 1 = .ok (.invokevirtual 197, 3) := by decide +kernel
theorem dX3_number_4 : decode cX3_number 4 = .ok (.istore_n 1, 1) := by decide +kernel
theorem dX3_number_5 : decode cX3_number 5 = .ok (.iload_n 1, 1) := by decide +kernel
theorem dX3_number_6 : decode cX3_number 6 = .ok (.i2l, 1) := by decide +kernel
theorem dX3_number_7 : decode cX3_number 7 = .ok (.lconst 1, 1) := by decide +kernel
theorem dX3_number_8 : decode cX3_number 8 = .ok (.ldc2_w 105, 3) := by decide +kernel
theorem dX3_number_11 : decode cX3_number 11 = .ok (.invokestatic 85, 3) := by decide +kernel
theorem dX3_number_14 : decode cX3_number 14 = .ok (.ifCond .eq 45, 3) := by decide +kernel
theorem dX3_number_17 : decode cX3_number 17 = .ok (.aload_n 0, 1) := by decide +kernel
theorem dX3_number_18 : decode cX3_number 18 = .ok (.bipush 48, 2) := by decide +kernel
theorem dX3_number_20 : decode cX3_number 20 = .ok (.bipush 57, 2) := by decide +kernel
theorem dX3_number_22 : decode cX3_number 22 = .ok (.invokevirtual 194, 3) := by decide +kernel
theorem dX3_number_25 : decode cX3_number 25 = .ok (.ifCond .eq 34, 3) := by decide +kernel
theorem dX3_number_28 : decode cX3_number 28 = .ok (.bipush 10, 2) := by decide +kernel
theorem dX3_number_30 : decode cX3_number 30 = .ok (.iload_n 1, 1) := by decide +kernel
theorem dX3_number_31 : decode cX3_number 31 = .ok (.imul, 1) := by decide +kernel
theorem dX3_number_32 : decode cX3_number 32 = .ok (.aload_n 0, 1) := by decide +kernel
theorem dX3_number_33 : decode cX3_number 33 = .ok (.getfield 17, 3) := by decide +kernel
theorem dX3_number_36 : decode cX3_number 36 = .ok (.aload_n 0, 1) := by decide +kernel
theorem dX3_number_37 : decode cX3_number 37 = .ok (.getfield 191, 3) := by decide +kernel
theorem dX3_number_40 : decode cX3_number 40 = .ok (.iaload, 1) := by decide +kernel
theorem dX3_number_41 : decode cX3_number 41 = .ok (.iadd, 1) := by decide +kernel
theorem dX3_number_42 : decode cX3_number 42 = .ok (.bipush 48, 2) := by decide +kernel
theorem dX3_number_44 : decode cX3_number 44 = .ok (.isub, 1) := by decide +kernel
theorem dX3_number_45 : decode cX3_number 45 = .ok (.istore_n 1, 1) := by decide +kernel
theorem dX3_number_46 : decode cX3_number 46 = .ok (.aload_n 0, 1) := by decide +kernel
theorem dX3_number_47 : decode cX3_number 47 = .ok (.dup, 1) := by decide +kernel
theorem dX3_number_48 : decode cX3_number 48 = .ok (.getfield 191, 3) := by decide +kernel
theorem dX3_number_51 : decode cX3_number 51 = .ok (.iconst 1, 1) := by decide +kernel
theorem dX3_number_52 : decode cX3_number 52 = .ok (.iadd, 1) := by decide +kernel
theorem dX3_number_53 : decode cX3_number 53 = .ok (.putfield 191, 3) := by decide +kernel
theorem dX3_number_56 : decode cX3_number 56 = .ok (.goto (-51), 3) := by decide +kernel
theorem dX3_number_59 : decode cX3_number 59 = .ok (.iload_n 1, 1) := by decide +kernel
theorem dX3_number_60 : decode cX3_number 60 = .ok (.ireturn, 1) := by decide +kernel
theorem dX3_readsKind_0 : decode cX3_readsKind 0 = .ok (.aload_n 0, 1) := by decide +kernel
theorem dX3_readsKind_1 : decode cX3_readsKind 1 = .ok (.aload_n 0, 1) := by decide +kernel
theorem dX3_readsKind_2 : decode cX3_readsKind 2 = .ok (.bipush 113, 2) := by decide +kernel
theorem dX3_readsKind_4 : decode cX3_readsKind 4 = .ok (.invokevirtual 200, 3) := by decide +kernel
theorem dX3_readsKind_7 : decode cX3_readsKind 7 = .ok (.ifCond .eq 7, 3) := by decide +kernel
theorem dX3_readsKind_10 : decode cX3_readsKind 10 = .ok (.iconst 0, 1) := by decide +kernel
theorem dX3_readsKind_11 : decode cX3_readsKind 11 = .ok (.goto 31, 3) := by decide +kernel
theorem dX3_readsKind_14 : decode cX3_readsKind 14 = .ok (.aload_n 0, 1) := by decide +kernel
theorem dX3_readsKind_15 : decode cX3_readsKind 15 = .ok (.bipush 115, 2) := by decide +kernel
theorem dX3_readsKind_17 : decode cX3_readsKind 17 = .ok (.invokevirtual 200, 3) := by decide +kernel
theorem dX3_readsKind_20 : decode cX3_readsKind 20 = .ok (.ifCond .eq 7, 3) := by decide +kernel
theorem dX3_readsKind_23 : decode cX3_readsKind 23 = .ok (.iconst 1, 1) := by decide +kernel
theorem dX3_readsKind_24 : decode cX3_readsKind 24 = .ok (.goto 18, 3) := by decide +kernel
theorem dX3_readsKind_27 : decode cX3_readsKind 27 = .ok (.aload_n 0, 1) := by decide +kernel
theorem dX3_readsKind_28 : decode cX3_readsKind 28 = .ok (.bipush 111, 2) := by decide +kernel
theorem dX3_readsKind_30 : decode cX3_readsKind 30 = .ok (.invokevirtual 200, 3) := by decide +kernel
theorem dX3_readsKind_33 : decode cX3_readsKind 33 = .ok (.ifCond .eq 7, 3) := by decide +kernel
theorem dX3_readsKind_36 : decode cX3_readsKind 36 = .ok (.iconst 2, 1) := by decide +kernel
theorem dX3_readsKind_37 : decode cX3_readsKind 37 = .ok (.goto 5, 3) := by decide +kernel
theorem dX3_readsKind_40 : decode cX3_readsKind 40 = .ok (.bipush (-6), 2) := by decide +kernel
theorem dX3_readsKind_42 : decode cX3_readsKind 42 = .ok (.putfield 203, 3) := by decide +kernel
theorem dX3_readsKind_45 : decode cX3_readsKind 45 = .ok (.aload_n 0, 1) := by decide +kernel
theorem dX3_readsKind_46 : decode cX3_readsKind 46 = .ok (.getfield 203, 3) := by decide +kernel
theorem dX3_readsKind_49 : decode cX3_readsKind 49 = .ok (.bipush (-6), 2) := by decide +kernel
theorem dX3_readsKind_51 : decode cX3_readsKind 51 = .ok (.if_icmp .eq 7, 3) := by decide +kernel
theorem dX3_readsKind_54 : decode cX3_readsKind 54 = .ok (.iconst 1, 1) := by decide +kernel
theorem dX3_readsKind_55 : decode cX3_readsKind 55 = .ok (.goto 4, 3) := by decide +kernel
theorem dX3_readsKind_58 : decode cX3_readsKind 58 = .ok (.iconst 0, 1) := by decide +kernel
theorem dX3_readsKind_59 : decode cX3_readsKind 59 = .ok (.ireturn, 1) := by decide +kernel
theorem dX3_readsFuse_0 : decode cX3_readsFuse 0 = .ok (.aload_n 0, 1) := by decide +kernel
theorem dX3_readsFuse_1 : decode cX3_readsFuse 1 = .ok (.aload_n 0, 1) := by decide +kernel
theorem dX3_readsFuse_2 : decode cX3_readsFuse 2 = .ok (.invokevirtual 197, 3) := by decide +kernel
theorem dX3_readsFuse_5 : decode cX3_readsFuse 5 = .ok (.putfield 206, 3) := by decide +kernel
theorem dX3_readsFuse_8 : decode cX3_readsFuse 8 = .ok (.aload_n 0, 1) := by decide +kernel
theorem dX3_readsFuse_9 : decode cX3_readsFuse 9 = .ok (.aload_n 0, 1) := by decide +kernel
theorem dX3_readsFuse_10 : decode cX3_readsFuse 10 = .ok (.getfield 206, 3) := by decide +kernel
theorem dX3_readsFuse_13 : decode cX3_readsFuse 13 = .ok (.bipush (-6), 2) := by decide +kernel
theorem dX3_readsFuse_15 : decode cX3_readsFuse 15 = .ok (.if_icmp .eq 19, 3) := by decide +kernel
theorem dX3_readsFuse_18 : decode cX3_readsFuse 18 = .ok (.aload_n 0, 1) := by decide +kernel
theorem dX3_readsFuse_19 : decode cX3_readsFuse 19 = .ok (.bipush 46, 2) := by decide +kernel
theorem dX3_readsFuse_21 : decode cX3_readsFuse 21 = .ok (.invokevirtual 200, 3) := by decide +kernel
theorem dX3_readsFuse_24 : decode cX3_readsFuse 24 = .ok (.ifCond .eq 10, 3) := by decide +kernel
theorem dX3_readsFuse_27 : decode cX3_readsFuse 27 = .ok (.aload_n 0, 1) := by decide +kernel
theorem dX3_readsFuse_28 : decode cX3_readsFuse 28 = .ok (.invokevirtual 209, 3) := by decide +kernel
theorem dX3_readsFuse_31 : decode cX3_readsFuse 31 = .ok (.goto 5, 3) := by decide +kernel
theorem dX3_readsFuse_34 : decode cX3_readsFuse 34 = .ok (.bipush (-6), 2) := by decide +kernel
theorem dX3_readsFuse_36 : decode cX3_readsFuse 36 = .ok (.putfield 212, 3) := by decide +kernel
theorem dX3_readsFuse_39 : decode cX3_readsFuse 39 = .ok (.aload_n 0, 1) := by decide +kernel
theorem dX3_readsFuse_40 : decode cX3_readsFuse 40 = .ok (.getfield 212, 3) := by decide +kernel
theorem dX3_readsFuse_43 : decode cX3_readsFuse 43 = .ok (.bipush (-6), 2) := by decide +kernel
theorem dX3_readsFuse_45 : decode cX3_readsFuse 45 = .ok (.if_icmp .eq 14, 3) := by decide +kernel
theorem dX3_readsFuse_48 : decode cX3_readsFuse 48 = .ok (.aload_n 0, 1) := by decide +kernel
theorem dX3_readsFuse_49 : decode cX3_readsFuse 49 = .ok (.invokevirtual 215, 3) := by decide +kernel
theorem dX3_readsFuse_52 : decode cX3_readsFuse 52 = .ok (.ifCond .eq 7, 3) := by decide +kernel
theorem dX3_readsFuse_55 : decode cX3_readsFuse 55 = .ok (.iconst 1, 1) := by decide +kernel
theorem dX3_readsFuse_56 : decode cX3_readsFuse 56 = .ok (.goto 4, 3) := by decide +kernel
theorem dX3_readsFuse_59 : decode cX3_readsFuse 59 = .ok (.iconst 0, 1) := by decide +kernel
theorem dX3_readsFuse_60 : decode cX3_readsFuse 60 = .ok (.ireturn, 1) := by decide +kernel
theorem dX3_readsLoad_0 : decode cX3_readsLoad 0 = .ok (.aload_n 0, 1) := by decide +kernel
theorem dX3_readsLoad_1 : decode cX3_readsLoad 1 = .ok (.aload_n 0, 1) := by decide +kernel
theorem dX3_readsLoad_2 : decode cX3_readsLoad 2 = .ok (.invokevirtual 197, 3) := by decide +kernel
theorem dX3_readsLoad_5 : decode cX3_readsLoad 5 = .ok (.putfield 206, 3) := by decide +kernel
theorem dX3_readsLoad_8 : decode cX3_readsLoad 8 = .ok (.aload_n 0, 1) := by decide +kernel
theorem dX3_readsLoad_9 : decode cX3_readsLoad 9 = .ok (.aload_n 0, 1) := by decide +kernel
theorem dX3_readsLoad_10 : decode cX3_readsLoad 10 = .ok (.getfield 206, 3) := by decide +kernel
theorem dX3_readsLoad_13 : decode cX3_readsLoad 13 = .ok (.bipush (-6), 2) := by decide +kernel
theorem dX3_readsLoad_15 : decode cX3_readsLoad 15 = .ok (.if_icmp .eq 19, 3) := by decide +kernel
theorem dX3_readsLoad_18 : decode cX3_readsLoad 18 = .ok (.aload_n 0, 1) := by decide +kernel
theorem dX3_readsLoad_19 : decode cX3_readsLoad 19 = .ok (.bipush 61, 2) := by decide +kernel
theorem dX3_readsLoad_21 : decode cX3_readsLoad 21 = .ok (.invokevirtual 200, 3) := by decide +kernel
theorem dX3_readsLoad_24 : decode cX3_readsLoad 24 = .ok (.ifCond .eq 10, 3) := by decide +kernel
theorem dX3_readsLoad_27 : decode cX3_readsLoad 27 = .ok (.aload_n 0, 1) := by decide +kernel
theorem dX3_readsLoad_28 : decode cX3_readsLoad 28 = .ok (.invokevirtual 209, 3) := by decide +kernel
theorem dX3_readsLoad_31 : decode cX3_readsLoad 31 = .ok (.goto 5, 3) := by decide +kernel
theorem dX3_readsLoad_34 : decode cX3_readsLoad 34 = .ok (.bipush (-6), 2) := by decide +kernel
theorem dX3_readsLoad_36 : decode cX3_readsLoad 36 = .ok (.putfield 212, 3) := by decide +kernel
theorem dX3_readsLoad_39 : decode cX3_readsLoad 39 = .ok (.aload_n 0, 1) := by decide +kernel
theorem dX3_readsLoad_40 : decode cX3_readsLoad 40 = .ok (.getfield 212, 3) := by decide +kernel
theorem dX3_readsLoad_43 : decode cX3_readsLoad 43 = .ok (.bipush (-6), 2) := by decide +kernel
theorem dX3_readsLoad_45 : decode cX3_readsLoad 45 = .ok (.if_icmp .eq 7, 3) := by decide +kernel
theorem dX3_readsLoad_48 : decode cX3_readsLoad 48 = .ok (.iconst 1, 1) := by decide +kernel
theorem dX3_readsLoad_49 : decode cX3_readsLoad 49 = .ok (.goto 4, 3) := by decide +kernel
theorem dX3_readsLoad_52 : decode cX3_readsLoad 52 = .ok (.iconst 0, 1) := by decide +kernel
theorem dX3_readsLoad_53 : decode cX3_readsLoad 53 = .ok (.ireturn, 1) := by decide +kernel
theorem dX3_readsOrder_0 : decode cX3_readsOrder 0 = .ok (.aload_n 0, 1) := by decide +kernel
theorem dX3_readsOrder_1 : decode cX3_readsOrder 1 = .ok (.aload_n 0, 1) := by decide +kernel
theorem dX3_readsOrder_2 : decode cX3_readsOrder 2 = .ok (.getfield 191, 3) := by decide +kernel
theorem dX3_readsOrder_5 : decode cX3_readsOrder 5 = .ok (.aload_n 0, 1) := by decide +kernel
theorem dX3_readsOrder_6 : decode cX3_readsOrder 6 = .ok (.getfield 165, 3) := by decide +kernel
theorem dX3_readsOrder_9 : decode cX3_readsOrder 9 = .ok (.if_icmp .ge 15, 3) := by decide +kernel
theorem dX3_readsOrder_12 : decode cX3_readsOrder 12 = .ok (.aload_n 0, 1) := by decide +kernel
theorem dX3_readsOrder_13 : decode cX3_readsOrder 13 = .ok (.getfield 17, 3) := by decide +kernel
theorem dX3_readsOrder_16 : decode cX3_readsOrder 16 = .ok (.aload_n 0, 1) := by decide +kernel
theorem dX3_readsOrder_17 : decode cX3_readsOrder 17 = .ok (.getfield 191, 3) := by decide +kernel
theorem dX3_readsOrder_20 : decode cX3_readsOrder 20 = .ok (.iaload, 1) := by decide +kernel
theorem dX3_readsOrder_21 : decode cX3_readsOrder 21 = .ok (.goto 4, 3) := by decide +kernel
theorem dX3_readsOrder_24 : decode cX3_readsOrder 24 = .ok (.iconst 0, 1) := by decide +kernel
theorem dX3_readsOrder_25 : decode cX3_readsOrder 25 = .ok (.putfield 219, 3) := by decide +kernel
theorem dX3_readsOrder_28 : decode cX3_readsOrder 28 = .ok (.aload_n 0, 1) := by decide +kernel
theorem dX3_readsOrder_29 : decode cX3_readsOrder 29 = .ok (.dup, 1) := by decide +kernel
theorem dX3_readsOrder_30 : decode cX3_readsOrder 30 = .ok (.getfield 191, 3) := by decide +kernel
theorem dX3_readsOrder_33 : decode cX3_readsOrder 33 = .ok (.iconst 1, 1) := by decide +kernel
theorem dX3_readsOrder_34 : decode cX3_readsOrder 34 = .ok (.iadd, 1) := by decide +kernel
theorem dX3_readsOrder_35 : decode cX3_readsOrder 35 = .ok (.putfield 191, 3) := by decide +kernel
theorem dX3_readsOrder_38 : decode cX3_readsOrder 38 = .ok (.aload_n 0, 1) := by decide +kernel
theorem dX3_readsOrder_39 : decode cX3_readsOrder 39 = .ok (.getfield 219, 3) := by decide +kernel
theorem dX3_readsOrder_42 : decode cX3_readsOrder 42 = .ok (.lookupswitch 83 #[(98, 50), (102, 50), (108, 55), (115, 60), (116, 60)], 50) := by decide +kernel
theorem dX3_readsOrder_92 : decode cX3_readsOrder 92 = .ok (.aload_n 0, 1) := by decide +kernel
theorem dX3_readsOrder_93 : decode cX3_readsOrder 93 = .ok (.invokevirtual 222, 3) := by decide +kernel
theorem dX3_readsOrder_96 : decode cX3_readsOrder 96 = .ok (.ireturn, 1) := by decide +kernel
theorem dX3_readsOrder_97 : decode cX3_readsOrder 97 = .ok (.aload_n 0, 1) := by decide +kernel
theorem dX3_readsOrder_98 : decode cX3_readsOrder 98 = .ok (.invokevirtual 225, 3) := by decide +kernel
theorem dX3_readsOrder_101 : decode cX3_readsOrder 101 = .ok (.ireturn, 1) := by decide +kernel
theorem dX3_readsOrder_102 : decode cX3_readsOrder 102 = .ok (.aload_n 0, 1) := by decide +kernel
theorem dX3_readsOrder_103 : decode cX3_readsOrder 103 = .ok (.aload_n 0, 1) := by decide +kernel
theorem dX3_readsOrder_104 : decode cX3_readsOrder 104 = .ok (.invokevirtual 209, 3) := by decide +kernel
theorem dX3_readsOrder_107 : decode cX3_readsOrder 107 = .ok (.putfield 212, 3) := by decide +kernel
theorem dX3_readsOrder_110 : decode cX3_readsOrder 110 = .ok (.aload_n 0, 1) := by decide +kernel
theorem dX3_readsOrder_111 : decode cX3_readsOrder 111 = .ok (.getfield 212, 3) := by decide +kernel
theorem dX3_readsOrder_114 : decode cX3_readsOrder 114 = .ok (.bipush (-6), 2) := by decide +kernel
theorem dX3_readsOrder_116 : decode cX3_readsOrder 116 = .ok (.if_icmp .eq 7, 3) := by decide +kernel
theorem dX3_readsOrder_119 : decode cX3_readsOrder 119 = .ok (.iconst 1, 1) := by decide +kernel
theorem dX3_readsOrder_120 : decode cX3_readsOrder 120 = .ok (.goto 4, 3) := by decide +kernel
theorem dX3_readsOrder_123 : decode cX3_readsOrder 123 = .ok (.iconst 0, 1) := by decide +kernel
theorem dX3_readsOrder_124 : decode cX3_readsOrder 124 = .ok (.ireturn, 1) := by decide +kernel
theorem dX3_readsOrder_125 : decode cX3_readsOrder 125 = .ok (.aload_n 0, 1) := by decide +kernel
theorem dX3_readsOrder_126 : decode cX3_readsOrder 126 = .ok (.dup, 1) := by decide +kernel
theorem dX3_readsOrder_127 : decode cX3_readsOrder 127 = .ok (.getfield 191, 3) := by decide +kernel
theorem dX3_readsOrder_130 : decode cX3_readsOrder 130 = .ok (.iconst 1, 1) := by decide +kernel
theorem dX3_readsOrder_131 : decode cX3_readsOrder 131 = .ok (.isub, 1) := by decide +kernel
theorem dX3_readsOrder_132 : decode cX3_readsOrder 132 = .ok (.putfield 191, 3) := by decide +kernel
theorem dX3_readsOrder_135 : decode cX3_readsOrder 135 = .ok (.iconst 0, 1) := by decide +kernel
theorem dX3_readsOrder_136 : decode cX3_readsOrder 136 = .ok (.ireturn, 1) := by decide +kernel
theorem dX3_fault_0 : decode cX3_fault 0 = .ok (.aload_n 0, 1) := by decide +kernel
theorem dX3_fault_1 : decode cX3_fault 1 = .ok (.iconst 0, 1) := by decide +kernel
theorem dX3_fault_2 : decode cX3_fault 2 = .ok (.putfield 191, 3) := by decide +kernel
theorem dX3_fault_5 : decode cX3_fault 5 = .ok (.iconst 1, 1) := by decide +kernel
theorem dX3_fault_6 : decode cX3_fault 6 = .ok (.istore_n 1, 1) := by decide +kernel
theorem dX3_fault_7 : decode cX3_fault 7 = .ok (.iload_n 1, 1) := by decide +kernel
theorem dX3_fault_8 : decode cX3_fault 8 = .ok (.ifCond .eq 25, 3) := by decide +kernel
theorem dX3_fault_11 : decode cX3_fault 11 = .ok (.aload_n 0, 1) := by decide +kernel
theorem dX3_fault_12 : decode cX3_fault 12 = .ok (.invokevirtual 228, 3) := by decide +kernel
theorem dX3_fault_15 : decode cX3_fault 15 = .ok (.ifCond .ne 8, 3) := by decide +kernel
theorem dX3_fault_18 : decode cX3_fault 18 = .ok (.aload_n 0, 1) := by decide +kernel
theorem dX3_fault_19 : decode cX3_fault 19 = .ok (.getfield 191, 3) := by decide +kernel
theorem dX3_fault_22 : decode cX3_fault 22 = .ok (.ireturn, 1) := by decide +kernel
theorem dX3_fault_23 : decode cX3_fault 23 = .ok (.aload_n 0, 1) := by decide +kernel
theorem dX3_fault_24 : decode cX3_fault 24 = .ok (.bipush 59, 2) := by decide +kernel
theorem dX3_fault_26 : decode cX3_fault 26 = .ok (.invokevirtual 200, 3) := by decide +kernel
theorem dX3_fault_29 : decode cX3_fault 29 = .ok (.istore_n 1, 1) := by decide +kernel
theorem dX3_fault_30 : decode cX3_fault 30 = .ok (.goto (-23), 3) := by decide +kernel
theorem dX3_fault_33 : decode cX3_fault 33 = .ok (.aload_n 0, 1) := by decide +kernel
theorem dX3_fault_34 : decode cX3_fault 34 = .ok (.getfield 191, 3) := by decide +kernel
theorem dX3_fault_37 : decode cX3_fault 37 = .ok (.aload_n 0, 1) := by decide +kernel
theorem dX3_fault_38 : decode cX3_fault 38 = .ok (.getfield 165, 3) := by decide +kernel
theorem dX3_fault_41 : decode cX3_fault 41 = .ok (.if_icmp .ne 8, 3) := by decide +kernel
theorem dX3_fault_44 : decode cX3_fault 44 = .ok (.bipush (-6), 2) := by decide +kernel
theorem dX3_fault_46 : decode cX3_fault 46 = .ok (.goto 7, 3) := by decide +kernel
theorem dX3_fault_49 : decode cX3_fault 49 = .ok (.aload_n 0, 1) := by decide +kernel
theorem dX3_fault_50 : decode cX3_fault 50 = .ok (.getfield 191, 3) := by decide +kernel
theorem dX3_fault_53 : decode cX3_fault 53 = .ok (.ireturn, 1) := by decide +kernel
theorem dX3_orderError_0 : decode cX3_orderError 0 = .ok (.aload_n 0, 1) := by decide +kernel
theorem dX3_orderError_1 : decode cX3_orderError 1 = .ok (.getfield 219, 3) := by decide +kernel
theorem dX3_orderError_4 : decode cX3_orderError 4 = .ok (.lookupswitch 100 #[(98, 44), (102, 83), (108, 61), (115, 74)], 44) := by decide +kernel
theorem dX3_orderError_48 : decode cX3_orderError 48 = .ok (.aload_n 0, 1) := by decide +kernel
theorem dX3_orderError_49 : decode cX3_orderError 49 = .ok (.aload_n 0, 1) := by decide +kernel
theorem dX3_orderError_50 : decode cX3_orderError 50 = .ok (.getfield 206, 3) := by decide +kernel
theorem dX3_orderError_53 : decode cX3_orderError 53 = .ok (.aload_n 0, 1) := by decide +kernel
theorem dX3_orderError_54 : decode cX3_orderError 54 = .ok (.getfield 212, 3) := by decide +kernel
theorem dX3_orderError_57 : decode cX3_orderError 57 = .ok (.aload_n 0, 1) := by decide +kernel
theorem dX3_orderError_58 : decode cX3_orderError 58 = .ok (.getfield 203, 3) := by decide +kernel
theorem dX3_orderError_61 : decode cX3_orderError 61 = .ok (.invokevirtual 121, 3) := by decide +kernel
theorem dX3_orderError_64 : decode cX3_orderError 64 = .ok (.ireturn, 1) := by decide +kernel
theorem dX3_orderError_65 : decode cX3_orderError 65 = .ok (.aload_n 0, 1) := by decide +kernel
theorem dX3_orderError_66 : decode cX3_orderError 66 = .ok (.aload_n 0, 1) := by decide +kernel
theorem dX3_orderError_67 : decode cX3_orderError 67 = .ok (.getfield 206, 3) := by decide +kernel
theorem dX3_orderError_70 : decode cX3_orderError 70 = .ok (.aload_n 0, 1) := by decide +kernel
theorem dX3_orderError_71 : decode cX3_orderError 71 = .ok (.getfield 212, 3) := by decide +kernel
theorem dX3_orderError_74 : decode cX3_orderError 74 = .ok (.invokevirtual 128, 3) := by decide +kernel
theorem dX3_orderError_77 : decode cX3_orderError 77 = .ok (.ireturn, 1) := by decide +kernel
theorem dX3_orderError_78 : decode cX3_orderError 78 = .ok (.aload_n 0, 1) := by decide +kernel
theorem dX3_orderError_79 : decode cX3_orderError 79 = .ok (.aload_n 0, 1) := by decide +kernel
theorem dX3_orderError_80 : decode cX3_orderError 80 = .ok (.getfield 212, 3) := by decide +kernel
theorem dX3_orderError_83 : decode cX3_orderError 83 = .ok (.invokevirtual 134, 3) := by decide +kernel
theorem dX3_orderError_86 : decode cX3_orderError 86 = .ok (.ireturn, 1) := by decide +kernel
theorem dX3_orderError_87 : decode cX3_orderError 87 = .ok (.aload_n 0, 1) := by decide +kernel
theorem dX3_orderError_88 : decode cX3_orderError 88 = .ok (.aload_n 0, 1) := by decide +kernel
theorem dX3_orderError_89 : decode cX3_orderError 89 = .ok (.getfield 206, 3) := by decide +kernel
theorem dX3_orderError_92 : decode cX3_orderError 92 = .ok (.aload_n 0, 1) := by decide +kernel
theorem dX3_orderError_93 : decode cX3_orderError 93 = .ok (.getfield 212, 3) := by decide +kernel
theorem dX3_orderError_96 : decode cX3_orderError 96 = .ok (.aload_n 0, 1) := by decide +kernel
theorem dX3_orderError_97 : decode cX3_orderError 97 = .ok (.getfield 203, 3) := by decide +kernel
theorem dX3_orderError_100 : decode cX3_orderError 100 = .ok (.invokevirtual 140, 3) := by decide +kernel
theorem dX3_orderError_103 : decode cX3_orderError 103 = .ok (.ireturn, 1) := by decide +kernel
theorem dX3_orderError_104 : decode cX3_orderError 104 = .ok (.aload_n 0, 1) := by decide +kernel
theorem dX3_orderError_105 : decode cX3_orderError 105 = .ok (.aload_n 0, 1) := by decide +kernel
theorem dX3_orderError_106 : decode cX3_orderError 106 = .ok (.getfield 212, 3) := by decide +kernel
theorem dX3_orderError_109 : decode cX3_orderError 109 = .ok (.invokevirtual 146, 3) := by decide +kernel
theorem dX3_orderError_112 : decode cX3_orderError 112 = .ok (.ireturn, 1) := by decide +kernel
theorem dX3_does_0 : decode cX3_does 0 = .ok (.aload_n 0, 1) := by decide +kernel
theorem dX3_does_1 : decode cX3_does 1 = .ok (.getfield 219, 3) := by decide +kernel
theorem dX3_does_4 : decode cX3_does 4 = .ok (.lookupswitch 100 #[(98, 44), (102, 83), (108, 61), (115, 74)], 44) := by decide +kernel
theorem dX3_does_48 : decode cX3_does 48 = .ok (.aload_n 0, 1) := by decide +kernel
theorem dX3_does_49 : decode cX3_does 49 = .ok (.aload_n 0, 1) := by decide +kernel
theorem dX3_does_50 : decode cX3_does 50 = .ok (.getfield 206, 3) := by decide +kernel
theorem dX3_does_53 : decode cX3_does 53 = .ok (.aload_n 0, 1) := by decide +kernel
theorem dX3_does_54 : decode cX3_does 54 = .ok (.getfield 212, 3) := by decide +kernel
theorem dX3_does_57 : decode cX3_does 57 = .ok (.aload_n 0, 1) := by decide +kernel
theorem dX3_does_58 : decode cX3_does 58 = .ok (.getfield 203, 3) := by decide +kernel
theorem dX3_does_61 : decode cX3_does 61 = .ok (.invokevirtual 125, 3) := by decide +kernel
theorem dX3_does_64 : decode cX3_does 64 = .ok (.ireturn, 1) := by decide +kernel
theorem dX3_does_65 : decode cX3_does 65 = .ok (.aload_n 0, 1) := by decide +kernel
theorem dX3_does_66 : decode cX3_does 66 = .ok (.aload_n 0, 1) := by decide +kernel
theorem dX3_does_67 : decode cX3_does 67 = .ok (.getfield 206, 3) := by decide +kernel
theorem dX3_does_70 : decode cX3_does 70 = .ok (.aload_n 0, 1) := by decide +kernel
theorem dX3_does_71 : decode cX3_does 71 = .ok (.getfield 212, 3) := by decide +kernel
theorem dX3_does_74 : decode cX3_does 74 = .ok (.invokevirtual 131, 3) := by decide +kernel
theorem dX3_does_77 : decode cX3_does 77 = .ok (.ireturn, 1) := by decide +kernel
theorem dX3_does_78 : decode cX3_does 78 = .ok (.aload_n 0, 1) := by decide +kernel
theorem dX3_does_79 : decode cX3_does 79 = .ok (.aload_n 0, 1) := by decide +kernel
theorem dX3_does_80 : decode cX3_does 80 = .ok (.getfield 212, 3) := by decide +kernel
theorem dX3_does_83 : decode cX3_does 83 = .ok (.invokevirtual 137, 3) := by decide +kernel
theorem dX3_does_86 : decode cX3_does 86 = .ok (.ireturn, 1) := by decide +kernel
theorem dX3_does_87 : decode cX3_does 87 = .ok (.aload_n 0, 1) := by decide +kernel
theorem dX3_does_88 : decode cX3_does 88 = .ok (.aload_n 0, 1) := by decide +kernel
theorem dX3_does_89 : decode cX3_does 89 = .ok (.getfield 206, 3) := by decide +kernel
theorem dX3_does_92 : decode cX3_does 92 = .ok (.aload_n 0, 1) := by decide +kernel
theorem dX3_does_93 : decode cX3_does 93 = .ok (.getfield 212, 3) := by decide +kernel
theorem dX3_does_96 : decode cX3_does 96 = .ok (.aload_n 0, 1) := by decide +kernel
theorem dX3_does_97 : decode cX3_does 97 = .ok (.getfield 203, 3) := by decide +kernel
theorem dX3_does_100 : decode cX3_does 100 = .ok (.invokevirtual 143, 3) := by decide +kernel
theorem dX3_does_103 : decode cX3_does 103 = .ok (.ireturn, 1) := by decide +kernel
theorem dX3_does_104 : decode cX3_does 104 = .ok (.aload_n 0, 1) := by decide +kernel
theorem dX3_does_105 : decode cX3_does 105 = .ok (.iconst 0, 1) := by decide +kernel
theorem dX3_does_106 : decode cX3_does 106 = .ok (.aload_n 0, 1) := by decide +kernel
theorem dX3_does_107 : decode cX3_does 107 = .ok (.getfield 212, 3) := by decide +kernel
theorem dX3_does_110 : decode cX3_does 110 = .ok (.invokevirtual 149, 3) := by decide +kernel
theorem dX3_does_113 : decode cX3_does 113 = .ok (.ireturn, 1) := by decide +kernel
theorem dX3_carryOut_0 : decode cX3_carryOut 0 = .ok (.aload_n 0, 1) := by decide +kernel
theorem dX3_carryOut_1 : decode cX3_carryOut 1 = .ok (.invokevirtual 231, 3) := by decide +kernel
theorem dX3_carryOut_4 : decode cX3_carryOut 4 = .ok (.bipush (-6), 2) := by decide +kernel
theorem dX3_carryOut_6 : decode cX3_carryOut 6 = .ok (.if_icmp .eq 6, 3) := by decide +kernel
theorem dX3_carryOut_9 : decode cX3_carryOut 9 = .ok (.bipush (-3), 2) := by decide +kernel
theorem dX3_carryOut_11 : decode cX3_carryOut 11 = .ok (.ireturn, 1) := by decide +kernel
theorem dX3_carryOut_12 : decode cX3_carryOut 12 = .ok (.aload_n 0, 1) := by decide +kernel
theorem dX3_carryOut_13 : decode cX3_carryOut 13 = .ok (.invokevirtual 118, 3) := by decide +kernel
theorem dX3_carryOut_16 : decode cX3_carryOut 16 = .ok (.aload_n 0, 1) := by decide +kernel
theorem dX3_carryOut_17 : decode cX3_carryOut 17 = .ok (.iconst 0, 1) := by decide +kernel
theorem dX3_carryOut_18 : decode cX3_carryOut 18 = .ok (.putfield 191, 3) := by decide +kernel
theorem dX3_carryOut_21 : decode cX3_carryOut 21 = .ok (.iconst 0, 1) := by decide +kernel
theorem dX3_carryOut_22 : decode cX3_carryOut 22 = .ok (.istore_n 1, 1) := by decide +kernel
theorem dX3_carryOut_23 : decode cX3_carryOut 23 = .ok (.iconst 1, 1) := by decide +kernel
theorem dX3_carryOut_24 : decode cX3_carryOut 24 = .ok (.istore_n 2, 1) := by decide +kernel
theorem dX3_carryOut_25 : decode cX3_carryOut 25 = .ok (.iload_n 2, 1) := by decide +kernel
theorem dX3_carryOut_26 : decode cX3_carryOut 26 = .ok (.ifCond .eq 67, 3) := by decide +kernel
theorem dX3_carryOut_29 : decode cX3_carryOut 29 = .ok (.aload_n 0, 1) := by decide +kernel
theorem dX3_carryOut_30 : decode cX3_carryOut 30 = .ok (.invokevirtual 228, 3) := by decide +kernel
theorem dX3_carryOut_33 : decode cX3_carryOut 33 = .ok (.ifCond .eq 14, 3) := by decide +kernel
theorem dX3_carryOut_36 : decode cX3_carryOut 36 = .ok (.aload_n 0, 1) := by decide +kernel
theorem dX3_carryOut_37 : decode cX3_carryOut 37 = .ok (.invokevirtual 234, 3) := by decide +kernel
theorem dX3_carryOut_40 : decode cX3_carryOut 40 = .ok (.ifCond .ne 7, 3) := by decide +kernel
theorem dX3_carryOut_43 : decode cX3_carryOut 43 = .ok (.iconst 1, 1) := by decide +kernel
theorem dX3_carryOut_44 : decode cX3_carryOut 44 = .ok (.goto 4, 3) := by decide +kernel
theorem dX3_carryOut_47 : decode cX3_carryOut 47 = .ok (.iconst 0, 1) := by decide +kernel
theorem dX3_carryOut_48 : decode cX3_carryOut 48 = .ok (.istore_n 3, 1) := by decide +kernel
theorem dX3_carryOut_49 : decode cX3_carryOut 49 = .ok (.iload_n 3, 1) := by decide +kernel
theorem dX3_carryOut_50 : decode cX3_carryOut 50 = .ok (.ifCond .eq 10, 3) := by decide +kernel
theorem dX3_carryOut_53 : decode cX3_carryOut 53 = .ok (.aload_n 0, 1) := by decide +kernel
theorem dX3_carryOut_54 : decode cX3_carryOut 54 = .ok (.invokevirtual 237, 3) := by decide +kernel
theorem dX3_carryOut_57 : decode cX3_carryOut 57 = .ok (.goto 5, 3) := by decide +kernel
theorem dX3_carryOut_60 : decode cX3_carryOut 60 = .ok (.bipush (-6), 2) := by decide +kernel
theorem dX3_carryOut_62 : decode cX3_carryOut 62 = .ok (.istore 4, 2) := by decide +kernel
theorem dX3_carryOut_64 : decode cX3_carryOut 64 = .ok (.iload_n 1, 1) := by decide +kernel
theorem dX3_carryOut_65 : decode cX3_carryOut 65 = .ok (.iload_n 3, 1) := by decide +kernel
theorem dX3_carryOut_66 : decode cX3_carryOut 66 = .ok (.invokestatic 56, 3) := by decide +kernel
theorem dX3_carryOut_69 : decode cX3_carryOut 69 = .ok (.iadd, 1) := by decide +kernel
theorem dX3_carryOut_70 : decode cX3_carryOut 70 = .ok (.istore_n 1, 1) := by decide +kernel
theorem dX3_carryOut_71 : decode cX3_carryOut 71 = .ok (.iload_n 3, 1) := by decide +kernel
theorem dX3_carryOut_72 : decode cX3_carryOut 72 = .ok (.ifCond .eq 16, 3) := by decide +kernel
theorem dX3_carryOut_75 : decode cX3_carryOut 75 = .ok (.aload_n 0, 1) := by decide +kernel
theorem dX3_carryOut_76 : decode cX3_carryOut 76 = .ok (.bipush 59, 2) := by decide +kernel
theorem dX3_carryOut_78 : decode cX3_carryOut 78 = .ok (.invokevirtual 200, 3) := by decide +kernel
theorem dX3_carryOut_81 : decode cX3_carryOut 81 = .ok (.ifCond .eq 7, 3) := by decide +kernel
theorem dX3_carryOut_84 : decode cX3_carryOut 84 = .ok (.iconst 1, 1) := by decide +kernel
theorem dX3_carryOut_85 : decode cX3_carryOut 85 = .ok (.goto 4, 3) := by decide +kernel
theorem dX3_carryOut_88 : decode cX3_carryOut 88 = .ok (.iconst 0, 1) := by decide +kernel
theorem dX3_carryOut_89 : decode cX3_carryOut 89 = .ok (.istore_n 2, 1) := by decide +kernel
theorem dX3_carryOut_90 : decode cX3_carryOut 90 = .ok (.goto (-65), 3) := by decide +kernel
theorem dX3_carryOut_93 : decode cX3_carryOut 93 = .ok (.aload_n 0, 1) := by decide +kernel
theorem dX3_carryOut_94 : decode cX3_carryOut 94 = .ok (.iconst 0, 1) := by decide +kernel
theorem dX3_carryOut_95 : decode cX3_carryOut 95 = .ok (.putfield 165, 3) := by decide +kernel
theorem dX3_carryOut_98 : decode cX3_carryOut 98 = .ok (.iload_n 1, 1) := by decide +kernel
theorem dX3_carryOut_99 : decode cX3_carryOut 99 = .ok (.ireturn, 1) := by decide +kernel
theorem dX3_undo_0 : decode cX3_undo 0 = .ok (.aload_n 0, 1) := by decide +kernel
theorem dX3_undo_1 : decode cX3_undo 1 = .ok (.getfield 30, 3) := by decide +kernel
theorem dX3_undo_4 : decode cX3_undo 4 = .ok (.ifCond .ne 6, 3) := by decide +kernel
theorem dX3_undo_7 : decode cX3_undo 7 = .ok (.bipush (-5), 2) := by decide +kernel
theorem dX3_undo_9 : decode cX3_undo 9 = .ok (.ireturn, 1) := by decide +kernel
theorem dX3_undo_10 : decode cX3_undo 10 = .ok (.aload_n 0, 1) := by decide +kernel
theorem dX3_undo_11 : decode cX3_undo 11 = .ok (.aload_n 0, 1) := by decide +kernel
theorem dX3_undo_12 : decode cX3_undo 12 = .ok (.getfield 30, 3) := by decide +kernel
theorem dX3_undo_15 : decode cX3_undo 15 = .ok (.iconst 0, 1) := by decide +kernel
theorem dX3_undo_16 : decode cX3_undo 16 = .ok (.invokevirtual 33, 3) := by decide +kernel
theorem dX3_undo_19 : decode cX3_undo 19 = .ok (.aload_n 0, 1) := by decide +kernel
theorem dX3_undo_20 : decode cX3_undo 20 = .ok (.dup, 1) := by decide +kernel
theorem dX3_undo_21 : decode cX3_undo 21 = .ok (.getfield 30, 3) := by decide +kernel
theorem dX3_undo_24 : decode cX3_undo 24 = .ok (.iconst 1, 1) := by decide +kernel
theorem dX3_undo_25 : decode cX3_undo 25 = .ok (.isub, 1) := by decide +kernel
theorem dX3_undo_26 : decode cX3_undo 26 = .ok (.putfield 30, 3) := by decide +kernel
theorem dX3_undo_29 : decode cX3_undo 29 = .ok (.aload_n 0, 1) := by decide +kernel
theorem dX3_undo_30 : decode cX3_undo 30 = .ok (.getfield 30, 3) := by decide +kernel
theorem dX3_undo_33 : decode cX3_undo 33 = .ok (.ireturn, 1) := by decide +kernel
theorem dX3_isSlot_0 : decode cX3_isSlot 0 = .ok (.iload_n 0, 1) := by decide +kernel
theorem dX3_isSlot_1 : decode cX3_isSlot 1 = .ok (.ifCond .eq 8, 3) := by decide +kernel
theorem dX3_isSlot_4 : decode cX3_isSlot 4 = .ok (.iload_n 0, 1) := by decide +kernel
theorem dX3_isSlot_5 : decode cX3_isSlot 5 = .ok (.iconst 1, 1) := by decide +kernel
theorem dX3_isSlot_6 : decode cX3_isSlot 6 = .ok (.if_icmp .ne 7, 3) := by decide +kernel
theorem dX3_isSlot_9 : decode cX3_isSlot 9 = .ok (.iconst 1, 1) := by decide +kernel
theorem dX3_isSlot_10 : decode cX3_isSlot 10 = .ok (.goto 4, 3) := by decide +kernel
theorem dX3_isSlot_13 : decode cX3_isSlot 13 = .ok (.iconst 0, 1) := by decide +kernel
theorem dX3_isSlot_14 : decode cX3_isSlot 14 = .ok (.ireturn, 1) := by decide +kernel
theorem dX3_save_0 : decode cX3_save 0 = .ok (.iload_n 1, 1) := by decide +kernel
theorem dX3_save_1 : decode cX3_save 1 = .ok (.invokestatic 240, 3) := by decide +kernel
theorem dX3_save_4 : decode cX3_save 4 = .ok (.ifCond .ne 6, 3) := by decide +kernel
theorem dX3_save_7 : decode cX3_save 7 = .ok (.bipush (-2), 2) := by decide +kernel
theorem dX3_save_9 : decode cX3_save 9 = .ok (.ireturn, 1) := by decide +kernel
theorem dX3_save_10 : decode cX3_save 10 = .ok (.aload_n 0, 1) := by decide +kernel
theorem dX3_save_11 : decode cX3_save 11 = .ok (.iconst 0, 1) := by decide +kernel
theorem dX3_save_12 : decode cX3_save 12 = .ok (.bipush 7, 2) := by decide +kernel
theorem dX3_save_14 : decode cX3_save 14 = .ok (.iload_n 1, 1) := by decide +kernel
theorem dX3_save_15 : decode cX3_save 15 = .ok (.iadd, 1) := by decide +kernel
theorem dX3_save_16 : decode cX3_save 16 = .ok (.invokevirtual 33, 3) := by decide +kernel
theorem dX3_save_19 : decode cX3_save 19 = .ok (.aload_n 0, 1) := by decide +kernel
theorem dX3_save_20 : decode cX3_save 20 = .ok (.getfield 13, 3) := by decide +kernel
theorem dX3_save_23 : decode cX3_save 23 = .ok (.iload_n 1, 1) := by decide +kernel
theorem dX3_save_24 : decode cX3_save 24 = .ok (.iconst 1, 1) := by decide +kernel
theorem dX3_save_25 : decode cX3_save 25 = .ok (.bastore, 1) := by decide +kernel
theorem dX3_save_26 : decode cX3_save 26 = .ok (.aload_n 0, 1) := by decide +kernel
theorem dX3_save_27 : decode cX3_save 27 = .ok (.getfield 7, 3) := by decide +kernel
theorem dX3_save_30 : decode cX3_save 30 = .ok (.iconst 4, 1) := by decide +kernel
theorem dX3_save_31 : decode cX3_save 31 = .ok (.iaload, 1) := by decide +kernel
theorem dX3_save_32 : decode cX3_save 32 = .ok (.ireturn, 1) := by decide +kernel
theorem dX3_restore_0 : decode cX3_restore 0 = .ok (.iload_n 1, 1) := by decide +kernel
theorem dX3_restore_1 : decode cX3_restore 1 = .ok (.invokestatic 240, 3) := by decide +kernel
theorem dX3_restore_4 : decode cX3_restore 4 = .ok (.ifCond .ne 6, 3) := by decide +kernel
theorem dX3_restore_7 : decode cX3_restore 7 = .ok (.bipush (-2), 2) := by decide +kernel
theorem dX3_restore_9 : decode cX3_restore 9 = .ok (.ireturn, 1) := by decide +kernel
theorem dX3_restore_10 : decode cX3_restore 10 = .ok (.aload_n 0, 1) := by decide +kernel
theorem dX3_restore_11 : decode cX3_restore 11 = .ok (.getfield 13, 3) := by decide +kernel
theorem dX3_restore_14 : decode cX3_restore 14 = .ok (.iload_n 1, 1) := by decide +kernel
theorem dX3_restore_15 : decode cX3_restore 15 = .ok (.baload, 1) := by decide +kernel
theorem dX3_restore_16 : decode cX3_restore 16 = .ok (.ifCond .ne 6, 3) := by decide +kernel
theorem dX3_restore_19 : decode cX3_restore 19 = .ok (.bipush (-5), 2) := by decide +kernel
theorem dX3_restore_21 : decode cX3_restore 21 = .ok (.ireturn, 1) := by decide +kernel
theorem dX3_restore_22 : decode cX3_restore 22 = .ok (.aload_n 0, 1) := by decide +kernel
theorem dX3_restore_23 : decode cX3_restore 23 = .ok (.invokevirtual 118, 3) := by decide +kernel
theorem dX3_restore_26 : decode cX3_restore 26 = .ok (.aload_n 0, 1) := by decide +kernel
theorem dX3_restore_27 : decode cX3_restore 27 = .ok (.bipush 7, 2) := by decide +kernel
theorem dX3_restore_29 : decode cX3_restore 29 = .ok (.iload_n 1, 1) := by decide +kernel
theorem dX3_restore_30 : decode cX3_restore 30 = .ok (.iadd, 1) := by decide +kernel
theorem dX3_restore_31 : decode cX3_restore 31 = .ok (.iconst 0, 1) := by decide +kernel
theorem dX3_restore_32 : decode cX3_restore 32 = .ok (.invokevirtual 33, 3) := by decide +kernel
theorem dX3_restore_35 : decode cX3_restore 35 = .ok (.aload_n 0, 1) := by decide +kernel
theorem dX3_restore_36 : decode cX3_restore 36 = .ok (.getfield 7, 3) := by decide +kernel
theorem dX3_restore_39 : decode cX3_restore 39 = .ok (.iconst 4, 1) := by decide +kernel
theorem dX3_restore_40 : decode cX3_restore 40 = .ok (.iaload, 1) := by decide +kernel
theorem dX3_restore_41 : decode cX3_restore 41 = .ok (.ireturn, 1) := by decide +kernel
end
section
theorem dJ6_bitCount_0f7a4_0 : decode cJ6_bitCount_0f7a4 0 = .ok (.iload_n 0, 1) := by decide +kernel
theorem dJ6_bitCount_0f7a4_1 : decode cJ6_bitCount_0f7a4 1 = .ok (.iload_n 0, 1) := by decide +kernel
theorem dJ6_bitCount_0f7a4_2 : decode cJ6_bitCount_0f7a4 2 = .ok (.iconst 1, 1) := by decide +kernel
theorem dJ6_bitCount_0f7a4_3 : decode cJ6_bitCount_0f7a4 3 = .ok (.iushr, 1) := by decide +kernel
theorem dJ6_bitCount_0f7a4_4 : decode cJ6_bitCount_0f7a4 4 = .ok (.ldc_w 265, 3) := by decide +kernel
theorem dJ6_bitCount_0f7a4_7 : decode cJ6_bitCount_0f7a4 7 = .ok (.iand, 1) := by decide +kernel
theorem dJ6_bitCount_0f7a4_8 : decode cJ6_bitCount_0f7a4 8 = .ok (.isub, 1) := by decide +kernel
theorem dJ6_bitCount_0f7a4_9 : decode cJ6_bitCount_0f7a4 9 = .ok (.istore_n 0, 1) := by decide +kernel
theorem dJ6_bitCount_0f7a4_10 : decode cJ6_bitCount_0f7a4 10 = .ok (.iload_n 0, 1) := by decide +kernel
theorem dJ6_bitCount_0f7a4_11 : decode cJ6_bitCount_0f7a4 11 = .ok (.ldc_w 266, 3) := by decide +kernel
theorem dJ6_bitCount_0f7a4_14 : decode cJ6_bitCount_0f7a4 14 = .ok (.iand, 1) := by decide +kernel
theorem dJ6_bitCount_0f7a4_15 : decode cJ6_bitCount_0f7a4 15 = .ok (.iload_n 0, 1) := by decide +kernel
theorem dJ6_bitCount_0f7a4_16 : decode cJ6_bitCount_0f7a4 16 = .ok (.iconst 2, 1) := by decide +kernel
theorem dJ6_bitCount_0f7a4_17 : decode cJ6_bitCount_0f7a4 17 = .ok (.iushr, 1) := by decide +kernel
theorem dJ6_bitCount_0f7a4_18 : decode cJ6_bitCount_0f7a4 18 = .ok (.ldc_w 266, 3) := by decide +kernel
theorem dJ6_bitCount_0f7a4_21 : decode cJ6_bitCount_0f7a4 21 = .ok (.iand, 1) := by decide +kernel
theorem dJ6_bitCount_0f7a4_22 : decode cJ6_bitCount_0f7a4 22 = .ok (.iadd, 1) := by decide +kernel
theorem dJ6_bitCount_0f7a4_23 : decode cJ6_bitCount_0f7a4 23 = .ok (.istore_n 0, 1) := by decide +kernel
theorem dJ6_bitCount_0f7a4_24 : decode cJ6_bitCount_0f7a4 24 = .ok (.iload_n 0, 1) := by decide +kernel
theorem dJ6_bitCount_0f7a4_25 : decode cJ6_bitCount_0f7a4 25 = .ok (.iload_n 0, 1) := by decide +kernel
theorem dJ6_bitCount_0f7a4_26 : decode cJ6_bitCount_0f7a4 26 = .ok (.iconst 4, 1) := by decide +kernel
theorem dJ6_bitCount_0f7a4_27 : decode cJ6_bitCount_0f7a4 27 = .ok (.iushr, 1) := by decide +kernel
theorem dJ6_bitCount_0f7a4_28 : decode cJ6_bitCount_0f7a4 28 = .ok (.iadd, 1) := by decide +kernel
theorem dJ6_bitCount_0f7a4_29 : decode cJ6_bitCount_0f7a4 29 = .ok (.ldc_w 267, 3) := by decide +kernel
theorem dJ6_bitCount_0f7a4_32 : decode cJ6_bitCount_0f7a4 32 = .ok (.iand, 1) := by decide +kernel
theorem dJ6_bitCount_0f7a4_33 : decode cJ6_bitCount_0f7a4 33 = .ok (.istore_n 0, 1) := by decide +kernel
theorem dJ6_bitCount_0f7a4_34 : decode cJ6_bitCount_0f7a4 34 = .ok (.iload_n 0, 1) := by decide +kernel
theorem dJ6_bitCount_0f7a4_35 : decode cJ6_bitCount_0f7a4 35 = .ok (.iload_n 0, 1) := by decide +kernel
theorem dJ6_bitCount_0f7a4_36 : decode cJ6_bitCount_0f7a4 36 = .ok (.bipush 8, 2) := by decide +kernel
theorem dJ6_bitCount_0f7a4_38 : decode cJ6_bitCount_0f7a4 38 = .ok (.iushr, 1) := by decide +kernel
theorem dJ6_bitCount_0f7a4_39 : decode cJ6_bitCount_0f7a4 39 = .ok (.iadd, 1) := by decide +kernel
theorem dJ6_bitCount_0f7a4_40 : decode cJ6_bitCount_0f7a4 40 = .ok (.istore_n 0, 1) := by decide +kernel
theorem dJ6_bitCount_0f7a4_41 : decode cJ6_bitCount_0f7a4 41 = .ok (.iload_n 0, 1) := by decide +kernel
theorem dJ6_bitCount_0f7a4_42 : decode cJ6_bitCount_0f7a4 42 = .ok (.iload_n 0, 1) := by decide +kernel
theorem dJ6_bitCount_0f7a4_43 : decode cJ6_bitCount_0f7a4 43 = .ok (.bipush 16, 2) := by decide +kernel
theorem dJ6_bitCount_0f7a4_45 : decode cJ6_bitCount_0f7a4 45 = .ok (.iushr, 1) := by decide +kernel
theorem dJ6_bitCount_0f7a4_46 : decode cJ6_bitCount_0f7a4 46 = .ok (.iadd, 1) := by decide +kernel
theorem dJ6_bitCount_0f7a4_47 : decode cJ6_bitCount_0f7a4 47 = .ok (.istore_n 0, 1) := by decide +kernel
theorem dJ6_bitCount_0f7a4_48 : decode cJ6_bitCount_0f7a4 48 = .ok (.iload_n 0, 1) := by decide +kernel
theorem dJ6_bitCount_0f7a4_49 : decode cJ6_bitCount_0f7a4 49 = .ok (.bipush 63, 2) := by decide +kernel
theorem dJ6_bitCount_0f7a4_51 : decode cJ6_bitCount_0f7a4 51 = .ok (.iand, 1) := by decide +kernel
theorem dJ6_bitCount_0f7a4_52 : decode cJ6_bitCount_0f7a4 52 = .ok (.ireturn, 1) := by decide +kernel
theorem dJ9_max_7cf53_0 : decode cJ9_max_7cf53 0 = .ok (.iload_n 0, 1) := by decide +kernel
theorem dJ9_max_7cf53_1 : decode cJ9_max_7cf53 1 = .ok (.iload_n 1, 1) := by decide +kernel
theorem dJ9_max_7cf53_2 : decode cJ9_max_7cf53 2 = .ok (.if_icmp .lt 7, 3) := by decide +kernel
theorem dJ9_max_7cf53_5 : decode cJ9_max_7cf53 5 = .ok (.iload_n 0, 1) := by decide +kernel
theorem dJ9_max_7cf53_6 : decode cJ9_max_7cf53 6 = .ok (.goto 4, 3) := by decide +kernel
theorem dJ9_max_7cf53_9 : decode cJ9_max_7cf53 9 = .ok (.iload_n 1, 1) := by decide +kernel
theorem dJ9_max_7cf53_10 : decode cJ9_max_7cf53 10 = .ok (.ireturn, 1) := by decide +kernel
theorem dJ9_min_7cf53_0 : decode cJ9_min_7cf53 0 = .ok (.iload_n 0, 1) := by decide +kernel
theorem dJ9_min_7cf53_1 : decode cJ9_min_7cf53 1 = .ok (.iload_n 1, 1) := by decide +kernel
theorem dJ9_min_7cf53_2 : decode cJ9_min_7cf53 2 = .ok (.if_icmp .gt 7, 3) := by decide +kernel
theorem dJ9_min_7cf53_5 : decode cJ9_min_7cf53 5 = .ok (.iload_n 0, 1) := by decide +kernel
theorem dJ9_min_7cf53_6 : decode cJ9_min_7cf53 6 = .ok (.goto 4, 3) := by decide +kernel
theorem dJ9_min_7cf53_9 : decode cJ9_min_7cf53 9 = .ok (.iload_n 1, 1) := by decide +kernel
theorem dJ9_min_7cf53_10 : decode cJ9_min_7cf53 10 = .ok (.ireturn, 1) := by decide +kernel
theorem dJ7_rangeCheck_23922_0 : decode cJ7_rangeCheck_23922 0 = .ok (.iload_n 1, 1) := by decide +kernel
theorem dJ7_rangeCheck_23922_1 : decode cJ7_rangeCheck_23922 1 = .ok (.iload_n 2, 1) := by decide +kernel
theorem dJ7_rangeCheck_23922_2 : decode cJ7_rangeCheck_23922 2 = .ok (.if_icmp .le 44, 3) := by decide +kernel
theorem dJ7_rangeCheck_23922_5 : decode cJ7_rangeCheck_23922 5 = .ok (.new 43, 3) := by decide +kernel
theorem dJ7_rangeCheck_23922_8 : decode cJ7_rangeCheck_23922 8 = .ok (.dup, 1) := by decide +kernel
theorem dJ7_rangeCheck_23922_9 : decode cJ7_rangeCheck_23922 9 = .ok (.new 45, 3) := by decide +kernel
theorem dJ7_rangeCheck_23922_12 : decode cJ7_rangeCheck_23922 12 = .ok (.dup, 1) := by decide +kernel
theorem dJ7_rangeCheck_23922_13 : decode cJ7_rangeCheck_23922 13 = .ok (.invokespecial 47, 3) := by decide +kernel
theorem dJ7_rangeCheck_23922_16 : decode cJ7_rangeCheck_23922 16 = .ok (.ldc 48, 2) := by decide +kernel
theorem dJ7_rangeCheck_23922_18 : decode cJ7_rangeCheck_23922 18 = .ok (.invokevirtual 50, 3) := by decide +kernel
theorem dJ7_rangeCheck_23922_21 : decode cJ7_rangeCheck_23922 21 = .ok (.iload_n 1, 1) := by decide +kernel
theorem dJ7_rangeCheck_23922_22 : decode cJ7_rangeCheck_23922 22 = .ok (.invokevirtual 54, 3) := by decide +kernel
theorem dJ7_rangeCheck_23922_25 : decode cJ7_rangeCheck_23922 25 = .ok (.ldc 57, 2) := by decide +kernel
theorem dJ7_rangeCheck_23922_27 : decode cJ7_rangeCheck_23922 27 = .ok (.invokevirtual 50, 3) := by decide +kernel
theorem dJ7_rangeCheck_23922_30 : decode cJ7_rangeCheck_23922 30 = .ok (.iload_n 2, 1) := by decide +kernel
theorem dJ7_rangeCheck_23922_31 : decode cJ7_rangeCheck_23922 31 = .ok (.invokevirtual 54, 3) := by decide +kernel
theorem dJ7_rangeCheck_23922_34 : decode cJ7_rangeCheck_23922 34 = .ok (.ldc 59, 2) := by decide +kernel
theorem dJ7_rangeCheck_23922_36 : decode cJ7_rangeCheck_23922 36 = .ok (.invokevirtual 50, 3) := by decide +kernel
theorem dJ7_rangeCheck_23922_39 : decode cJ7_rangeCheck_23922 39 = .ok (.invokevirtual 61, 3) := by decide +kernel
theorem dJ7_rangeCheck_23922_42 : decode cJ7_rangeCheck_23922 42 = .ok (.invokespecial 65, 3) := by decide +kernel
theorem dJ7_rangeCheck_23922_45 : decode cJ7_rangeCheck_23922 45 = .ok (.athrow, 1) := by decide +kernel
theorem dJ7_rangeCheck_23922_46 : decode cJ7_rangeCheck_23922 46 = .ok (.iload_n 1, 1) := by decide +kernel
theorem dJ7_rangeCheck_23922_47 : decode cJ7_rangeCheck_23922 47 = .ok (.ifCond .ge 12, 3) := by decide +kernel
theorem dJ7_rangeCheck_23922_50 : decode cJ7_rangeCheck_23922 50 = .ok (.new 68, 3) := by decide +kernel
theorem dJ7_rangeCheck_23922_53 : decode cJ7_rangeCheck_23922 53 = .ok (.dup, 1) := by decide +kernel
theorem dJ7_rangeCheck_23922_54 : decode cJ7_rangeCheck_23922 54 = .ok (.iload_n 1, 1) := by decide +kernel
theorem dJ7_rangeCheck_23922_55 : decode cJ7_rangeCheck_23922 55 = .ok (.invokespecial 70, 3) := by decide +kernel
theorem dJ7_rangeCheck_23922_58 : decode cJ7_rangeCheck_23922 58 = .ok (.athrow, 1) := by decide +kernel
theorem dJ7_rangeCheck_23922_59 : decode cJ7_rangeCheck_23922 59 = .ok (.iload_n 2, 1) := by decide +kernel
theorem dJ7_rangeCheck_23922_60 : decode cJ7_rangeCheck_23922 60 = .ok (.iload_n 0, 1) := by decide +kernel
theorem dJ7_rangeCheck_23922_61 : decode cJ7_rangeCheck_23922 61 = .ok (.if_icmp .le 12, 3) := by decide +kernel
theorem dJ7_rangeCheck_23922_64 : decode cJ7_rangeCheck_23922 64 = .ok (.new 68, 3) := by decide +kernel
theorem dJ7_rangeCheck_23922_67 : decode cJ7_rangeCheck_23922 67 = .ok (.dup, 1) := by decide +kernel
theorem dJ7_rangeCheck_23922_68 : decode cJ7_rangeCheck_23922 68 = .ok (.iload_n 2, 1) := by decide +kernel
theorem dJ7_rangeCheck_23922_69 : decode cJ7_rangeCheck_23922 69 = .ok (.invokespecial 70, 3) := by decide +kernel
theorem dJ7_rangeCheck_23922_72 : decode cJ7_rangeCheck_23922 72 = .ok (.athrow, 1) := by decide +kernel
theorem dJ7_rangeCheck_23922_73 : decode cJ7_rangeCheck_23922 73 = .ok (.return_, 1) := by decide +kernel
theorem dJ7_fill_53178_0 : decode cJ7_fill_53178 0 = .ok (.iconst 0, 1) := by decide +kernel
theorem dJ7_fill_53178_1 : decode cJ7_fill_53178 1 = .ok (.istore_n 2, 1) := by decide +kernel
theorem dJ7_fill_53178_2 : decode cJ7_fill_53178 2 = .ok (.aload_n 0, 1) := by decide +kernel
theorem dJ7_fill_53178_3 : decode cJ7_fill_53178 3 = .ok (.arraylength, 1) := by decide +kernel
theorem dJ7_fill_53178_4 : decode cJ7_fill_53178 4 = .ok (.istore_n 3, 1) := by decide +kernel
theorem dJ7_fill_53178_5 : decode cJ7_fill_53178 5 = .ok (.iload_n 2, 1) := by decide +kernel
theorem dJ7_fill_53178_6 : decode cJ7_fill_53178 6 = .ok (.iload_n 3, 1) := by decide +kernel
theorem dJ7_fill_53178_7 : decode cJ7_fill_53178 7 = .ok (.if_icmp .ge 13, 3) := by decide +kernel
theorem dJ7_fill_53178_10 : decode cJ7_fill_53178 10 = .ok (.aload_n 0, 1) := by decide +kernel
theorem dJ7_fill_53178_11 : decode cJ7_fill_53178 11 = .ok (.iload_n 2, 1) := by decide +kernel
theorem dJ7_fill_53178_12 : decode cJ7_fill_53178 12 = .ok (.iload_n 1, 1) := by decide +kernel
theorem dJ7_fill_53178_13 : decode cJ7_fill_53178 13 = .ok (.iastore, 1) := by decide +kernel
theorem dJ7_fill_53178_14 : decode cJ7_fill_53178 14 = .ok (.iinc 2 1, 3) := by decide +kernel
theorem dJ7_fill_53178_17 : decode cJ7_fill_53178 17 = .ok (.goto (-12), 3) := by decide +kernel
theorem dJ7_fill_53178_20 : decode cJ7_fill_53178 20 = .ok (.return_, 1) := by decide +kernel
theorem dJ7_fill_fda19_0 : decode cJ7_fill_fda19 0 = .ok (.aload_n 0, 1) := by decide +kernel
theorem dJ7_fill_fda19_1 : decode cJ7_fill_fda19 1 = .ok (.arraylength, 1) := by decide +kernel
theorem dJ7_fill_fda19_2 : decode cJ7_fill_fda19 2 = .ok (.iload_n 1, 1) := by decide +kernel
theorem dJ7_fill_fda19_3 : decode cJ7_fill_fda19 3 = .ok (.iload_n 2, 1) := by decide +kernel
theorem dJ7_fill_fda19_4 : decode cJ7_fill_fda19 4 = .ok (.invokestatic 13, 3) := by decide +kernel
theorem dJ7_fill_fda19_7 : decode cJ7_fill_fda19 7 = .ok (.iload_n 1, 1) := by decide +kernel
theorem dJ7_fill_fda19_8 : decode cJ7_fill_fda19 8 = .ok (.istore 4, 2) := by decide +kernel
theorem dJ7_fill_fda19_10 : decode cJ7_fill_fda19 10 = .ok (.iload 4, 2) := by decide +kernel
theorem dJ7_fill_fda19_12 : decode cJ7_fill_fda19 12 = .ok (.iload_n 2, 1) := by decide +kernel
theorem dJ7_fill_fda19_13 : decode cJ7_fill_fda19 13 = .ok (.if_icmp .ge 14, 3) := by decide +kernel
theorem dJ7_fill_fda19_16 : decode cJ7_fill_fda19 16 = .ok (.aload_n 0, 1) := by decide +kernel
theorem dJ7_fill_fda19_17 : decode cJ7_fill_fda19 17 = .ok (.iload 4, 2) := by decide +kernel
theorem dJ7_fill_fda19_19 : decode cJ7_fill_fda19 19 = .ok (.iload_n 3, 1) := by decide +kernel
theorem dJ7_fill_fda19_20 : decode cJ7_fill_fda19 20 = .ok (.iastore, 1) := by decide +kernel
theorem dJ7_fill_fda19_21 : decode cJ7_fill_fda19 21 = .ok (.iinc 4 1, 3) := by decide +kernel
theorem dJ7_fill_fda19_24 : decode cJ7_fill_fda19 24 = .ok (.goto (-14), 3) := by decide +kernel
theorem dJ7_fill_fda19_27 : decode cJ7_fill_fda19 27 = .ok (.return_, 1) := by decide +kernel
theorem dL_law_0 : decode cL_law 0 = .ok (.new 7, 3) := by decide +kernel
theorem dL_law_3 : decode cL_law 3 = .ok (.dup, 1) := by decide +kernel
theorem dL_law_4 : decode cL_law 4 = .ok (.invokespecial 9, 3) := by decide +kernel
theorem dL_law_7 : decode cL_law 7 = .ok (.astore_n 1, 1) := by decide +kernel
theorem dL_law_8 : decode cL_law 8 = .ok (.new 10, 3) := by decide +kernel
theorem dL_law_11 : decode cL_law 11 = .ok (.dup, 1) := by decide +kernel
theorem dL_law_12 : decode cL_law 12 = .ok (.invokespecial 12, 3) := by decide +kernel
theorem dL_law_15 : decode cL_law 15 = .ok (.astore_n 2, 1) := by decide +kernel
theorem dL_law_16 : decode cL_law 16 = .ok (.iconst 0, 1) := by decide +kernel
theorem dL_law_17 : decode cL_law 17 = .ok (.istore_n 3, 1) := by decide +kernel
theorem dL_law_18 : decode cL_law 18 = .ok (.iload_n 3, 1) := by decide +kernel
theorem dL_law_19 : decode cL_law 19 = .ok (.aload_n 0, 1) := by decide +kernel
theorem dL_law_20 : decode cL_law 20 = .ok (.arraylength, 1) := by decide +kernel
theorem dL_law_21 : decode cL_law 21 = .ok (.iconst 4, 1) := by decide +kernel
theorem dL_law_22 : decode cL_law 22 = .ok (.isub, 1) := by decide +kernel
theorem dL_law_23 : decode cL_law 23 = .ok (.if_icmp .gt 715, 3) := by decide +kernel
theorem dL_law_26 : decode cL_law 26 = .ok (.aload_n 0, 1) := by decide +kernel
theorem dL_law_27 : decode cL_law 27 = .ok (.iload_n 3, 1) := by decide +kernel
theorem dL_law_28 : decode cL_law 28 = .ok (.iaload, 1) := by decide +kernel
theorem dL_law_29 : decode cL_law 29 = .ok (.bipush 31, 2) := by decide +kernel
theorem dL_law_31 : decode cL_law 31 = .ok (.iand, 1) := by decide +kernel
theorem dL_law_32 : decode cL_law 32 = .ok (.tableswitch 700 0 21 #[104, 137, 180, 213, 236, 279, 302, 335, 368, 391, 414, 437, 460, 503, 526, 549, 602, 615, 628, 641, 654, 677], 104) := by decide +kernel
theorem dL_law_136 : decode cL_law 136 = .ok (.aload_n 1, 1) := by decide +kernel
theorem dL_law_137 : decode cL_law 137 = .ok (.aload_n 0, 1) := by decide +kernel
theorem dL_law_138 : decode cL_law 138 = .ok (.iload_n 3, 1) := by decide +kernel
theorem dL_law_139 : decode cL_law 139 = .ok (.iconst 1, 1) := by decide +kernel
theorem dL_law_140 : decode cL_law 140 = .ok (.iadd, 1) := by decide +kernel
theorem dL_law_141 : decode cL_law 141 = .ok (.iaload, 1) := by decide +kernel
theorem dL_law_142 : decode cL_law 142 = .ok (.aload_n 0, 1) := by decide +kernel
theorem dL_law_143 : decode cL_law 143 = .ok (.iload_n 3, 1) := by decide +kernel
theorem dL_law_144 : decode cL_law 144 = .ok (.iconst 2, 1) := by decide +kernel
theorem dL_law_145 : decode cL_law 145 = .ok (.iadd, 1) := by decide +kernel
theorem dL_law_146 : decode cL_law 146 = .ok (.iaload, 1) := by decide +kernel
theorem dL_law_147 : decode cL_law 147 = .ok (.invokevirtual 13, 3) := by decide +kernel
theorem dL_law_150 : decode cL_law 150 = .ok (.aload_n 2, 1) := by decide +kernel
theorem dL_law_151 : decode cL_law 151 = .ok (.aload_n 0, 1) := by decide +kernel
theorem dL_law_152 : decode cL_law 152 = .ok (.iload_n 3, 1) := by decide +kernel
theorem dL_law_153 : decode cL_law 153 = .ok (.iconst 1, 1) := by decide +kernel
theorem dL_law_154 : decode cL_law 154 = .ok (.iadd, 1) := by decide +kernel
theorem dL_law_155 : decode cL_law 155 = .ok (.iaload, 1) := by decide +kernel
theorem dL_law_156 : decode cL_law 156 = .ok (.aload_n 0, 1) := by decide +kernel
theorem dL_law_157 : decode cL_law 157 = .ok (.iload_n 3, 1) := by decide +kernel
theorem dL_law_158 : decode cL_law 158 = .ok (.iconst 2, 1) := by decide +kernel
theorem dL_law_159 : decode cL_law 159 = .ok (.iadd, 1) := by decide +kernel
theorem dL_law_160 : decode cL_law 160 = .ok (.iaload, 1) := by decide +kernel
theorem dL_law_161 : decode cL_law 161 = .ok (.invokevirtual 17, 3) := by decide +kernel
theorem dL_law_164 : decode cL_law 164 = .ok (.if_icmp .eq 568, 3) := by decide +kernel
theorem dL_law_167 : decode cL_law 167 = .ok (.iconst 0, 1) := by decide +kernel
theorem dL_law_168 : decode cL_law 168 = .ok (.ireturn, 1) := by decide +kernel
theorem dL_law_169 : decode cL_law 169 = .ok (.aload_n 1, 1) := by decide +kernel
theorem dL_law_170 : decode cL_law 170 = .ok (.aload_n 0, 1) := by decide +kernel
theorem dL_law_171 : decode cL_law 171 = .ok (.iload_n 3, 1) := by decide +kernel
theorem dL_law_172 : decode cL_law 172 = .ok (.iconst 1, 1) := by decide +kernel
theorem dL_law_173 : decode cL_law 173 = .ok (.iadd, 1) := by decide +kernel
theorem dL_law_174 : decode cL_law 174 = .ok (.iaload, 1) := by decide +kernel
theorem dL_law_175 : decode cL_law 175 = .ok (.aload_n 0, 1) := by decide +kernel
theorem dL_law_176 : decode cL_law 176 = .ok (.iload_n 3, 1) := by decide +kernel
theorem dL_law_177 : decode cL_law 177 = .ok (.iconst 2, 1) := by decide +kernel
theorem dL_law_178 : decode cL_law 178 = .ok (.iadd, 1) := by decide +kernel
theorem dL_law_179 : decode cL_law 179 = .ok (.iaload, 1) := by decide +kernel
theorem dL_law_180 : decode cL_law 180 = .ok (.aload_n 0, 1) := by decide +kernel
theorem dL_law_181 : decode cL_law 181 = .ok (.iload_n 3, 1) := by decide +kernel
theorem dL_law_182 : decode cL_law 182 = .ok (.iconst 3, 1) := by decide +kernel
theorem dL_law_183 : decode cL_law 183 = .ok (.iadd, 1) := by decide +kernel
theorem dL_law_184 : decode cL_law 184 = .ok (.iaload, 1) := by decide +kernel
theorem dL_law_185 : decode cL_law 185 = .ok (.invokevirtual 18, 3) := by decide +kernel
theorem dL_law_188 : decode cL_law 188 = .ok (.aload_n 2, 1) := by decide +kernel
theorem dL_law_189 : decode cL_law 189 = .ok (.aload_n 0, 1) := by decide +kernel
theorem dL_law_190 : decode cL_law 190 = .ok (.iload_n 3, 1) := by decide +kernel
theorem dL_law_191 : decode cL_law 191 = .ok (.iconst 1, 1) := by decide +kernel
theorem dL_law_192 : decode cL_law 192 = .ok (.iadd, 1) := by decide +kernel
theorem dL_law_193 : decode cL_law 193 = .ok (.iaload, 1) := by decide +kernel
theorem dL_law_194 : decode cL_law 194 = .ok (.aload_n 0, 1) := by decide +kernel
theorem dL_law_195 : decode cL_law 195 = .ok (.iload_n 3, 1) := by decide +kernel
theorem dL_law_196 : decode cL_law 196 = .ok (.iconst 2, 1) := by decide +kernel
theorem dL_law_197 : decode cL_law 197 = .ok (.iadd, 1) := by decide +kernel
theorem dL_law_198 : decode cL_law 198 = .ok (.iaload, 1) := by decide +kernel
theorem dL_law_199 : decode cL_law 199 = .ok (.aload_n 0, 1) := by decide +kernel
theorem dL_law_200 : decode cL_law 200 = .ok (.iload_n 3, 1) := by decide +kernel
theorem dL_law_201 : decode cL_law 201 = .ok (.iconst 3, 1) := by decide +kernel
theorem dL_law_202 : decode cL_law 202 = .ok (.iadd, 1) := by decide +kernel
theorem dL_law_203 : decode cL_law 203 = .ok (.iaload, 1) := by decide +kernel
theorem dL_law_204 : decode cL_law 204 = .ok (.invokevirtual 22, 3) := by decide +kernel
theorem dL_law_207 : decode cL_law 207 = .ok (.if_icmp .eq 525, 3) := by decide +kernel
theorem dL_law_210 : decode cL_law 210 = .ok (.iconst 0, 1) := by decide +kernel
theorem dL_law_211 : decode cL_law 211 = .ok (.ireturn, 1) := by decide +kernel
theorem dL_law_212 : decode cL_law 212 = .ok (.aload_n 1, 1) := by decide +kernel
theorem dL_law_213 : decode cL_law 213 = .ok (.aload_n 0, 1) := by decide +kernel
theorem dL_law_214 : decode cL_law 214 = .ok (.iload_n 3, 1) := by decide +kernel
theorem dL_law_215 : decode cL_law 215 = .ok (.iconst 1, 1) := by decide +kernel
theorem dL_law_216 : decode cL_law 216 = .ok (.iadd, 1) := by decide +kernel
theorem dL_law_217 : decode cL_law 217 = .ok (.iaload, 1) := by decide +kernel
theorem dL_law_218 : decode cL_law 218 = .ok (.aload_n 0, 1) := by decide +kernel
theorem dL_law_219 : decode cL_law 219 = .ok (.iload_n 3, 1) := by decide +kernel
theorem dL_law_220 : decode cL_law 220 = .ok (.iconst 2, 1) := by decide +kernel
theorem dL_law_221 : decode cL_law 221 = .ok (.iadd, 1) := by decide +kernel
theorem dL_law_222 : decode cL_law 222 = .ok (.iaload, 1) := by decide +kernel
theorem dL_law_223 : decode cL_law 223 = .ok (.invokevirtual 23, 3) := by decide +kernel
theorem dL_law_226 : decode cL_law 226 = .ok (.aload_n 2, 1) := by decide +kernel
theorem dL_law_227 : decode cL_law 227 = .ok (.aload_n 0, 1) := by decide +kernel
theorem dL_law_228 : decode cL_law 228 = .ok (.iload_n 3, 1) := by decide +kernel
theorem dL_law_229 : decode cL_law 229 = .ok (.iconst 1, 1) := by decide +kernel
theorem dL_law_230 : decode cL_law 230 = .ok (.iadd, 1) := by decide +kernel
theorem dL_law_231 : decode cL_law 231 = .ok (.iaload, 1) := by decide +kernel
theorem dL_law_232 : decode cL_law 232 = .ok (.aload_n 0, 1) := by decide +kernel
theorem dL_law_233 : decode cL_law 233 = .ok (.iload_n 3, 1) := by decide +kernel
theorem dL_law_234 : decode cL_law 234 = .ok (.iconst 2, 1) := by decide +kernel
theorem dL_law_235 : decode cL_law 235 = .ok (.iadd, 1) := by decide +kernel
theorem dL_law_236 : decode cL_law 236 = .ok (.iaload, 1) := by decide +kernel
theorem dL_law_237 : decode cL_law 237 = .ok (.invokevirtual 26, 3) := by decide +kernel
theorem dL_law_240 : decode cL_law 240 = .ok (.if_icmp .eq 492, 3) := by decide +kernel
theorem dL_law_243 : decode cL_law 243 = .ok (.iconst 0, 1) := by decide +kernel
theorem dL_law_244 : decode cL_law 244 = .ok (.ireturn, 1) := by decide +kernel
theorem dL_law_245 : decode cL_law 245 = .ok (.aload_n 1, 1) := by decide +kernel
theorem dL_law_246 : decode cL_law 246 = .ok (.aload_n 0, 1) := by decide +kernel
theorem dL_law_247 : decode cL_law 247 = .ok (.iload_n 3, 1) := by decide +kernel
theorem dL_law_248 : decode cL_law 248 = .ok (.iconst 1, 1) := by decide +kernel
theorem dL_law_249 : decode cL_law 249 = .ok (.iadd, 1) := by decide +kernel
theorem dL_law_250 : decode cL_law 250 = .ok (.iaload, 1) := by decide +kernel
theorem dL_law_251 : decode cL_law 251 = .ok (.invokevirtual 27, 3) := by decide +kernel
theorem dL_law_254 : decode cL_law 254 = .ok (.aload_n 2, 1) := by decide +kernel
theorem dL_law_255 : decode cL_law 255 = .ok (.aload_n 0, 1) := by decide +kernel
theorem dL_law_256 : decode cL_law 256 = .ok (.iload_n 3, 1) := by decide +kernel
theorem dL_law_257 : decode cL_law 257 = .ok (.iconst 1, 1) := by decide +kernel
theorem dL_law_258 : decode cL_law 258 = .ok (.iadd, 1) := by decide +kernel
theorem dL_law_259 : decode cL_law 259 = .ok (.iaload, 1) := by decide +kernel
theorem dL_law_260 : decode cL_law 260 = .ok (.invokevirtual 31, 3) := by decide +kernel
theorem dL_law_263 : decode cL_law 263 = .ok (.if_icmp .eq 469, 3) := by decide +kernel
theorem dL_law_266 : decode cL_law 266 = .ok (.iconst 0, 1) := by decide +kernel
theorem dL_law_267 : decode cL_law 267 = .ok (.ireturn, 1) := by decide +kernel
theorem dL_law_268 : decode cL_law 268 = .ok (.aload_n 1, 1) := by decide +kernel
theorem dL_law_269 : decode cL_law 269 = .ok (.aload_n 0, 1) := by decide +kernel
theorem dL_law_270 : decode cL_law 270 = .ok (.iload_n 3, 1) := by decide +kernel
theorem dL_law_271 : decode cL_law 271 = .ok (.iconst 1, 1) := by decide +kernel
theorem dL_law_272 : decode cL_law 272 = .ok (.iadd, 1) := by decide +kernel
theorem dL_law_273 : decode cL_law 273 = .ok (.iaload, 1) := by decide +kernel
theorem dL_law_274 : decode cL_law 274 = .ok (.aload_n 0, 1) := by decide +kernel
theorem dL_law_275 : decode cL_law 275 = .ok (.iload_n 3, 1) := by decide +kernel
theorem dL_law_276 : decode cL_law 276 = .ok (.iconst 2, 1) := by decide +kernel
theorem dL_law_277 : decode cL_law 277 = .ok (.iadd, 1) := by decide +kernel
theorem dL_law_278 : decode cL_law 278 = .ok (.iaload, 1) := by decide +kernel
theorem dL_law_279 : decode cL_law 279 = .ok (.aload_n 0, 1) := by decide +kernel
theorem dL_law_280 : decode cL_law 280 = .ok (.iload_n 3, 1) := by decide +kernel
theorem dL_law_281 : decode cL_law 281 = .ok (.iconst 3, 1) := by decide +kernel
theorem dL_law_282 : decode cL_law 282 = .ok (.iadd, 1) := by decide +kernel
theorem dL_law_283 : decode cL_law 283 = .ok (.iaload, 1) := by decide +kernel
theorem dL_law_284 : decode cL_law 284 = .ok (.invokevirtual 32, 3) := by decide +kernel
theorem dL_law_287 : decode cL_law 287 = .ok (.aload_n 2, 1) := by decide +kernel
theorem dL_law_288 : decode cL_law 288 = .ok (.aload_n 0, 1) := by decide +kernel
theorem dL_law_289 : decode cL_law 289 = .ok (.iload_n 3, 1) := by decide +kernel
theorem dL_law_290 : decode cL_law 290 = .ok (.iconst 1, 1) := by decide +kernel
theorem dL_law_291 : decode cL_law 291 = .ok (.iadd, 1) := by decide +kernel
theorem dL_law_292 : decode cL_law 292 = .ok (.iaload, 1) := by decide +kernel
theorem dL_law_293 : decode cL_law 293 = .ok (.aload_n 0, 1) := by decide +kernel
theorem dL_law_294 : decode cL_law 294 = .ok (.iload_n 3, 1) := by decide +kernel
theorem dL_law_295 : decode cL_law 295 = .ok (.iconst 2, 1) := by decide +kernel
theorem dL_law_296 : decode cL_law 296 = .ok (.iadd, 1) := by decide +kernel
theorem dL_law_297 : decode cL_law 297 = .ok (.iaload, 1) := by decide +kernel
theorem dL_law_298 : decode cL_law 298 = .ok (.aload_n 0, 1) := by decide +kernel
theorem dL_law_299 : decode cL_law 299 = .ok (.iload_n 3, 1) := by decide +kernel
theorem dL_law_300 : decode cL_law 300 = .ok (.iconst 3, 1) := by decide +kernel
theorem dL_law_301 : decode cL_law 301 = .ok (.iadd, 1) := by decide +kernel
theorem dL_law_302 : decode cL_law 302 = .ok (.iaload, 1) := by decide +kernel
theorem dL_law_303 : decode cL_law 303 = .ok (.invokevirtual 35, 3) := by decide +kernel
theorem dL_law_306 : decode cL_law 306 = .ok (.if_icmp .eq 426, 3) := by decide +kernel
theorem dL_law_309 : decode cL_law 309 = .ok (.iconst 0, 1) := by decide +kernel
theorem dL_law_310 : decode cL_law 310 = .ok (.ireturn, 1) := by decide +kernel
theorem dL_law_311 : decode cL_law 311 = .ok (.aload_n 1, 1) := by decide +kernel
theorem dL_law_312 : decode cL_law 312 = .ok (.aload_n 0, 1) := by decide +kernel
theorem dL_law_313 : decode cL_law 313 = .ok (.iload_n 3, 1) := by decide +kernel
theorem dL_law_314 : decode cL_law 314 = .ok (.iconst 1, 1) := by decide +kernel
theorem dL_law_315 : decode cL_law 315 = .ok (.iadd, 1) := by decide +kernel
theorem dL_law_316 : decode cL_law 316 = .ok (.iaload, 1) := by decide +kernel
theorem dL_law_317 : decode cL_law 317 = .ok (.invokevirtual 36, 3) := by decide +kernel
theorem dL_law_320 : decode cL_law 320 = .ok (.aload_n 2, 1) := by decide +kernel
theorem dL_law_321 : decode cL_law 321 = .ok (.aload_n 0, 1) := by decide +kernel
theorem dL_law_322 : decode cL_law 322 = .ok (.iload_n 3, 1) := by decide +kernel
theorem dL_law_323 : decode cL_law 323 = .ok (.iconst 1, 1) := by decide +kernel
theorem dL_law_324 : decode cL_law 324 = .ok (.iadd, 1) := by decide +kernel
theorem dL_law_325 : decode cL_law 325 = .ok (.iaload, 1) := by decide +kernel
theorem dL_law_326 : decode cL_law 326 = .ok (.invokevirtual 39, 3) := by decide +kernel
theorem dL_law_329 : decode cL_law 329 = .ok (.if_icmp .eq 403, 3) := by decide +kernel
theorem dL_law_332 : decode cL_law 332 = .ok (.iconst 0, 1) := by decide +kernel
theorem dL_law_333 : decode cL_law 333 = .ok (.ireturn, 1) := by decide +kernel
theorem dL_law_334 : decode cL_law 334 = .ok (.aload_n 1, 1) := by decide +kernel
theorem dL_law_335 : decode cL_law 335 = .ok (.aload_n 0, 1) := by decide +kernel
theorem dL_law_336 : decode cL_law 336 = .ok (.iload_n 3, 1) := by decide +kernel
theorem dL_law_337 : decode cL_law 337 = .ok (.iconst 1, 1) := by decide +kernel
theorem dL_law_338 : decode cL_law 338 = .ok (.iadd, 1) := by decide +kernel
theorem dL_law_339 : decode cL_law 339 = .ok (.iaload, 1) := by decide +kernel
theorem dL_law_340 : decode cL_law 340 = .ok (.aload_n 0, 1) := by decide +kernel
theorem dL_law_341 : decode cL_law 341 = .ok (.iload_n 3, 1) := by decide +kernel
theorem dL_law_342 : decode cL_law 342 = .ok (.iconst 2, 1) := by decide +kernel
theorem dL_law_343 : decode cL_law 343 = .ok (.iadd, 1) := by decide +kernel
theorem dL_law_344 : decode cL_law 344 = .ok (.iaload, 1) := by decide +kernel
theorem dL_law_345 : decode cL_law 345 = .ok (.invokevirtual 40, 3) := by decide +kernel
theorem dL_law_348 : decode cL_law 348 = .ok (.aload_n 2, 1) := by decide +kernel
theorem dL_law_349 : decode cL_law 349 = .ok (.aload_n 0, 1) := by decide +kernel
theorem dL_law_350 : decode cL_law 350 = .ok (.iload_n 3, 1) := by decide +kernel
theorem dL_law_351 : decode cL_law 351 = .ok (.iconst 1, 1) := by decide +kernel
theorem dL_law_352 : decode cL_law 352 = .ok (.iadd, 1) := by decide +kernel
theorem dL_law_353 : decode cL_law 353 = .ok (.iaload, 1) := by decide +kernel
theorem dL_law_354 : decode cL_law 354 = .ok (.aload_n 0, 1) := by decide +kernel
theorem dL_law_355 : decode cL_law 355 = .ok (.iload_n 3, 1) := by decide +kernel
theorem dL_law_356 : decode cL_law 356 = .ok (.iconst 2, 1) := by decide +kernel
theorem dL_law_357 : decode cL_law 357 = .ok (.iadd, 1) := by decide +kernel
theorem dL_law_358 : decode cL_law 358 = .ok (.iaload, 1) := by decide +kernel
theorem dL_law_359 : decode cL_law 359 = .ok (.invokevirtual 43, 3) := by decide +kernel
theorem dL_law_362 : decode cL_law 362 = .ok (.if_icmp .eq 370, 3) := by decide +kernel
theorem dL_law_365 : decode cL_law 365 = .ok (.iconst 0, 1) := by decide +kernel
theorem dL_law_366 : decode cL_law 366 = .ok (.ireturn, 1) := by decide +kernel
theorem dL_law_367 : decode cL_law 367 = .ok (.aload_n 1, 1) := by decide +kernel
theorem dL_law_368 : decode cL_law 368 = .ok (.aload_n 0, 1) := by decide +kernel
theorem dL_law_369 : decode cL_law 369 = .ok (.iload_n 3, 1) := by decide +kernel
theorem dL_law_370 : decode cL_law 370 = .ok (.iconst 1, 1) := by decide +kernel
theorem dL_law_371 : decode cL_law 371 = .ok (.iadd, 1) := by decide +kernel
theorem dL_law_372 : decode cL_law 372 = .ok (.iaload, 1) := by decide +kernel
theorem dL_law_373 : decode cL_law 373 = .ok (.aload_n 0, 1) := by decide +kernel
theorem dL_law_374 : decode cL_law 374 = .ok (.iload_n 3, 1) := by decide +kernel
theorem dL_law_375 : decode cL_law 375 = .ok (.iconst 2, 1) := by decide +kernel
theorem dL_law_376 : decode cL_law 376 = .ok (.iadd, 1) := by decide +kernel
theorem dL_law_377 : decode cL_law 377 = .ok (.iaload, 1) := by decide +kernel
theorem dL_law_378 : decode cL_law 378 = .ok (.invokevirtual 44, 3) := by decide +kernel
theorem dL_law_381 : decode cL_law 381 = .ok (.aload_n 2, 1) := by decide +kernel
theorem dL_law_382 : decode cL_law 382 = .ok (.aload_n 0, 1) := by decide +kernel
theorem dL_law_383 : decode cL_law 383 = .ok (.iload_n 3, 1) := by decide +kernel
theorem dL_law_384 : decode cL_law 384 = .ok (.iconst 1, 1) := by decide +kernel
theorem dL_law_385 : decode cL_law 385 = .ok (.iadd, 1) := by decide +kernel
theorem dL_law_386 : decode cL_law 386 = .ok (.iaload, 1) := by decide +kernel
theorem dL_law_387 : decode cL_law 387 = .ok (.aload_n 0, 1) := by decide +kernel
theorem dL_law_388 : decode cL_law 388 = .ok (.iload_n 3, 1) := by decide +kernel
theorem dL_law_389 : decode cL_law 389 = .ok (.iconst 2, 1) := by decide +kernel
theorem dL_law_390 : decode cL_law 390 = .ok (.iadd, 1) := by decide +kernel
theorem dL_law_391 : decode cL_law 391 = .ok (.iaload, 1) := by decide +kernel
theorem dL_law_392 : decode cL_law 392 = .ok (.invokevirtual 47, 3) := by decide +kernel
theorem dL_law_395 : decode cL_law 395 = .ok (.if_icmp .eq 337, 3) := by decide +kernel
theorem dL_law_398 : decode cL_law 398 = .ok (.iconst 0, 1) := by decide +kernel
theorem dL_law_399 : decode cL_law 399 = .ok (.ireturn, 1) := by decide +kernel
theorem dL_law_400 : decode cL_law 400 = .ok (.aload_n 1, 1) := by decide +kernel
theorem dL_law_401 : decode cL_law 401 = .ok (.aload_n 0, 1) := by decide +kernel
theorem dL_law_402 : decode cL_law 402 = .ok (.iload_n 3, 1) := by decide +kernel
theorem dL_law_403 : decode cL_law 403 = .ok (.iconst 1, 1) := by decide +kernel
theorem dL_law_404 : decode cL_law 404 = .ok (.iadd, 1) := by decide +kernel
theorem dL_law_405 : decode cL_law 405 = .ok (.iaload, 1) := by decide +kernel
theorem dL_law_406 : decode cL_law 406 = .ok (.invokevirtual 48, 3) := by decide +kernel
theorem dL_law_409 : decode cL_law 409 = .ok (.aload_n 2, 1) := by decide +kernel
theorem dL_law_410 : decode cL_law 410 = .ok (.aload_n 0, 1) := by decide +kernel
theorem dL_law_411 : decode cL_law 411 = .ok (.iload_n 3, 1) := by decide +kernel
theorem dL_law_412 : decode cL_law 412 = .ok (.iconst 1, 1) := by decide +kernel
theorem dL_law_413 : decode cL_law 413 = .ok (.iadd, 1) := by decide +kernel
theorem dL_law_414 : decode cL_law 414 = .ok (.iaload, 1) := by decide +kernel
theorem dL_law_415 : decode cL_law 415 = .ok (.invokevirtual 51, 3) := by decide +kernel
theorem dL_law_418 : decode cL_law 418 = .ok (.if_icmp .eq 314, 3) := by decide +kernel
theorem dL_law_421 : decode cL_law 421 = .ok (.iconst 0, 1) := by decide +kernel
theorem dL_law_422 : decode cL_law 422 = .ok (.ireturn, 1) := by decide +kernel
theorem dL_law_423 : decode cL_law 423 = .ok (.aload_n 1, 1) := by decide +kernel
theorem dL_law_424 : decode cL_law 424 = .ok (.aload_n 0, 1) := by decide +kernel
theorem dL_law_425 : decode cL_law 425 = .ok (.iload_n 3, 1) := by decide +kernel
theorem dL_law_426 : decode cL_law 426 = .ok (.iconst 1, 1) := by decide +kernel
theorem dL_law_427 : decode cL_law 427 = .ok (.iadd, 1) := by decide +kernel
theorem dL_law_428 : decode cL_law 428 = .ok (.iaload, 1) := by decide +kernel
theorem dL_law_429 : decode cL_law 429 = .ok (.invokevirtual 52, 3) := by decide +kernel
theorem dL_law_432 : decode cL_law 432 = .ok (.aload_n 2, 1) := by decide +kernel
theorem dL_law_433 : decode cL_law 433 = .ok (.aload_n 0, 1) := by decide +kernel
theorem dL_law_434 : decode cL_law 434 = .ok (.iload_n 3, 1) := by decide +kernel
theorem dL_law_435 : decode cL_law 435 = .ok (.iconst 1, 1) := by decide +kernel
theorem dL_law_436 : decode cL_law 436 = .ok (.iadd, 1) := by decide +kernel
theorem dL_law_437 : decode cL_law 437 = .ok (.iaload, 1) := by decide +kernel
theorem dL_law_438 : decode cL_law 438 = .ok (.invokevirtual 55, 3) := by decide +kernel
theorem dL_law_441 : decode cL_law 441 = .ok (.if_icmp .eq 291, 3) := by decide +kernel
theorem dL_law_444 : decode cL_law 444 = .ok (.iconst 0, 1) := by decide +kernel
theorem dL_law_445 : decode cL_law 445 = .ok (.ireturn, 1) := by decide +kernel
theorem dL_law_446 : decode cL_law 446 = .ok (.aload_n 1, 1) := by decide +kernel
theorem dL_law_447 : decode cL_law 447 = .ok (.aload_n 0, 1) := by decide +kernel
theorem dL_law_448 : decode cL_law 448 = .ok (.iload_n 3, 1) := by decide +kernel
theorem dL_law_449 : decode cL_law 449 = .ok (.iconst 1, 1) := by decide +kernel
theorem dL_law_450 : decode cL_law 450 = .ok (.iadd, 1) := by decide +kernel
theorem dL_law_451 : decode cL_law 451 = .ok (.iaload, 1) := by decide +kernel
theorem dL_law_452 : decode cL_law 452 = .ok (.invokevirtual 56, 3) := by decide +kernel
theorem dL_law_455 : decode cL_law 455 = .ok (.aload_n 2, 1) := by decide +kernel
theorem dL_law_456 : decode cL_law 456 = .ok (.aload_n 0, 1) := by decide +kernel
theorem dL_law_457 : decode cL_law 457 = .ok (.iload_n 3, 1) := by decide +kernel
theorem dL_law_458 : decode cL_law 458 = .ok (.iconst 1, 1) := by decide +kernel
theorem dL_law_459 : decode cL_law 459 = .ok (.iadd, 1) := by decide +kernel
theorem dL_law_460 : decode cL_law 460 = .ok (.iaload, 1) := by decide +kernel
theorem dL_law_461 : decode cL_law 461 = .ok (.invokevirtual 59, 3) := by decide +kernel
theorem dL_law_464 : decode cL_law 464 = .ok (.if_icmp .eq 268, 3) := by decide +kernel
theorem dL_law_467 : decode cL_law 467 = .ok (.iconst 0, 1) := by decide +kernel
theorem dL_law_468 : decode cL_law 468 = .ok (.ireturn, 1) := by decide +kernel
theorem dL_law_469 : decode cL_law 469 = .ok (.aload_n 1, 1) := by decide +kernel
theorem dL_law_470 : decode cL_law 470 = .ok (.aload_n 0, 1) := by decide +kernel
theorem dL_law_471 : decode cL_law 471 = .ok (.iload_n 3, 1) := by decide +kernel
theorem dL_law_472 : decode cL_law 472 = .ok (.iconst 1, 1) := by decide +kernel
theorem dL_law_473 : decode cL_law 473 = .ok (.iadd, 1) := by decide +kernel
theorem dL_law_474 : decode cL_law 474 = .ok (.iaload, 1) := by decide +kernel
theorem dL_law_475 : decode cL_law 475 = .ok (.invokevirtual 60, 3) := by decide +kernel
theorem dL_law_478 : decode cL_law 478 = .ok (.aload_n 2, 1) := by decide +kernel
theorem dL_law_479 : decode cL_law 479 = .ok (.aload_n 0, 1) := by decide +kernel
theorem dL_law_480 : decode cL_law 480 = .ok (.iload_n 3, 1) := by decide +kernel
theorem dL_law_481 : decode cL_law 481 = .ok (.iconst 1, 1) := by decide +kernel
theorem dL_law_482 : decode cL_law 482 = .ok (.iadd, 1) := by decide +kernel
theorem dL_law_483 : decode cL_law 483 = .ok (.iaload, 1) := by decide +kernel
theorem dL_law_484 : decode cL_law 484 = .ok (.invokevirtual 63, 3) := by decide +kernel
theorem dL_law_487 : decode cL_law 487 = .ok (.if_icmp .eq 245, 3) := by decide +kernel
theorem dL_law_490 : decode cL_law 490 = .ok (.iconst 0, 1) := by decide +kernel
theorem dL_law_491 : decode cL_law 491 = .ok (.ireturn, 1) := by decide +kernel
theorem dL_law_492 : decode cL_law 492 = .ok (.aload_n 1, 1) := by decide +kernel
theorem dL_law_493 : decode cL_law 493 = .ok (.aload_n 0, 1) := by decide +kernel
theorem dL_law_494 : decode cL_law 494 = .ok (.iload_n 3, 1) := by decide +kernel
theorem dL_law_495 : decode cL_law 495 = .ok (.iconst 1, 1) := by decide +kernel
theorem dL_law_496 : decode cL_law 496 = .ok (.iadd, 1) := by decide +kernel
theorem dL_law_497 : decode cL_law 497 = .ok (.iaload, 1) := by decide +kernel
theorem dL_law_498 : decode cL_law 498 = .ok (.aload_n 0, 1) := by decide +kernel
theorem dL_law_499 : decode cL_law 499 = .ok (.iload_n 3, 1) := by decide +kernel
theorem dL_law_500 : decode cL_law 500 = .ok (.iconst 2, 1) := by decide +kernel
theorem dL_law_501 : decode cL_law 501 = .ok (.iadd, 1) := by decide +kernel
theorem dL_law_502 : decode cL_law 502 = .ok (.iaload, 1) := by decide +kernel
theorem dL_law_503 : decode cL_law 503 = .ok (.aload_n 0, 1) := by decide +kernel
theorem dL_law_504 : decode cL_law 504 = .ok (.iload_n 3, 1) := by decide +kernel
theorem dL_law_505 : decode cL_law 505 = .ok (.iconst 3, 1) := by decide +kernel
theorem dL_law_506 : decode cL_law 506 = .ok (.iadd, 1) := by decide +kernel
theorem dL_law_507 : decode cL_law 507 = .ok (.iaload, 1) := by decide +kernel
theorem dL_law_508 : decode cL_law 508 = .ok (.invokevirtual 64, 3) := by decide +kernel
theorem dL_law_511 : decode cL_law 511 = .ok (.aload_n 2, 1) := by decide +kernel
theorem dL_law_512 : decode cL_law 512 = .ok (.aload_n 0, 1) := by decide +kernel
theorem dL_law_513 : decode cL_law 513 = .ok (.iload_n 3, 1) := by decide +kernel
theorem dL_law_514 : decode cL_law 514 = .ok (.iconst 1, 1) := by decide +kernel
theorem dL_law_515 : decode cL_law 515 = .ok (.iadd, 1) := by decide +kernel
theorem dL_law_516 : decode cL_law 516 = .ok (.iaload, 1) := by decide +kernel
theorem dL_law_517 : decode cL_law 517 = .ok (.aload_n 0, 1) := by decide +kernel
theorem dL_law_518 : decode cL_law 518 = .ok (.iload_n 3, 1) := by decide +kernel
theorem dL_law_519 : decode cL_law 519 = .ok (.iconst 2, 1) := by decide +kernel
theorem dL_law_520 : decode cL_law 520 = .ok (.iadd, 1) := by decide +kernel
theorem dL_law_521 : decode cL_law 521 = .ok (.iaload, 1) := by decide +kernel
theorem dL_law_522 : decode cL_law 522 = .ok (.aload_n 0, 1) := by decide +kernel
theorem dL_law_523 : decode cL_law 523 = .ok (.iload_n 3, 1) := by decide +kernel
theorem dL_law_524 : decode cL_law 524 = .ok (.iconst 3, 1) := by decide +kernel
theorem dL_law_525 : decode cL_law 525 = .ok (.iadd, 1) := by decide +kernel
theorem dL_law_526 : decode cL_law 526 = .ok (.iaload, 1) := by decide +kernel
theorem dL_law_527 : decode cL_law 527 = .ok (.invokevirtual 67, 3) := by decide +kernel
theorem dL_law_530 : decode cL_law 530 = .ok (.if_icmp .eq 202, 3) := by decide +kernel
theorem dL_law_533 : decode cL_law 533 = .ok (.iconst 0, 1) := by decide +kernel
theorem dL_law_534 : decode cL_law 534 = .ok (.ireturn, 1) := by decide +kernel
theorem dL_law_535 : decode cL_law 535 = .ok (.aload_n 1, 1) := by decide +kernel
theorem dL_law_536 : decode cL_law 536 = .ok (.aload_n 0, 1) := by decide +kernel
theorem dL_law_537 : decode cL_law 537 = .ok (.iload_n 3, 1) := by decide +kernel
theorem dL_law_538 : decode cL_law 538 = .ok (.iconst 1, 1) := by decide +kernel
theorem dL_law_539 : decode cL_law 539 = .ok (.iadd, 1) := by decide +kernel
theorem dL_law_540 : decode cL_law 540 = .ok (.iaload, 1) := by decide +kernel
theorem dL_law_541 : decode cL_law 541 = .ok (.invokevirtual 68, 3) := by decide +kernel
theorem dL_law_544 : decode cL_law 544 = .ok (.aload_n 2, 1) := by decide +kernel
theorem dL_law_545 : decode cL_law 545 = .ok (.aload_n 0, 1) := by decide +kernel
theorem dL_law_546 : decode cL_law 546 = .ok (.iload_n 3, 1) := by decide +kernel
theorem dL_law_547 : decode cL_law 547 = .ok (.iconst 1, 1) := by decide +kernel
theorem dL_law_548 : decode cL_law 548 = .ok (.iadd, 1) := by decide +kernel
theorem dL_law_549 : decode cL_law 549 = .ok (.iaload, 1) := by decide +kernel
theorem dL_law_550 : decode cL_law 550 = .ok (.invokevirtual 71, 3) := by decide +kernel
theorem dL_law_553 : decode cL_law 553 = .ok (.if_icmp .eq 179, 3) := by decide +kernel
theorem dL_law_556 : decode cL_law 556 = .ok (.iconst 0, 1) := by decide +kernel
theorem dL_law_557 : decode cL_law 557 = .ok (.ireturn, 1) := by decide +kernel
theorem dL_law_558 : decode cL_law 558 = .ok (.aload_n 1, 1) := by decide +kernel
theorem dL_law_559 : decode cL_law 559 = .ok (.aload_n 0, 1) := by decide +kernel
theorem dL_law_560 : decode cL_law 560 = .ok (.iload_n 3, 1) := by decide +kernel
theorem dL_law_561 : decode cL_law 561 = .ok (.iconst 1, 1) := by decide +kernel
theorem dL_law_562 : decode cL_law 562 = .ok (.iadd, 1) := by decide +kernel
theorem dL_law_563 : decode cL_law 563 = .ok (.iaload, 1) := by decide +kernel
theorem dL_law_564 : decode cL_law 564 = .ok (.invokevirtual 72, 3) := by decide +kernel
theorem dL_law_567 : decode cL_law 567 = .ok (.aload_n 2, 1) := by decide +kernel
theorem dL_law_568 : decode cL_law 568 = .ok (.aload_n 0, 1) := by decide +kernel
theorem dL_law_569 : decode cL_law 569 = .ok (.iload_n 3, 1) := by decide +kernel
theorem dL_law_570 : decode cL_law 570 = .ok (.iconst 1, 1) := by decide +kernel
theorem dL_law_571 : decode cL_law 571 = .ok (.iadd, 1) := by decide +kernel
theorem dL_law_572 : decode cL_law 572 = .ok (.iaload, 1) := by decide +kernel
theorem dL_law_573 : decode cL_law 573 = .ok (.invokevirtual 75, 3) := by decide +kernel
theorem dL_law_576 : decode cL_law 576 = .ok (.if_icmp .eq 156, 3) := by decide +kernel
theorem dL_law_579 : decode cL_law 579 = .ok (.iconst 0, 1) := by decide +kernel
theorem dL_law_580 : decode cL_law 580 = .ok (.ireturn, 1) := by decide +kernel
theorem dL_law_581 : decode cL_law 581 = .ok (.aload_n 1, 1) := by decide +kernel
theorem dL_law_582 : decode cL_law 582 = .ok (.aload_n 0, 1) := by decide +kernel
theorem dL_law_583 : decode cL_law 583 = .ok (.iload_n 3, 1) := by decide +kernel
theorem dL_law_584 : decode cL_law 584 = .ok (.iconst 1, 1) := by decide +kernel
theorem dL_law_585 : decode cL_law 585 = .ok (.iadd, 1) := by decide +kernel
theorem dL_law_586 : decode cL_law 586 = .ok (.iaload, 1) := by decide +kernel
theorem dL_law_587 : decode cL_law 587 = .ok (.i2l, 1) := by decide +kernel
theorem dL_law_588 : decode cL_law 588 = .ok (.bipush 32, 2) := by decide +kernel
theorem dL_law_590 : decode cL_law 590 = .ok (.lshl, 1) := by decide +kernel
theorem dL_law_591 : decode cL_law 591 = .ok (.aload_n 0, 1) := by decide +kernel
theorem dL_law_592 : decode cL_law 592 = .ok (.iload_n 3, 1) := by decide +kernel
theorem dL_law_593 : decode cL_law 593 = .ok (.iconst 2, 1) := by decide +kernel
theorem dL_law_594 : decode cL_law 594 = .ok (.iadd, 1) := by decide +kernel
theorem dL_law_595 : decode cL_law 595 = .ok (.iaload, 1) := by decide +kernel
theorem dL_law_596 : decode cL_law 596 = .ok (.i2l, 1) := by decide +kernel
theorem dL_law_597 : decode cL_law 597 = .ok (.ldc2_w 76, 3) := by decide +kernel
theorem dL_law_600 : decode cL_law 600 = .ok (.land, 1) := by decide +kernel
theorem dL_law_601 : decode cL_law 601 = .ok (.lor, 1) := by decide +kernel
theorem dL_law_602 : decode cL_law 602 = .ok (.invokevirtual 78, 3) := by decide +kernel
theorem dL_law_605 : decode cL_law 605 = .ok (.aload_n 2, 1) := by decide +kernel
theorem dL_law_606 : decode cL_law 606 = .ok (.aload_n 0, 1) := by decide +kernel
theorem dL_law_607 : decode cL_law 607 = .ok (.iload_n 3, 1) := by decide +kernel
theorem dL_law_608 : decode cL_law 608 = .ok (.iconst 1, 1) := by decide +kernel
theorem dL_law_609 : decode cL_law 609 = .ok (.iadd, 1) := by decide +kernel
theorem dL_law_610 : decode cL_law 610 = .ok (.iaload, 1) := by decide +kernel
theorem dL_law_611 : decode cL_law 611 = .ok (.i2l, 1) := by decide +kernel
theorem dL_law_612 : decode cL_law 612 = .ok (.bipush 32, 2) := by decide +kernel
theorem dL_law_614 : decode cL_law 614 = .ok (.lshl, 1) := by decide +kernel
theorem dL_law_615 : decode cL_law 615 = .ok (.aload_n 0, 1) := by decide +kernel
theorem dL_law_616 : decode cL_law 616 = .ok (.iload_n 3, 1) := by decide +kernel
theorem dL_law_617 : decode cL_law 617 = .ok (.iconst 2, 1) := by decide +kernel
theorem dL_law_618 : decode cL_law 618 = .ok (.iadd, 1) := by decide +kernel
theorem dL_law_619 : decode cL_law 619 = .ok (.iaload, 1) := by decide +kernel
theorem dL_law_620 : decode cL_law 620 = .ok (.i2l, 1) := by decide +kernel
theorem dL_law_621 : decode cL_law 621 = .ok (.ldc2_w 76, 3) := by decide +kernel
theorem dL_law_624 : decode cL_law 624 = .ok (.land, 1) := by decide +kernel
theorem dL_law_625 : decode cL_law 625 = .ok (.lor, 1) := by decide +kernel
theorem dL_law_626 : decode cL_law 626 = .ok (.invokevirtual 82, 3) := by decide +kernel
theorem dL_law_629 : decode cL_law 629 = .ok (.if_icmp .eq 103, 3) := by decide +kernel
theorem dL_law_632 : decode cL_law 632 = .ok (.iconst 0, 1) := by decide +kernel
theorem dL_law_633 : decode cL_law 633 = .ok (.ireturn, 1) := by decide +kernel
theorem dL_law_634 : decode cL_law 634 = .ok (.aload_n 1, 1) := by decide +kernel
theorem dL_law_635 : decode cL_law 635 = .ok (.invokevirtual 83, 3) := by decide +kernel
theorem dL_law_638 : decode cL_law 638 = .ok (.aload_n 2, 1) := by decide +kernel
theorem dL_law_639 : decode cL_law 639 = .ok (.invokevirtual 87, 3) := by decide +kernel
theorem dL_law_642 : decode cL_law 642 = .ok (.if_icmp .eq 90, 3) := by decide +kernel
theorem dL_law_645 : decode cL_law 645 = .ok (.iconst 0, 1) := by decide +kernel
theorem dL_law_646 : decode cL_law 646 = .ok (.ireturn, 1) := by decide +kernel
theorem dL_law_647 : decode cL_law 647 = .ok (.aload_n 1, 1) := by decide +kernel
theorem dL_law_648 : decode cL_law 648 = .ok (.invokevirtual 88, 3) := by decide +kernel
theorem dL_law_651 : decode cL_law 651 = .ok (.aload_n 2, 1) := by decide +kernel
theorem dL_law_652 : decode cL_law 652 = .ok (.invokevirtual 91, 3) := by decide +kernel
theorem dL_law_655 : decode cL_law 655 = .ok (.if_icmp .eq 77, 3) := by decide +kernel
theorem dL_law_658 : decode cL_law 658 = .ok (.iconst 0, 1) := by decide +kernel
theorem dL_law_659 : decode cL_law 659 = .ok (.ireturn, 1) := by decide +kernel
theorem dL_law_660 : decode cL_law 660 = .ok (.aload_n 1, 1) := by decide +kernel
theorem dL_law_661 : decode cL_law 661 = .ok (.invokevirtual 92, 3) := by decide +kernel
theorem dL_law_664 : decode cL_law 664 = .ok (.aload_n 2, 1) := by decide +kernel
theorem dL_law_665 : decode cL_law 665 = .ok (.invokevirtual 95, 3) := by decide +kernel
theorem dL_law_668 : decode cL_law 668 = .ok (.if_icmp .eq 64, 3) := by decide +kernel
theorem dL_law_671 : decode cL_law 671 = .ok (.iconst 0, 1) := by decide +kernel
theorem dL_law_672 : decode cL_law 672 = .ok (.ireturn, 1) := by decide +kernel
theorem dL_law_673 : decode cL_law 673 = .ok (.aload_n 1, 1) := by decide +kernel
theorem dL_law_674 : decode cL_law 674 = .ok (.invokevirtual 96, 3) := by decide +kernel
theorem dL_law_677 : decode cL_law 677 = .ok (.aload_n 2, 1) := by decide +kernel
theorem dL_law_678 : decode cL_law 678 = .ok (.invokevirtual 99, 3) := by decide +kernel
theorem dL_law_681 : decode cL_law 681 = .ok (.if_icmp .eq 51, 3) := by decide +kernel
theorem dL_law_684 : decode cL_law 684 = .ok (.iconst 0, 1) := by decide +kernel
theorem dL_law_685 : decode cL_law 685 = .ok (.ireturn, 1) := by decide +kernel
theorem dL_law_686 : decode cL_law 686 = .ok (.aload_n 1, 1) := by decide +kernel
theorem dL_law_687 : decode cL_law 687 = .ok (.aload_n 0, 1) := by decide +kernel
theorem dL_law_688 : decode cL_law 688 = .ok (.iload_n 3, 1) := by decide +kernel
theorem dL_law_689 : decode cL_law 689 = .ok (.iconst 1, 1) := by decide +kernel
theorem dL_law_690 : decode cL_law 690 = .ok (.iadd, 1) := by decide +kernel
theorem dL_law_691 : decode cL_law 691 = .ok (.iaload, 1) := by decide +kernel
theorem dL_law_692 : decode cL_law 692 = .ok (.invokevirtual 100, 3) := by decide +kernel
theorem dL_law_695 : decode cL_law 695 = .ok (.aload_n 2, 1) := by decide +kernel
theorem dL_law_696 : decode cL_law 696 = .ok (.aload_n 0, 1) := by decide +kernel
theorem dL_law_697 : decode cL_law 697 = .ok (.iload_n 3, 1) := by decide +kernel
theorem dL_law_698 : decode cL_law 698 = .ok (.iconst 1, 1) := by decide +kernel
theorem dL_law_699 : decode cL_law 699 = .ok (.iadd, 1) := by decide +kernel
theorem dL_law_700 : decode cL_law 700 = .ok (.iaload, 1) := by decide +kernel
theorem dL_law_701 : decode cL_law 701 = .ok (.invokevirtual 103, 3) := by decide +kernel
theorem dL_law_704 : decode cL_law 704 = .ok (.if_icmp .eq 28, 3) := by decide +kernel
theorem dL_law_707 : decode cL_law 707 = .ok (.iconst 0, 1) := by decide +kernel
theorem dL_law_708 : decode cL_law 708 = .ok (.ireturn, 1) := by decide +kernel
theorem dL_law_709 : decode cL_law 709 = .ok (.aload_n 1, 1) := by decide +kernel
theorem dL_law_710 : decode cL_law 710 = .ok (.aload_n 0, 1) := by decide +kernel
theorem dL_law_711 : decode cL_law 711 = .ok (.iload_n 3, 1) := by decide +kernel
theorem dL_law_712 : decode cL_law 712 = .ok (.iconst 1, 1) := by decide +kernel
theorem dL_law_713 : decode cL_law 713 = .ok (.iadd, 1) := by decide +kernel
theorem dL_law_714 : decode cL_law 714 = .ok (.iaload, 1) := by decide +kernel
theorem dL_law_715 : decode cL_law 715 = .ok (.invokevirtual 104, 3) := by decide +kernel
theorem dL_law_718 : decode cL_law 718 = .ok (.aload_n 2, 1) := by decide +kernel
theorem dL_law_719 : decode cL_law 719 = .ok (.aload_n 0, 1) := by decide +kernel
theorem dL_law_720 : decode cL_law 720 = .ok (.iload_n 3, 1) := by decide +kernel
theorem dL_law_721 : decode cL_law 721 = .ok (.iconst 1, 1) := by decide +kernel
theorem dL_law_722 : decode cL_law 722 = .ok (.iadd, 1) := by decide +kernel
theorem dL_law_723 : decode cL_law 723 = .ok (.iaload, 1) := by decide +kernel
theorem dL_law_724 : decode cL_law 724 = .ok (.invokevirtual 107, 3) := by decide +kernel
theorem dL_law_727 : decode cL_law 727 = .ok (.if_icmp .eq 5, 3) := by decide +kernel
theorem dL_law_730 : decode cL_law 730 = .ok (.iconst 0, 1) := by decide +kernel
theorem dL_law_731 : decode cL_law 731 = .ok (.ireturn, 1) := by decide +kernel
theorem dL_law_732 : decode cL_law 732 = .ok (.iinc 3 4, 3) := by decide +kernel
theorem dL_law_735 : decode cL_law 735 = .ok (.goto (-717), 3) := by decide +kernel
theorem dL_law_738 : decode cL_law 738 = .ok (.iconst 1, 1) := by decide +kernel
theorem dL_law_739 : decode cL_law 739 = .ok (.ireturn, 1) := by decide +kernel
end
section
/-! A judgement of its own over the kit's W: all that a walk carries is bundled in one tuple G. -/
abbrev GT : Type := Program × Launch × Env × Room × State × MethodId × Array Value × List Frame × Method × Code × va_G × (ClassId × ClassId × ClassId) × (Nat → Prop) × (Array Value → State → Outcome → State → Prop)
abbrev gp (G : GT) : Program := G.1
abbrev gl (G : GT) : Launch := G.2.1
abbrev ge (G : GT) : Env := G.2.2.1
abbrev gR (G : GT) : Room := G.2.2.2.1
abbrev gs (G : GT) : State := G.2.2.2.2.1
abbrev gm (G : GT) : MethodId := G.2.2.2.2.2.1
abbrev ga (G : GT) : Array Value := G.2.2.2.2.2.2.1
abbrev gb (G : GT) : List Frame := G.2.2.2.2.2.2.2.1
abbrev gt (G : GT) : Method := G.2.2.2.2.2.2.2.2.1
abbrev gc (G : GT) : Code := G.2.2.2.2.2.2.2.2.2.1
abbrev gD (G : GT) : va_G := G.2.2.2.2.2.2.2.2.2.2.1
abbrev gk (G : GT) : ClassId × ClassId × ClassId := G.2.2.2.2.2.2.2.2.2.2.2.1
abbrev gA (G : GT) : Nat → Prop := G.2.2.2.2.2.2.2.2.2.2.2.2.1
abbrev gQ (G : GT) : Array Value → State → Outcome → State → Prop := G.2.2.2.2.2.2.2.2.2.2.2.2.2
abbrev TYs (cs : ClassId × ClassId × ClassId) : List (ClassId × FieldType) := [(cs.1, .int), (cs.2.1, .boolean), (cs.2.2, .array .int)]
def Rmd (d : Nat) : Room := { frames := d, cells := 0, slots := 0, locals := 30 * d }
def aI (cs : ClassId × ClassId × ClassId) (n : Nat) (f : Nat → Int32) : va_E := .inl (cs.1, n, .inl f)
def aZ (cs : ClassId × ClassId × ClassId) (n : Nat) (f : Nat → Int32) : va_E := .inl (cs.2.1, n, .inl f)
def aQ (cs : ClassId × ClassId × ClassId) (n : Nat) (f : Nat → Option Nat) : va_E := .inl (cs.2.2, n, .inr (.inr (.inr (.inr f))))
def zV (G : GT) (nL pc : Nat) (ls : List (Nat × Value)) (st : List Value) (ws : va_W) : Prop :=
  ∀ (H : Heap) (locs : List Loc) (la : Array Slot), va_P (gD G) vwCl ws H → va_D (gA G) ws → va_S (gA G) (gs G).heap H locs → lv_has la nL ls →
    W (gp G) (gl G) (ge G) (gR G) (gs G) (gm G) (ga G) (gb G) (gt G) (gc G) H locs 0 0 (MQ (gb G) (gQ G) (ga G) (gs G) 0 0 (gA G)) (F0 (gm G) pc la st)
def zC (G : GT) (cc : ByteArray) (nL : Nat) (own : String) (ret : Option FieldType) (d : Nat) : Prop :=
  ((gp G).tables.exec = Jvm.exec ∧ (gc G).code = cc ∧ (gc G).maxLocals = nL ∧ (gs G).vm.findClass own = some (gm G).cls ∧ ∀ w ∈ lw_tg, w.before (ga G) (gs G) = true) ∧
  va_K (gD G) vwCl (TYs (gk G)) (gs G) ∧ gR G = Rmd d ∧ (gt G).locks = false ∧ (gt G).sig.returnType = ret ∧ (∀ q : Nat, (gs G).heap.size ≤ q → gA G q)
/-- the end of a method: what is owed at it -/
def zF (G : GT) (rv : Option Value) (ws : va_W) : Prop :=
  ∀ (H : Heap) (locs : List Loc) (t : State), va_P (gD G) vwCl ws H → va_S (gA G) (gs G).heap H locs → t.heap = H → gQ G (ga G) (gs G) (.returned rv) t
section ZROWS
variable {G : GT} {cc : ByteArray} {nL : Nat} {own : String} {ret : Option FieldType} {d pc : Nat} {ls : List (Nat × Value)} {st : List Value} {ws : va_W}
theorem z_iconst {n : Int} {v : Int32} (C : zC G cc nL own ret d) (hd : decode cc pc = .ok (.iconst n, 1)) (hv : Int32.ofInt n = v) (k : zV G nL (pc + 1) ls (.int v :: st) ws) : zV G nL pc ls st ws := fun H locs la hP hD hS hl => lv_iconst C.1.1 C.1.2.1 hd hv (k H locs la hP hD hS hl)
theorem z_bipush {n : Int} {v : Int32} (C : zC G cc nL own ret d) (hd : decode cc pc = .ok (.bipush n, 2)) (hv : (Int8.ofInt n).toInt32 = v) (k : zV G nL (pc + 2) ls (.int v :: st) ws) : zV G nL pc ls st ws := fun H locs la hP hD hS hl => lv_bipush C.1.1 C.1.2.1 hd hv (k H locs la hP hD hS hl)
theorem z_sipush {n : Int} {v : Int32} (C : zC G cc nL own ret d) (hd : decode cc pc = .ok (.sipush n, 3)) (hv : (Int16.ofInt n).toInt32 = v) (k : zV G nL (pc + 3) ls (.int v :: st) ws) : zV G nL pc ls st ws := fun H locs la hP hD hS hl => lv_sipush C.1.1 C.1.2.1 hd hv (k H locs la hP hD hS hl)
theorem z_lconst {n : Fin 2} {v : Int64} (C : zC G cc nL own ret d) (hd : decode cc pc = .ok (.lconst n, 1)) (hv : Int64.ofNat (n : Nat) = v) (k : zV G nL (pc + 1) ls (.long v :: st) ws) : zV G nL pc ls st ws := fun H locs la hP hD hS hl => lv_lconst C.1.1 C.1.2.1 hd hv (k H locs la hP hD hS hl)
theorem z_iload_n {n : Fin 4} {x : Int32} (j : Nat) (C : zC G cc nL own ret d) (hd : decode cc pc = .ok (.iload_n n, 1)) (hj : ls[j]? = some ((n : Nat), .int x)) (k : zV G nL (pc + 1) ls (.int x :: st) ws) : zV G nL pc ls st ws := fun H locs la hP hD hS hl => lv_iload_n C.1.1 C.1.2.1 hd rfl (lv_at hl j hj) (k H locs la hP hD hS hl)
theorem z_iload {n : Nat} {x : Int32} (j : Nat) (C : zC G cc nL own ret d) (hd : decode cc pc = .ok (.iload n, 2)) (hj : ls[j]? = some (n, .int x)) (k : zV G nL (pc + 2) ls (.int x :: st) ws) : zV G nL pc ls st ws := fun H locs la hP hD hS hl => lv_iload C.1.1 C.1.2.1 hd (lv_at hl j hj) (k H locs la hP hD hS hl)
theorem z_lload_n {n : Fin 4} {x : Int64} (j : Nat) (C : zC G cc nL own ret d) (hd : decode cc pc = .ok (.lload_n n, 1)) (hj : ls[j]? = some ((n : Nat), .long x)) (k : zV G nL (pc + 1) ls (.long x :: st) ws) : zV G nL pc ls st ws := fun H locs la hP hD hS hl => lv_lload_n C.1.1 C.1.2.1 hd rfl (lv_at hl j hj) (k H locs la hP hD hS hl)
theorem z_lload {n : Nat} {x : Int64} (j : Nat) (C : zC G cc nL own ret d) (hd : decode cc pc = .ok (.lload n, 2)) (hj : ls[j]? = some (n, .long x)) (k : zV G nL (pc + 2) ls (.long x :: st) ws) : zV G nL pc ls st ws := fun H locs la hP hD hS hl => lv_lload C.1.1 C.1.2.1 hd (lv_at hl j hj) (k H locs la hP hD hS hl)
theorem z_aload_n {n : Fin 4} {a : Nat} (j : Nat) (C : zC G cc nL own ret d) (hd : decode cc pc = .ok (.aload_n n, 1)) (hj : ls[j]? = some ((n : Nat), .ref a)) (k : zV G nL (pc + 1) ls (.ref a :: st) ws) : zV G nL pc ls st ws := fun H locs la hP hD hS hl => lv_aload_n C.1.1 C.1.2.1 hd rfl (lv_at hl j hj) (k H locs la hP hD hS hl)
theorem z_istore_n {n : Fin 4} {x : Int32} {ls' : List (Nat × Value)} (C : zC G cc nL own ret d) (hd : decode cc pc = .ok (.istore_n n, 1)) (hn : (n : Nat) < nL) (hl' : ((n : Nat), Value.int x) :: ls.filter (fun q => !(q.1 == (n : Nat)) && !(q.1 + 1 == (n : Nat) && q.2.category == 2)) = ls') (k : zV G nL (pc + 1) ls' st ws) : zV G nL pc ls (.int x :: st) ws := fun H locs _ hP hD hS hl => lv_istore_n C.1.1 C.1.2.1 hd rfl hl hn hl' (fun la' h' => k H locs la' hP hD hS h')
theorem z_istore {n : Nat} {x : Int32} {ls' : List (Nat × Value)} (C : zC G cc nL own ret d) (hd : decode cc pc = .ok (.istore n, 2)) (hn : n < nL) (hl' : (n, Value.int x) :: ls.filter (fun q => !(q.1 == n) && !(q.1 + 1 == n && q.2.category == 2)) = ls') (k : zV G nL (pc + 2) ls' st ws) : zV G nL pc ls (.int x :: st) ws := fun H locs _ hP hD hS hl => lv_istore C.1.1 C.1.2.1 hd hl hn hl' (fun la' h' => k H locs la' hP hD hS h')
theorem z_lstore_n {n : Fin 4} {x : Int64} {ls' : List (Nat × Value)} (C : zC G cc nL own ret d) (hd : decode cc pc = .ok (.lstore_n n, 1)) (hn : (n : Nat) + 1 < nL) (hl' : ((n : Nat), Value.long x) :: ls.filter (fun q => !(q.1 == (n : Nat)) && (!(q.1 == (n : Nat) + 1) && !(q.1 + 1 == (n : Nat) && q.2.category == 2))) = ls') (k : zV G nL (pc + 1) ls' st ws) : zV G nL pc ls (.long x :: st) ws := fun H locs _ hP hD hS hl => lv_lstore_n C.1.1 C.1.2.1 hd rfl hl hn hl' (fun la' h' => k H locs la' hP hD hS h')
theorem z_iinc {i : Nat} {n : Int} {x n' v : Int32} {ls' : List (Nat × Value)} (j : Nat) (C : zC G cc nL own ret d) (hd : decode cc pc = .ok (.iinc i n, 3)) (hj : ls[j]? = some (i, .int x)) (hn' : Int32.ofInt n = n') (hv : x + n' = v) (hn : i < nL) (hl' : (i, Value.int v) :: ls.filter (fun q => !(q.1 == i) && !(q.1 + 1 == i && q.2.category == 2)) = ls') (k : zV G nL (pc + 3) ls' st ws) : zV G nL pc ls st ws := fun H locs _ hP hD hS hl => lv_iinc C.1.1 C.1.2.1 hd hl hj (by rw [hn']; exact hv) hn hl' (fun la' h' => k H locs la' hP hD hS h')
/-- a name for the top -/
theorem z_top {x x' : Int32} (he : x = x') (k : zV G nL pc ls (.int x' :: st) ws) : zV G nL pc ls (.int x :: st) ws := he ▸ k
theorem z_topl {x x' : Int64} (he : x = x') (k : zV G nL pc ls (.long x' :: st) ws) : zV G nL pc ls (.long x :: st) ws := he ▸ k
theorem z_sub {ls' : List (Nat × Value)} (ks : List Nat) (h : lv_pick ls ks = ls') (k : zV G nL pc ls' st ws) : zV G nL pc ls st ws := fun H locs la hP hD hS hl => k H locs la hP hD hS (lv_sub hl ks h)
theorem z_iadd {x y : Int32} (C : zC G cc nL own ret d) (hd : decode cc pc = .ok (.iadd, 1)) (k : zV G nL (pc + 1) ls (.int (x + y) :: st) ws) : zV G nL pc ls (.int y :: .int x :: st) ws := fun H locs la hP hD hS hl => lv_iadd C.1.1 C.1.2.1 hd (k H locs la hP hD hS hl)
theorem z_isub {x y : Int32} (C : zC G cc nL own ret d) (hd : decode cc pc = .ok (.isub, 1)) (k : zV G nL (pc + 1) ls (.int (x - y) :: st) ws) : zV G nL pc ls (.int y :: .int x :: st) ws := fun H locs la hP hD hS hl => lv_isub C.1.1 C.1.2.1 hd (k H locs la hP hD hS hl)
theorem z_imul {x y : Int32} (C : zC G cc nL own ret d) (hd : decode cc pc = .ok (.imul, 1)) (k : zV G nL (pc + 1) ls (.int (x * y) :: st) ws) : zV G nL pc ls (.int y :: .int x :: st) ws := fun H locs la hP hD hS hl => lv_imul C.1.1 C.1.2.1 hd (k H locs la hP hD hS hl)
theorem z_iand {x y : Int32} (C : zC G cc nL own ret d) (hd : decode cc pc = .ok (.iand, 1)) (k : zV G nL (pc + 1) ls (.int (x &&& y) :: st) ws) : zV G nL pc ls (.int y :: .int x :: st) ws := fun H locs la hP hD hS hl => lv_iand C.1.1 C.1.2.1 hd (k H locs la hP hD hS hl)
theorem z_ior {x y : Int32} (C : zC G cc nL own ret d) (hd : decode cc pc = .ok (.ior, 1)) (k : zV G nL (pc + 1) ls (.int (x ||| y) :: st) ws) : zV G nL pc ls (.int y :: .int x :: st) ws := fun H locs la hP hD hS hl => lv_ior C.1.1 C.1.2.1 hd (k H locs la hP hD hS hl)
theorem z_ixor {x y : Int32} (C : zC G cc nL own ret d) (hd : decode cc pc = .ok (.ixor, 1)) (k : zV G nL (pc + 1) ls (.int (x ^^^ y) :: st) ws) : zV G nL pc ls (.int y :: .int x :: st) ws := fun H locs la hP hD hS hl => lv_ixor C.1.1 C.1.2.1 hd (k H locs la hP hD hS hl)
theorem z_ineg {x : Int32} (C : zC G cc nL own ret d) (hd : decode cc pc = .ok (.ineg, 1)) (k : zV G nL (pc + 1) ls (.int (-x) :: st) ws) : zV G nL pc ls (.int x :: st) ws := fun H locs la hP hD hS hl => lv_ineg C.1.1 C.1.2.1 hd (k H locs la hP hD hS hl)
theorem z_idiv {x y : Int32} (C : zC G cc nL own ret d) (hd : decode cc pc = .ok (.idiv, 1)) (hne : ¬ y = 0) (k : zV G nL (pc + 1) ls (.int (x / y) :: st) ws) : zV G nL pc ls (.int y :: .int x :: st) ws := fun H locs la hP hD hS hl => lv_idiv C.1.1 C.1.2.1 hd hne (k H locs la hP hD hS hl)
theorem z_irem {x y : Int32} (C : zC G cc nL own ret d) (hd : decode cc pc = .ok (.irem, 1)) (hne : ¬ y = 0) (k : zV G nL (pc + 1) ls (.int (x - x / y * y) :: st) ws) : zV G nL pc ls (.int y :: .int x :: st) ws := fun H locs la hP hD hS hl => lv_irem C.1.1 C.1.2.1 hd hne (k H locs la hP hD hS hl)
theorem z_ishl {x y : Int32} (C : zC G cc nL own ret d) (hd : decode cc pc = .ok (.ishl, 1)) (k : zV G nL (pc + 1) ls (.int (x <<< (y &&& 31)) :: st) ws) : zV G nL pc ls (.int y :: .int x :: st) ws := fun H locs la hP hD hS hl => lv_ishl C.1.1 C.1.2.1 hd (k H locs la hP hD hS hl)
theorem z_ishr {x y : Int32} (C : zC G cc nL own ret d) (hd : decode cc pc = .ok (.ishr, 1)) (k : zV G nL (pc + 1) ls (.int (x >>> (y &&& 31)) :: st) ws) : zV G nL pc ls (.int y :: .int x :: st) ws := fun H locs la hP hD hS hl => lv_ishr C.1.1 C.1.2.1 hd (k H locs la hP hD hS hl)
def zushr (x y : Int32) : Int32 := (x.toUInt32 >>> (y.toUInt32 &&& Int32.toUInt32 31)).toInt32
def zlushr (x : Int64) (y : Int32) : Int64 := (x.toUInt64 >>> (y.toInt64.toUInt64 &&& Int64.toUInt64 63)).toInt64
def zlshl (x : Int64) (y : Int32) : Int64 := x <<< (y.toInt64 &&& 63)
theorem z_iushr {x y : Int32} (C : zC G cc nL own ret d) (hd : decode cc pc = .ok (.iushr, 1)) (k : zV G nL (pc + 1) ls (.int (zushr x y) :: st) ws) : zV G nL pc ls (.int y :: .int x :: st) ws := fun H locs la hP hD hS hl => lv_iushr C.1.1 C.1.2.1 hd rfl (k H locs la hP hD hS hl)
theorem z_lushr {x : Int64} {y : Int32} (C : zC G cc nL own ret d) (hd : decode cc pc = .ok (.lushr, 1)) (k : zV G nL (pc + 1) ls (.long (zlushr x y) :: st) ws) : zV G nL pc ls (.int y :: .long x :: st) ws := fun H locs la hP hD hS hl => lv_lushr C.1.1 C.1.2.1 hd rfl (k H locs la hP hD hS hl)
theorem z_lshl {x : Int64} {y : Int32} (C : zC G cc nL own ret d) (hd : decode cc pc = .ok (.lshl, 1)) (k : zV G nL (pc + 1) ls (.long (zlshl x y) :: st) ws) : zV G nL pc ls (.int y :: .long x :: st) ws := fun H locs la hP hD hS hl => lv_lshl C.1.1 C.1.2.1 hd rfl (k H locs la hP hD hS hl)
theorem z_land {x y : Int64} (C : zC G cc nL own ret d) (hd : decode cc pc = .ok (.land, 1)) (k : zV G nL (pc + 1) ls (.long (x &&& y) :: st) ws) : zV G nL pc ls (.long y :: .long x :: st) ws := fun H locs la hP hD hS hl => lv_land C.1.1 C.1.2.1 hd (k H locs la hP hD hS hl)
theorem z_lor {x y : Int64} (C : zC G cc nL own ret d) (hd : decode cc pc = .ok (.lor, 1)) (k : zV G nL (pc + 1) ls (.long (x ||| y) :: st) ws) : zV G nL pc ls (.long y :: .long x :: st) ws := fun H locs la hP hD hS hl => lv_lor C.1.1 C.1.2.1 hd (k H locs la hP hD hS hl)
theorem z_l2i {x : Int64} (C : zC G cc nL own ret d) (hd : decode cc pc = .ok (.l2i, 1)) (k : zV G nL (pc + 1) ls (.int x.toInt32 :: st) ws) : zV G nL pc ls (.long x :: st) ws := fun H locs la hP hD hS hl => lv_l2i C.1.1 C.1.2.1 hd rfl (k H locs la hP hD hS hl)
theorem z_i2l {x : Int32} (C : zC G cc nL own ret d) (hd : decode cc pc = .ok (.i2l, 1)) (k : zV G nL (pc + 1) ls (.long x.toInt64 :: st) ws) : zV G nL pc ls (.int x :: st) ws := fun H locs la hP hD hS hl => lv_i2l C.1.1 C.1.2.1 hd rfl (k H locs la hP hD hS hl)
theorem z_lcmp {x y : Int64} (C : zC G cc nL own ret d) (hd : decode cc pc = .ok (.lcmp, 1)) (k : zV G nL (pc + 1) ls (.int (lg_cmp x y) :: st) ws) : zV G nL pc ls (.long y :: .long x :: st) ws := fun H locs la hP hD hS hl => W.lcmp C.1.1 C.1.2.1 hd (k H locs la hP hD hS hl)
theorem z_dup {v : Value} (C : zC G cc nL own ret d) (hd : decode cc pc = .ok (.dup, 1)) (hv : v.category = 1) (k : zV G nL (pc + 1) ls (v :: v :: st) ws) : zV G nL pc ls (v :: st) ws := fun H locs la hP hD hS hl => lv_dup C.1.1 C.1.2.1 hd hv (k H locs la hP hD hS hl)
theorem z_dup2 {u v : Value} (C : zC G cc nL own ret d) (hd : decode cc pc = .ok (.dup2, 1)) (hu : u.category = 1) (hv : v.category = 1) (k : zV G nL (pc + 1) ls (u :: v :: u :: v :: st) ws) : zV G nL pc ls (u :: v :: st) ws := fun H locs la hP hD hS hl => lv_dup2_11 C.1.1 C.1.2.1 hd hu hv (k H locs la hP hD hS hl)
theorem z_pop {v : Value} (C : zC G cc nL own ret d) (hd : decode cc pc = .ok (.pop, 1)) (hv : v.category = 1) (k : zV G nL (pc + 1) ls st ws) : zV G nL pc ls (v :: st) ws := fun H locs la hP hD hS hl => lv_pop C.1.1 C.1.2.1 hd hv (k H locs la hP hD hS hl)
theorem z_goto {off : Int} {tgt : Nat} (C : zC G cc nL own ret d) (hd : decode cc pc = .ok (.goto off, 3)) (ht : (pc : Int) + off = (tgt : Int)) (k : zV G nL tgt ls st ws) : zV G nL pc ls st ws := fun H locs la hP hD hS hl => lv_goto C.1.1 C.1.2.1 hd ht (k H locs la hP hD hS hl)
theorem z_icmp_eq {x y : Int32} {off : Int} {tgt : Nat} (C : zC G cc nL own ret d) (hd : decode cc pc = .ok (.if_icmp .eq off, 3)) (ht : (pc : Int) + off = (tgt : Int)) (kt : x = y → zV G nL tgt ls st ws) (kf : ¬ x = y → zV G nL (pc + 3) ls st ws) : zV G nL pc ls (.int y :: .int x :: st) ws := fun H locs la hP hD hS hl => lv_icmp_eq C.1.1 C.1.2.1 hd ht (fun h => kt h H locs la hP hD hS hl) (fun h => kf h H locs la hP hD hS hl)
theorem z_icmp_ne {x y : Int32} {off : Int} {tgt : Nat} (C : zC G cc nL own ret d) (hd : decode cc pc = .ok (.if_icmp .ne off, 3)) (ht : (pc : Int) + off = (tgt : Int)) (kt : ¬ x = y → zV G nL tgt ls st ws) (kf : x = y → zV G nL (pc + 3) ls st ws) : zV G nL pc ls (.int y :: .int x :: st) ws := fun H locs la hP hD hS hl => lv_icmp_ne C.1.1 C.1.2.1 hd ht (fun h => kt h H locs la hP hD hS hl) (fun h => kf h H locs la hP hD hS hl)
theorem z_icmp_lt {x y : Int32} {off : Int} {tgt : Nat} (C : zC G cc nL own ret d) (hd : decode cc pc = .ok (.if_icmp .lt off, 3)) (ht : (pc : Int) + off = (tgt : Int)) (kt : x < y → zV G nL tgt ls st ws) (kf : ¬ x < y → zV G nL (pc + 3) ls st ws) : zV G nL pc ls (.int y :: .int x :: st) ws := fun H locs la hP hD hS hl => lv_icmp_lt C.1.1 C.1.2.1 hd ht (fun h => kt h H locs la hP hD hS hl) (fun h => kf h H locs la hP hD hS hl)
theorem z_icmp_ge {x y : Int32} {off : Int} {tgt : Nat} (C : zC G cc nL own ret d) (hd : decode cc pc = .ok (.if_icmp .ge off, 3)) (ht : (pc : Int) + off = (tgt : Int)) (kt : y ≤ x → zV G nL tgt ls st ws) (kf : ¬ y ≤ x → zV G nL (pc + 3) ls st ws) : zV G nL pc ls (.int y :: .int x :: st) ws := fun H locs la hP hD hS hl => lv_icmp_ge C.1.1 C.1.2.1 hd ht (fun h => kt h H locs la hP hD hS hl) (fun h => kf h H locs la hP hD hS hl)
theorem z_icmp_gt {x y : Int32} {off : Int} {tgt : Nat} (C : zC G cc nL own ret d) (hd : decode cc pc = .ok (.if_icmp .gt off, 3)) (ht : (pc : Int) + off = (tgt : Int)) (kt : y < x → zV G nL tgt ls st ws) (kf : ¬ y < x → zV G nL (pc + 3) ls st ws) : zV G nL pc ls (.int y :: .int x :: st) ws := fun H locs la hP hD hS hl => lv_icmp_gt C.1.1 C.1.2.1 hd ht (fun h => kt h H locs la hP hD hS hl) (fun h => kf h H locs la hP hD hS hl)
theorem z_icmp_le {x y : Int32} {off : Int} {tgt : Nat} (C : zC G cc nL own ret d) (hd : decode cc pc = .ok (.if_icmp .le off, 3)) (ht : (pc : Int) + off = (tgt : Int)) (kt : x ≤ y → zV G nL tgt ls st ws) (kf : ¬ x ≤ y → zV G nL (pc + 3) ls st ws) : zV G nL pc ls (.int y :: .int x :: st) ws := fun H locs la hP hD hS hl => lv_icmp_le C.1.1 C.1.2.1 hd ht (fun h => kt h H locs la hP hD hS hl) (fun h => kf h H locs la hP hD hS hl)
theorem z_if_eq {x : Int32} {off : Int} {tgt : Nat} (C : zC G cc nL own ret d) (hd : decode cc pc = .ok (.ifCond .eq off, 3)) (ht : (pc : Int) + off = (tgt : Int)) (kt : x = 0 → zV G nL tgt ls st ws) (kf : ¬ x = 0 → zV G nL (pc + 3) ls st ws) : zV G nL pc ls (.int x :: st) ws := fun H locs la hP hD hS hl => lv_if_eq C.1.1 C.1.2.1 hd ht (fun h => kt h H locs la hP hD hS hl) (fun h => kf h H locs la hP hD hS hl)
theorem z_if_ne {x : Int32} {off : Int} {tgt : Nat} (C : zC G cc nL own ret d) (hd : decode cc pc = .ok (.ifCond .ne off, 3)) (ht : (pc : Int) + off = (tgt : Int)) (kt : ¬ x = 0 → zV G nL tgt ls st ws) (kf : x = 0 → zV G nL (pc + 3) ls st ws) : zV G nL pc ls (.int x :: st) ws := fun H locs la hP hD hS hl => lv_if_ne C.1.1 C.1.2.1 hd ht (fun h => kt h H locs la hP hD hS hl) (fun h => kf h H locs la hP hD hS hl)
theorem z_if_lt {x : Int32} {off : Int} {tgt : Nat} (C : zC G cc nL own ret d) (hd : decode cc pc = .ok (.ifCond .lt off, 3)) (ht : (pc : Int) + off = (tgt : Int)) (kt : x < 0 → zV G nL tgt ls st ws) (kf : ¬ x < 0 → zV G nL (pc + 3) ls st ws) : zV G nL pc ls (.int x :: st) ws := fun H locs la hP hD hS hl => lv_if_lt C.1.1 C.1.2.1 hd ht (fun h => kt h H locs la hP hD hS hl) (fun h => kf h H locs la hP hD hS hl)
theorem z_if_ge {x : Int32} {off : Int} {tgt : Nat} (C : zC G cc nL own ret d) (hd : decode cc pc = .ok (.ifCond .ge off, 3)) (ht : (pc : Int) + off = (tgt : Int)) (kt : 0 ≤ x → zV G nL tgt ls st ws) (kf : ¬ 0 ≤ x → zV G nL (pc + 3) ls st ws) : zV G nL pc ls (.int x :: st) ws := fun H locs la hP hD hS hl => lv_if_ge C.1.1 C.1.2.1 hd ht (fun h => kt h H locs la hP hD hS hl) (fun h => kf h H locs la hP hD hS hl)
theorem z_if_gt {x : Int32} {off : Int} {tgt : Nat} (C : zC G cc nL own ret d) (hd : decode cc pc = .ok (.ifCond .gt off, 3)) (ht : (pc : Int) + off = (tgt : Int)) (kt : 0 < x → zV G nL tgt ls st ws) (kf : ¬ 0 < x → zV G nL (pc + 3) ls st ws) : zV G nL pc ls (.int x :: st) ws := fun H locs la hP hD hS hl => lv_if_gt C.1.1 C.1.2.1 hd ht (fun h => kt h H locs la hP hD hS hl) (fun h => kf h H locs la hP hD hS hl)
theorem z_if_le {x : Int32} {off : Int} {tgt : Nat} (C : zC G cc nL own ret d) (hd : decode cc pc = .ok (.ifCond .le off, 3)) (ht : (pc : Int) + off = (tgt : Int)) (kt : x ≤ 0 → zV G nL tgt ls st ws) (kf : ¬ x ≤ 0 → zV G nL (pc + 3) ls st ws) : zV G nL pc ls (.int x :: st) ws := fun H locs la hP hD hS hl => lv_if_le C.1.1 C.1.2.1 hd ht (fun h => kt h H locs la hP hD hS hl) (fun h => kf h H locs la hP hD hS hl)
theorem z_tabIn {dflt lo hi : Int} {offs : Array Int} {len : Nat} {x x0 : Int32} {off : Int} {tgt : Nat} (C : zC G cc nL own ret d) (hd : decode cc pc = .ok (.tableswitch dflt lo hi offs, len)) (hx : x = x0) (h1 : ¬ x0.toInt < lo) (h2 : ¬ hi < x0.toInt) (ho : offs[(x0.toInt - lo).toNat]? = some off) (ht : (pc : Int) + off = (tgt : Int)) (k : zV G nL tgt ls st ws) : zV G nL pc ls (.int x :: st) ws := by
  subst hx
  exact fun H locs la hP hD hS hl => lv_tableIn C.1.1 C.1.2.1 hd h1 h2 ho ht (k H locs la hP hD hS hl)
theorem z_tabOut {dflt lo hi : Int} {offs : Array Int} {len : Nat} {x : Int32} {tgt : Nat} (C : zC G cc nL own ret d) (hd : decode cc pc = .ok (.tableswitch dflt lo hi offs, len)) (h : x.toInt < lo ∨ hi < x.toInt) (ht : (pc : Int) + dflt = (tgt : Int)) (k : zV G nL tgt ls st ws) : zV G nL pc ls (.int x :: st) ws := fun H locs la hP hD hS hl => lv_tableOut C.1.1 C.1.2.1 hd h ht (k H locs la hP hD hS hl)
theorem z_look {dflt : Int} {ps : Array (Int × Int)} {len : Nat} {x : Int32} {off : Int} {tgt : Nat} (C : zC G cc nL own ret d) (hd : decode cc pc = .ok (.lookupswitch dflt ps, len)) (hp : (ps.toList.zip (ps.toList.drop 1)).all (fun (a, next) => a.1 < next.1) = true) (ho : Op.lookupswitch.offset ps.toList dflt x.toInt = off) (ht : (pc : Int) + off = (tgt : Int)) (k : zV G nL tgt ls st ws) : zV G nL pc ls (.int x :: st) ws := fun H locs la hP hD hS hl => lv_lookup C.1.1 C.1.2.1 hd hp ho ht (k H locs la hP hD hS hl)
theorem z_ldc {index : Nat} {v : Int32} (C : zC G cc nL own ret d) (hd : decode cc pc = .ok (.ldc index, 2)) (hw : Cond.constant own index v ∈ lw_tg) (k : zV G nL (pc + 2) ls (.int v :: st) ws) : zV G nL pc ls st ws := fun H locs la hP hD hS hl => lv_ldc C.1.1 C.1.2.1 C.1.2.2.2.1 (C.1.2.2.2.2 _ hw) hd (k H locs la hP hD hS hl)
theorem z_ldcw {index : Nat} {v : Int32} (C : zC G cc nL own ret d) (hd : decode cc pc = .ok (.ldc_w index, 3)) (hw : Cond.constant own index v ∈ lw_tg) (k : zV G nL (pc + 3) ls (.int v :: st) ws) : zV G nL pc ls st ws := fun H locs la hP hD hS hl => lv_ldcw C.1.1 C.1.2.1 C.1.2.2.2.1 (C.1.2.2.2.2 _ hw) hd (k H locs la hP hD hS hl)
theorem z_ldc2 {index : Nat} {v : Int64} (C : zC G cc nL own ret d) (hd : decode cc pc = .ok (.ldc2_w index, 3)) (hw : Cond.constantLong own index v ∈ lw_tg) (k : zV G nL (pc + 3) ls (.long v :: st) ws) : zV G nL pc ls st ws := fun H locs la hP hD hS hl => lv_ldc2 C.1.1 C.1.2.1 C.1.2.2.2.1 (C.1.2.2.2.2 _ hw) hd (k H locs la hP hD hS hl)
/-- an index in its row, and its place -/
def zin (i : Int32) (n k : Nat) : Prop := vp_in i n ∧ i.toNatClampNeg = k
theorem z_iald (q0 : Nat) {n : Nat} {f : Nat → Int32} {a k : Nat} {i : Int32} (C : zC G cc nL own ret d) (hd : decode cc pc = .ok (.iaload, 1)) (hi : zin i n k) (ha : ws[q0]? = some (a, aI (gk G) n f)) (kk : zV G nL (pc + 1) ls (.int (f k) :: st) ws) : zV G nL pc ls (.int i :: .ref a :: st) ws := by
  obtain ⟨h1, rfl⟩ := hi
  exact fun H locs la hP hD hS hl => va_iald C.1.1 C.1.2.1 C.2.1 hP q0 0 ha rfl h1 hd (kk H locs la hP hD hS hl)
theorem z_zald (q0 : Nat) {n : Nat} {f : Nat → Int32} {a k : Nat} {i : Int32} (C : zC G cc nL own ret d) (hd : decode cc pc = .ok (.baload, 1)) (hi : zin i n k) (ha : ws[q0]? = some (a, aZ (gk G) n f)) (kk : zV G nL (pc + 1) ls (.int (f k) :: st) ws) : zV G nL pc ls (.int i :: .ref a :: st) ws := by
  obtain ⟨h1, rfl⟩ := hi
  exact fun H locs la hP hD hS hl => va_zald C.1.1 C.1.2.1 C.2.1 hP q0 1 ha rfl h1 hd (kk H locs la hP hD hS hl)
theorem z_aald (q0 : Nat) {n : Nat} {f : Nat → Option Nat} {a k : Nat} {i : Int32} (C : zC G cc nL own ret d) (hd : decode cc pc = .ok (.aaload, 1)) (hi : zin i n k) (ha : ws[q0]? = some (a, aQ (gk G) n f)) (kk : zV G nL (pc + 1) ls (va_rf (f k) :: st) ws) : zV G nL pc ls (.int i :: .ref a :: st) ws := by
  obtain ⟨h1, rfl⟩ := hi
  intro H locs la hP hD hS hl
  have hlt : i.toNatClampNeg < n := Nat.not_le.mp fun q => h1 (Or.inr q)
  exact W.aald (v := va_rf (f i.toNatClampNeg)) (ty := .array .int) C.1.1 C.1.2.1 (hP q0 _ ha) ((C.2.1.2 2 _ rfl).1 n (fun j => va_rf (f j))) rfl (fun q => by cases q) (by show ¬ (i < 0 ∨ (arrV _ _ _).slots.size ≤ _); rw [arrV_size]; exact h1) (by show (arrV _ _ _).slots[_]? = _; rw [arrV_read _ _ hlt]) rfl rfl hd (kk H locs la hP hD hS hl)
theorem z_iast (q0 : Nat) {n : Nat} {f f' : Nat → Int32} {a k : Nat} {i x : Int32} {ws' : va_W} (C : zC G cc nL own ret d) (hd : decode cc pc = .ok (.iastore, 1)) (hi : zin i n k) (ha : ws[q0]? = some (a, aI (gk G) n f)) (he : upd f k x = f') (hw : ws.set q0 (a, aI (gk G) n f') = ws') (kk : zV G nL (pc + 1) ls st ws') : zV G nL pc ls (.int x :: .int i :: .ref a :: st) ws := by
  obtain ⟨h1, rfl⟩ := hi
  subst he
  subst hw
  exact fun H locs la hP hD hS hl => va_iast C.1.1 C.1.2.1 C.2.1 hP hD hS q0 0 ha rfl h1 hd (fun H1 locs1 hP1 hD1 hS1 => kk H1 locs1 la hP1 hD1 hS1 hl)
theorem z_zast (q0 : Nat) {n : Nat} {f f' : Nat → Int32} {a k : Nat} {i x : Int32} {ws' : va_W} (C : zC G cc nL own ret d) (hd : decode cc pc = .ok (.bastore, 1)) (hi : zin i n k) (ha : ws[q0]? = some (a, aZ (gk G) n f)) (he : upd f k (vp_nar .boolean x) = f') (hw : ws.set q0 (a, aZ (gk G) n f') = ws') (kk : zV G nL (pc + 1) ls st ws') : zV G nL pc ls (.int x :: .int i :: .ref a :: st) ws := by
  obtain ⟨h1, rfl⟩ := hi
  subst he
  subst hw
  exact fun H locs la hP hD hS hl => va_zast C.1.1 C.1.2.1 C.2.1 hP hD hS q0 1 ha rfl h1 hd (fun H1 locs1 hP1 hD1 hS1 => kk H1 locs1 la hP1 hD1 hS1 hl)
theorem z_alen (q0 : Nat) {n : Nat} {f : Nat → Int32} {a : Nat} {v : Int32} (C : zC G cc nL own ret d) (hd : decode cc pc = .ok (.arraylength, 1)) (ha : ws[q0]? = some (a, aI (gk G) n f)) (hv : Int32.ofNat n = v) (kk : zV G nL (pc + 1) ls (.int v :: st) ws) : zV G nL pc ls (.ref a :: st) ws := fun H locs la hP hD hS hl => va_alen C.1.1 C.1.2.1 C.2.1 hP q0 0 ha rfl hv hd (kk H locs la hP hD hS hl)
theorem z_get {index ci N a : Nat} {Cn : String} {T : u_T} {fs : List Value} {v : Value} (q0 k : Nat) (C : zC G cc nL own ret d) (hd : decode cc pc = .ok (.getfield index, 3)) (hc : vwCl[ci]? = some (Cn, T, N)) (hin : ∀ w ∈ u_ws Cn T N, w ∈ lw_tg) (hk : k < N) (hlink : Cond.fieldLink own index (T k).1 (T k).2.1 (T k).2.2.1 ∈ lw_tg) (he : ws[q0]? = some (a, .inr (ci, fs))) (hv : fs[k]? = some v) (kk : zV G nL (pc + 3) ls (v :: st) ws) : zV G nL pc ls (.ref a :: st) ws :=
  fun H locs la hP hD hS hl => va_get C.1.1 C.1.2.1 C.1.2.2.2.2 hin C.1.2.2.2.1 C.2.1 hP q0 he hc k hk (C.1.2.2.2.2 _ hlink) (fun _ h => h) hv hd (kk H locs la hP hD hS hl)
theorem z_put {index ci N a : Nat} {Cn : String} {T : u_T} {fs : List Value} {x : Int32} {ws' : va_W} (q0 k : Nat) (C : zC G cc nL own ret d) (hd : decode cc pc = .ok (.putfield index, 3)) (hc : vwCl[ci]? = some (Cn, T, N)) (hin : ∀ w ∈ u_ws Cn T N, w ∈ lw_tg) (ty0 : Nat → FieldType) (hty : ∀ k, k < N → parseFieldDescriptor (T k).2.2.1 = some (ty0 k)) (hnm : ∀ a, a < N → ∀ b, b < N → a ≠ b → (T a).2.1 ≠ (T b).2.1) (hk : k < N) (hlink : Cond.fieldLink own index (T k).1 (T k).2.1 (T k).2.2.1 ∈ lw_tg) (hfin : (T k).2.2.2 = false) (hti : ty0 k = .int) (he : ws[q0]? = some (a, .inr (ci, fs))) (hlen : k < fs.length) (hw : ws.set q0 (a, .inr (ci, fs.set k (.int x))) = ws') (kk : zV G nL (pc + 3) ls st ws') : zV G nL pc ls (.int x :: .ref a :: st) ws := by
  subst hw
  exact fun H locs la hP hD hS hl => va_put C.1.1 C.1.2.1 C.1.2.2.2.2 hin ty0 hty hnm C.1.2.2.2.1 C.2.1 hP hD hS q0 he hc k hk (C.1.2.2.2.2 _ hlink) (fun _ h => h) hfin (hty k hk) (by rw [hti]; rfl) (by rw [hti]; rfl) hlen hd (fun H1 locs1 hP1 hD1 hS1 => kk H1 locs1 la hP1 hD1 hS1 hl)
/-- the ends -/
theorem z_iret {v : Int32} (C : zC G cc nL own (some .int) d) (hd : decode cc pc = .ok (.ireturn, 1)) (F : zF G (some (.int v)) ws) : zV G nL pc ls [.int v] ws := fun H locs la hP hD hS hl => W.iret C.1.1 C.1.2.1 C.2.2.2.2.1 (fun t ht _ => F H locs t hP hS ht) hS.2.2 hd C.2.2.2.1
theorem z_zret {v : Int32} (C : zC G cc nL own (some .boolean) d) (hd : decode cc pc = .ok (.ireturn, 1)) (hn : narrow .boolean (.int v) = .int v) (F : zF G (some (.int v)) ws) : zV G nL pc ls [.int v] ws := fun H locs la hP hD hS hl => W.zret C.1.1 C.1.2.1 C.2.2.2.2.1 hn (fun t ht _ => F H locs t hP hS ht) hS.2.2 hd C.2.2.2.1
theorem z_vret (C : zC G cc nL own none d) (hd : decode cc pc = .ok (.return_, 1)) (F : zF G none ws) : zV G nL pc ls [] ws := fun H locs la hP hD hS hl => W.vret C.1.1 C.1.2.1 C.2.2.2.2.1 (fun t ht _ => F H locs t hP hS ht) hS.2.2 hd C.2.2.2.1
end ZROWS
/-- the pure side's words: a guarded place, names, answers of callees -/
def gd {γ : Type} (i : Int32) (n : Nat) (K : Nat → Option γ) : Option γ := if i < 0 ∨ n ≤ i.toNatClampNeg then none else K i.toNatClampNeg
def nmI {α γ : Type} (x : α) (K : α → Option γ) : Option γ := K x
def b1 {α γ : Type} (o : Option α) (K : α → Option γ) : Option γ := match o with
  | none => none
  | some a => K a
def b2 {α β γ : Type} (o : Option (α × β)) (K : α → β → Option γ) : Option γ := match o with
  | none => none
  | some (a, b) => K a b
def b3 {α β δ γ : Type} (o : Option (α × β × δ)) (K : α → β → δ → Option γ) : Option γ := match o with
  | none => none
  | some (a, b, c) => K a b c
def b4 {α β δ ε γ : Type} (o : Option (α × β × δ × ε)) (K : α → β → δ → ε → Option γ) : Option γ := match o with
  | none => none
  | some (a, b, c, d) => K a b c d
def b5 {α β δ ε ζ γ : Type} (o : Option (α × β × δ × ε × ζ)) (K : α → β → δ → ε → ζ → Option γ) : Option γ := match o with
  | none => none
  | some (a, b, c, d, e) => K a b c d e
def b6 {α β δ ε ζ η γ : Type} (o : Option (α × β × δ × ε × ζ × η)) (K : α → β → δ → ε → ζ → η → Option γ) : Option γ := match o with
  | none => none
  | some (a, b, c, d, e, f) => K a b c d e f
def b7 {α β δ ε ζ η θ γ : Type} (o : Option (α × β × δ × ε × ζ × η × θ)) (K : α → β → δ → ε → ζ → η → θ → Option γ) : Option γ := match o with
  | none => none
  | some (a, b, c, d, e, f, g) => K a b c d e f g
theorem gd_e {γ : Type} {i : Int32} {n : Nat} {K : Nat → Option γ} {r : γ} (h : gd i n K = some r) : ∃ k, zin i n k ∧ K k = some r := by
  unfold gd at h
  split at h
  · cases h
  · exact ⟨_, ⟨by assumption, rfl⟩, h⟩
theorem nm_g {α γ : Type} {x : α} {K : α → Option γ} {r : γ} (h : nmI x K = some r) : ∃ y, x = y ∧ K y = some r := ⟨x, rfl, h⟩
theorem b1_e {α γ : Type} {o : Option α} {K : α → Option γ} {r : γ} (h : b1 o K = some r) : ∃ a, o = some a ∧ K a = some r := by
  cases o with
  | none => cases h
  | some a => exact ⟨a, rfl, h⟩
theorem b2_e {α β γ : Type} {o : Option (α × β)} {K : α → β → Option γ} {r : γ} (h : b2 o K = some r) : ∃ a b, o = some (a, b) ∧ K a b = some r := by
  cases o with
  | none => cases h
  | some a => exact ⟨_, _, rfl, h⟩
theorem b3_e {α β δ γ : Type} {o : Option (α × β × δ)} {K : α → β → δ → Option γ} {r : γ} (h : b3 o K = some r) : ∃ a b c, o = some (a, b, c) ∧ K a b c = some r := by
  cases o with
  | none => cases h
  | some a => exact ⟨_, _, _, rfl, h⟩
theorem b4_e {α β δ ε γ : Type} {o : Option (α × β × δ × ε)} {K : α → β → δ → ε → Option γ} {r : γ} (h : b4 o K = some r) : ∃ a b c d, o = some (a, b, c, d) ∧ K a b c d = some r := by
  cases o with
  | none => cases h
  | some a => exact ⟨_, _, _, _, rfl, h⟩
theorem b5_e {α β δ ε ζ γ : Type} {o : Option (α × β × δ × ε × ζ)} {K : α → β → δ → ε → ζ → Option γ} {r : γ} (h : b5 o K = some r) : ∃ a b c d e, o = some (a, b, c, d, e) ∧ K a b c d e = some r := by
  cases o with
  | none => cases h
  | some a => exact ⟨_, _, _, _, _, rfl, h⟩
theorem b6_e {α β δ ε ζ η γ : Type} {o : Option (α × β × δ × ε × ζ × η)} {K : α → β → δ → ε → ζ → η → Option γ} {r : γ} (h : b6 o K = some r) : ∃ a b c d e f, o = some (a, b, c, d, e, f) ∧ K a b c d e f = some r := by
  cases o with
  | none => cases h
  | some a => exact ⟨_, _, _, _, _, _, rfl, h⟩
theorem b7_e {α β δ ε ζ η θ γ : Type} {o : Option (α × β × δ × ε × ζ × η × θ)} {K : α → β → δ → ε → ζ → η → θ → Option γ} {r : γ} (h : b7 o K = some r) : ∃ a b c d e f g, o = some (a, b, c, d, e, f, g) ∧ K a b c d e f g = some r := by
  cases o with
  | none => cases h
  | some a => exact ⟨_, _, _, _, _, _, _, rfl, h⟩
theorem ifp {γ : Type} {c : Prop} [Decidable c] {a b : Option γ} {r : γ} (hc : c) (h : (if c then a else b) = some r) : a = some r := by
  rw [if_pos hc] at h
  exact h
theorem ifn {γ : Type} {c : Prop} [Decidable c] {a b : Option γ} {r : γ} (hc : ¬ c) (h : (if c then a else b) = some r) : b = some r := by
  rw [if_neg hc] at h
  exact h
/-- the places 'is' of a list, set to the cells of another -/
def zput (ws : va_W) : List Nat → va_W → va_W
  | i :: is, c :: cs => zput (ws.set i c) is cs
  | _, _ => ws
theorem zput_get : ∀ (is : List Nat) (cs ws : va_W), (∀ i ∈ is, i < ws.length) → is.length = cs.length → ∀ (k : Nat) (q : Nat × va_E), (zput ws is cs)[k]? = some q → (∃ j : Nat, is[j]? = some k ∧ cs[j]? = some q) ∨ (k ∉ is ∧ ws[k]? = some q)
  | [], cs, ws, _, _, k, q, h => Or.inr ⟨List.not_mem_nil, by simpa [zput] using h⟩
  | _ :: _, [], _, _, hl, _, _, _ => by cases hl
  | i :: is, c :: cs, ws, hi, hl, k, q, h => by
    have h0 : i < ws.length := hi i List.mem_cons_self
    rcases zput_get is cs (ws.set i c) (fun j hj => by rw [List.length_set]; exact hi j (List.mem_cons_of_mem _ hj)) (Nat.succ.inj hl) k q h with ⟨j, h1, h2⟩ | ⟨h1, h2⟩
    · exact Or.inl ⟨j + 1, by simpa using h1, by simpa using h2⟩
    · by_cases hk : k = i
      · subst hk
        rw [List.getElem?_set_self h0] at h2
        exact Or.inl ⟨0, rfl, h2⟩
      · rw [List.getElem?_set_ne (Ne.symm hk)] at h2
        exact Or.inr ⟨fun hm => (List.mem_cons.mp hm).elim hk h1, h2⟩
theorem zfm : ∀ {is : List Nat} {ws w : va_W}, is.map (fun i => ws[i]?) = w.map some → is.filterMap (fun i => ws[i]?) = w := by
  intro is ws w h
  have h1 : is.filterMap (fun i => ws[i]?) = (is.map (fun i => ws[i]?)).filterMap id := by rw [List.filterMap_map]; rfl
  rw [h1, h, List.filterMap_map]
  simp
theorem zat {is : List Nat} {ws w : va_W} (hs : is.map (fun i => ws[i]?) = w.map some) (j : Nat) : (is[j]?).bind (fun i => ws[i]?) = w[j]? := by
  have h1 : (is.map (fun i => ws[i]?))[j]? = (w.map some)[j]? := by rw [hs]
  rw [List.getElem?_map, List.getElem?_map] at h1
  cases hi : is[j]? with
  | none => rw [hi] at h1; cases hw : w[j]? with
    | none => rfl
    | some q => rw [hw] at h1; cases h1
  | some i => rw [hi] at h1; cases hw : w[j]? with
    | none => rw [hw] at h1; cases h1
    | some q => rw [hw] at h1; exact Option.some.inj h1
theorem zput_P {D : va_G} {cl : List vw_C} {A0 : Nat → Prop} {ws wc w1 : va_W} {H H1 : Heap} {is : List Nat} (hP : va_P D cl ws H) (hD : va_D A0 ws) (hC : is.map (fun i => ws[i]?) = wc.map some) (hf : w1.map Prod.fst = wc.map Prod.fst)
    (hk : ∀ q : Nat, q < H.size → ¬ va_A wc H.size q → H1[q]? = H[q]?) (hP1 : va_P D cl w1 H1) : va_P D cl (zput ws is w1) H1 ∧ va_D A0 (zput ws is w1) := by
  have hlen : is.length = wc.length := by have := congrArg List.length hC; simpa using this
  have hlen1 : w1.length = wc.length := by have := congrArg List.length hf; simpa using this
  have hlt : ∀ i ∈ is, i < ws.length := by
    intro i hi
    obtain ⟨j, hj⟩ := List.getElem?_of_mem hi
    have h1 := zat hC j
    rw [hj] at h1
    have hjl : j < wc.length := by rw [← hlen]; exact (List.getElem?_eq_some_iff.mp hj).1
    rw [List.getElem?_eq_getElem hjl] at h1
    exact (List.getElem?_eq_some_iff.mp (show ws[i]? = some _ from h1)).1
  have hadr : ∀ (k : Nat) (q : Nat × va_E), (zput ws is w1)[k]? = some q → (∃ q0, ws[k]? = some q0 ∧ q0.1 = q.1) ∧ va_at D cl q H1 := by
    intro k q hq
    rcases zput_get is w1 ws hlt (hlen.trans hlen1.symm) k q hq with ⟨j, h1, h2⟩ | ⟨h1, h2⟩
    · refine ⟨?_, hP1 j q h2⟩
      have h3 := zat hC j
      rw [h1] at h3
      have h4 : (w1.map Prod.fst)[j]? = (wc.map Prod.fst)[j]? := by rw [hf]
      rw [List.getElem?_map, List.getElem?_map, h2, ← h3] at h4
      cases hw : ws[k]? with
      | none => rw [show ((some k).bind fun i => ws[i]?) = ws[k]? from rfl, hw] at h4; cases h4
      | some q0 => rw [show ((some k).bind fun i => ws[i]?) = ws[k]? from rfl, hw] at h4; exact ⟨q0, rfl, (Option.some.inj h4).symm⟩
    · refine ⟨⟨q, h2, rfl⟩, (hP k q h2).kept (hk q.1 (hP k q h2).lt ?_)⟩
      rintro (⟨j, e, h3⟩ | h3)
      · have h4 := zat hC j
        rw [h3] at h4
        cases hi : is[j]? with
        | none => rw [hi] at h4; cases h4
        | some i =>
          rw [hi] at h4
          have h5 : ws[i]? = some (q.1, e) := h4
          have := hD.1 k i q (q.1, e) h2 h5 rfl
          subst this
          exact h1 (List.mem_of_getElem? hi)
      · exact absurd (hP k q h2).lt (Nat.not_lt.mpr h3)
  refine ⟨fun k q hq => (hadr k q hq).2, fun i j x y hi hj hxy => ?_, fun k q hq => ?_⟩
  · obtain ⟨⟨x0, h1, h2⟩, -⟩ := hadr i x hi
    obtain ⟨⟨y0, h3, h4⟩, -⟩ := hadr j y hj
    exact hD.1 i j x0 y0 h1 h3 (h2.trans (hxy.trans h4.symm))
  · obtain ⟨⟨q0, h1, h2⟩, -⟩ := hadr k q hq
    rw [← h2]
    exact hD.2 k q0 h1
/-- a contract: from the world ws to the world ws2, with an answer -/
def zB (D : va_G) (cs : ClassId × ClassId × ClassId) (ws : va_W) (sz : Nat) (U : State) : Prop := U.heap.size = sz ∧ va_P D vwCl ws U.heap ∧ va_K D vwCl (TYs cs) U ∧ va_D (fun _ => True) ws
def zM (l : Launch) (D : va_G) (cs : ClassId × ClassId × ClassId) (y : MethodName) (bytes : ByteArray) (maxL : Nat) (ret : Option FieldType) (d : Nat) (As : List Value) (ws : va_W) (rv : Int32) (ws2 : va_W) : Prop :=
  ∀ sz : Nat, Met l y (.code y bytes maxL ret :: lw_tg) (Rmd d) (va_Pc As (zB D cs ws sz)) (va_Qi (fun v (_ : Unit) => v = rv) (fun _ t => va_P D vwCl ws2 t.heap) (va_A ws sz)) 0 0 (va_A ws sz)
def zMv (l : Launch) (D : va_G) (cs : ClassId × ClassId × ClassId) (y : MethodName) (bytes : ByteArray) (maxL : Nat) (ret : Option FieldType) (d : Nat) (As : List Value) (ws : va_W) (ws2 : va_W) : Prop :=
  ∀ sz : Nat, Met l y (.code y bytes maxL ret :: lw_tg) (Rmd d) (va_Pc As (zB D cs ws sz)) (va_Qv (fun (_ : Unit) => True) (fun _ t => va_P D vwCl ws2 t.heap) (va_A ws sz)) 0 0 (va_A ws sz)
theorem zB_blind {D : va_G} {cs : ClassId × ClassId × ClassId} {ws : va_W} {sz : Nat} {As : List Value} : FrameBlind (va_Pc As (zB D cs ws sz)) := fun a U g mk q => by
  obtain ⟨q0, q1, q2, q3, q4⟩ := q
  exact ⟨q0, q1, q2, va_K.moved (u := U) (U := U.calling g mk a) (Vm.Alike.refl U.vm) q3, q4⟩
def zW (own : String) (index : Nat) (y : MethodName) (bytes : ByteArray) (maxL : Nat) (ret : Option FieldType) (n : Nat) : Prop :=
  (Cond.methodLink own index y ∈ lw_tg ∧ Cond.initialized y.cls ∈ lw_tg ∧ Cond.code y bytes maxL ret ∈ lw_tg) ∧ (y.cls ≠ "java/lang/invoke/MethodHandle" ∧ y.cls ≠ "java/lang/invoke/VarHandle" ∧ (parseMethodDescriptor y.desc).map (fun d => d.parameters.length) = some n) ∧ maxL ≤ 11
def zWI (own : String) (index : Nat) (y : MethodName) (bytes : ByteArray) (maxL : Nat) (ret : Option FieldType) (n : Nat) : Prop := zW own index y bytes maxL ret n ∧ Cond.instanceMethod y ∈ lw_tg ∧ Cond.selects y.cls y y ∈ lw_tg
def zWS (own : String) (index : Nat) (y : MethodName) (bytes : ByteArray) (maxL : Nat) (ret : Option FieldType) (n : Nat) : Prop := zW own index y bytes maxL ret n ∧ Cond.static y ∈ lw_tg
theorem zGood {y : MethodName} {bytes : ByteArray} {maxL : Nat} {ret : Option FieldType} (h : Cond.code y bytes maxL ret ∈ lw_tg) : GoodIn lw_tg (.code y bytes maxL ret :: lw_tg) := by
  intro w hw
  rcases List.mem_cons.mp hw with rfl | hw
  · exact ⟨h, (lw_good _ h).2⟩
  · exact ⟨hw, (lw_good _ hw).2⟩
section ZCALL
variable {G : GT} {cc : ByteArray} {nL : Nat} {own : String} {ret : Option FieldType} {d pc : Nat} {ls : List (Nat × Value)} {st stk : List Value} {ws ws2 : va_W}
variable {index n maxL d2 a ci N : Nat} {y : MethodName} {bytes : ByteArray} {ret2 : Option FieldType} {As : List Value} {wc w1 : va_W} {rv : Int32} {fs : List Value} {T : u_T}
theorem zCB {R : Room} {s : State} {args : Array Value} (hR : R = Rmd d) (hts : ∀ w ∈ lw_tg, w.before args s = true) (w : zW own index y bytes maxL ret2 n) (hlt : d2 < d) : CallB R s args own index y bytes maxL ret2 (.code y bytes maxL ret2 :: lw_tg) (Rmd d2) 0 0 n :=
  callB_of n hts (zGood w.1.2.2) rfl rfl rfl (hts _ w.1.2.1) (hts _ w.1.1) w.2.1 (by rw [hR]; have := w.2.2; simp only [Rmd]; omega)
theorem z_callV (is : List Nat) (C : zC G cc nL own ret d) (hd : decode cc pc = .ok (.invokevirtual index, 3)) (w : zWI own index y bytes maxL ret2 n) (hM : zM (gl G) (gD G) (gk G) y bytes maxL ret2 d2 (.ref a :: As) wc rv w1) (hlt : d2 < d) (hC : is.map (fun i => ws[i]?) = wc.map some) (hnd : va_nd is = true) (hf : w1.map Prod.fst = wc.map Prod.fst) (hr0 : wc[0]? = some (a, .inr (ci, fs))) (hr1 : vwCl[ci]? = some (y.cls, T, N)) (hn : As.length = n) (hst : stk = As.reverse ++ .ref a :: st) (hcat : (st.map fun v => v.category).sum ≤ 8) (hws : zput ws is w1 = ws2)
    (kk : zV G nL (pc + 3) ls (.int rv :: st) ws2) : zV G nL pc ls stk ws := by
  intro H locs la hP hD hS hl
  subst hst
  subst hws
  have hPc := hP.sub is (zfm hC)
  have hDc := hD.sub is hnd hC
  have hFc := va_free hD hS C.2.2.2.2.2 is hC
  refine va_calli (va_runV (As := As) (rest := st) C.1 (hM H.size) ⟨zCB C.2.2.1 C.1.2.2.2.2 w.1 hlt, C.1.2.2.2.2 _ w.2.1, C.1.2.2.2.2 _ w.2.2⟩ ⟨zB_blind, va_recv C.2.1 hPc hr1 hr0, fun U hU hW => ⟨rfl, by rw [hU], by rw [hU]; exact hPc, va_K.moved hW.alike C.2.1, hDc.weaken (fun _ _ _ _ => trivial)⟩⟩ rfl hn hl.1 rfl (lv_room hcat) hd ⟨Nat.zero_le _, Nat.zero_le _⟩) hS (fun q _ h => hFc q h) hFc (fun r u t H1 locs1 ht hvm hw hB hz1 hk1 hS1 => ?_)
  rw [ht] at hB
  obtain ⟨hP1, hD1⟩ := zput_P hP hD hC hf hk1 hB
  cases hw
  exact kk H1 locs1 la hP1 hD1 hS1 hl
theorem z_callVv (is : List Nat) (C : zC G cc nL own ret d) (hd : decode cc pc = .ok (.invokevirtual index, 3)) (w : zWI own index y bytes maxL ret2 n) (hM : zMv (gl G) (gD G) (gk G) y bytes maxL ret2 d2 (.ref a :: As) wc w1) (hlt : d2 < d) (hC : is.map (fun i => ws[i]?) = wc.map some) (hnd : va_nd is = true) (hf : w1.map Prod.fst = wc.map Prod.fst) (hr0 : wc[0]? = some (a, .inr (ci, fs))) (hr1 : vwCl[ci]? = some (y.cls, T, N)) (hn : As.length = n) (hst : stk = As.reverse ++ .ref a :: st) (hcat : (st.map fun v => v.category).sum ≤ 8) (hws : zput ws is w1 = ws2)
    (kk : zV G nL (pc + 3) ls st ws2) : zV G nL pc ls stk ws := by
  intro H locs la hP hD hS hl
  subst hst
  subst hws
  have hPc := hP.sub is (zfm hC)
  have hDc := hD.sub is hnd hC
  have hFc := va_free hD hS C.2.2.2.2.2 is hC
  refine va_callv (va_runV (As := As) (rest := st) C.1 (hM H.size) ⟨zCB C.2.2.1 C.1.2.2.2.2 w.1 hlt, C.1.2.2.2.2 _ w.2.1, C.1.2.2.2.2 _ w.2.2⟩ ⟨zB_blind, va_recv C.2.1 hPc hr1 hr0, fun U hU hW => ⟨rfl, by rw [hU], by rw [hU]; exact hPc, va_K.moved hW.alike C.2.1, hDc.weaken (fun _ _ _ _ => trivial)⟩⟩ rfl hn hl.1 rfl (lv_room hcat) hd ⟨Nat.zero_le _, Nat.zero_le _⟩) hS (fun q _ h => hFc q h) hFc (fun u t H1 locs1 ht hvm hw hB hz1 hk1 hS1 => ?_)
  rw [ht] at hB
  obtain ⟨hP1, hD1⟩ := zput_P hP hD hC hf hk1 hB
  exact kk H1 locs1 la hP1 hD1 hS1 hl
theorem z_callS (is : List Nat) (C : zC G cc nL own ret d) (hd : decode cc pc = .ok (.invokestatic index, 3)) (w : zWS own index y bytes maxL ret2 n) (hM : zM (gl G) (gD G) (gk G) y bytes maxL ret2 d2 As wc rv w1) (hlt : d2 < d) (hC : is.map (fun i => ws[i]?) = wc.map some) (hnd : va_nd is = true) (hf : w1.map Prod.fst = wc.map Prod.fst) (hn : As.length = n) (hst : stk = As.reverse ++ st) (hcat : (st.map fun v => v.category).sum ≤ 8) (hws : zput ws is w1 = ws2)
    (kk : zV G nL (pc + 3) ls (.int rv :: st) ws2) : zV G nL pc ls stk ws := by
  intro H locs la hP hD hS hl
  subst hst
  subst hws
  have hPc := hP.sub is (zfm hC)
  have hDc := hD.sub is hnd hC
  have hFc := va_free hD hS C.2.2.2.2.2 is hC
  refine va_calli (va_runS (As := As) (rest := st) C.1 (hM H.size) ⟨zCB C.2.2.1 C.1.2.2.2.2 w.1 hlt, C.1.2.2.2.2 _ w.2⟩ ⟨zB_blind, fun U hU hW => ⟨rfl, by rw [hU], by rw [hU]; exact hPc, va_K.moved hW.alike C.2.1, hDc.weaken (fun _ _ _ _ => trivial)⟩⟩ rfl hn hl.1 rfl (lv_room hcat) hd ⟨Nat.zero_le _, Nat.zero_le _⟩) hS (fun q _ h => hFc q h) hFc (fun r u t H1 locs1 ht hvm hw hB hz1 hk1 hS1 => ?_)
  rw [ht] at hB
  obtain ⟨hP1, hD1⟩ := zput_P hP hD hC hf hk1 hB
  cases hw
  exact kk H1 locs1 la hP1 hD1 hS1 hl
theorem z_callSv (is : List Nat) (C : zC G cc nL own ret d) (hd : decode cc pc = .ok (.invokestatic index, 3)) (w : zWS own index y bytes maxL ret2 n) (hM : zMv (gl G) (gD G) (gk G) y bytes maxL ret2 d2 As wc w1) (hlt : d2 < d) (hC : is.map (fun i => ws[i]?) = wc.map some) (hnd : va_nd is = true) (hf : w1.map Prod.fst = wc.map Prod.fst) (hn : As.length = n) (hst : stk = As.reverse ++ st) (hcat : (st.map fun v => v.category).sum ≤ 8) (hws : zput ws is w1 = ws2)
    (kk : zV G nL (pc + 3) ls st ws2) : zV G nL pc ls stk ws := by
  intro H locs la hP hD hS hl
  subst hst
  subst hws
  have hPc := hP.sub is (zfm hC)
  have hDc := hD.sub is hnd hC
  have hFc := va_free hD hS C.2.2.2.2.2 is hC
  refine va_callv (va_runS (As := As) (rest := st) C.1 (hM H.size) ⟨zCB C.2.2.1 C.1.2.2.2.2 w.1 hlt, C.1.2.2.2.2 _ w.2⟩ ⟨zB_blind, fun U hU hW => ⟨rfl, by rw [hU], by rw [hU]; exact hPc, va_K.moved hW.alike C.2.1, hDc.weaken (fun _ _ _ _ => trivial)⟩⟩ rfl hn hl.1 rfl (lv_room hcat) hd ⟨Nat.zero_le _, Nat.zero_le _⟩) hS (fun q _ h => hFc q h) hFc (fun u t H1 locs1 ht hvm hw hB hz1 hk1 hS1 => ?_)
  rw [ht] at hB
  obtain ⟨hP1, hD1⟩ := zput_P hP hD hC hf hk1 hB
  exact kk H1 locs1 la hP1 hD1 hS1 hl
def zmx (x y : Int32) : Int32 := if x < y then y else x
def zmn (x y : Int32) : Int32 := if y < x then y else x
def zWM (own : String) (index : Nat) (y : MethodName) (bytes : ByteArray) : Prop := Cond.methodLink own index y ∈ lw_tg ∧ Cond.static y ∈ lw_tg ∧ Cond.initialized "java/lang/Math" ∈ lw_tg ∧ Cond.code y bytes 2 (some .int) ∈ lw_tg
theorem z_mmax {x z : Int32} (C : zC G cc nL own ret d) (hd : decode cc pc = .ok (.invokestatic index, 3)) (w : zWM own index Lib.Math.max.name Lib.Math.max.code) (hlt : 0 < d) (hcat : (st.map fun v => v.category).sum ≤ 8) (kk : zV G nL (pc + 3) ls (.int (zmx x z) :: st) ws) : zV G nL pc ls (.int z :: .int x :: st) ws := fun H locs la hP hD hS hl =>
  va_mmax C.1.1 C.1.2.1 (C.1.2.2.1.trans hl.1.symm) C.1.2.2.2.1 (C.1.2.2.2.2 _ w.1) (C.1.2.2.2.2 _ w.2.1) (C.1.2.2.2.2 _ w.2.2.1) (C.1.2.2.2.2 _ w.2.2.2) (by rw [C.2.2.1]; exact hlt) (by rw [C.2.2.1]; simp only [Rmd]; omega) (Nat.zero_le _) (Nat.zero_le _) hd (kk H locs la hP hD hS hl)
theorem z_mmin {x z : Int32} (C : zC G cc nL own ret d) (hd : decode cc pc = .ok (.invokestatic index, 3)) (w : zWM own index Lib.Math.min.name Lib.Math.min.code) (hlt : 0 < d) (hcat : (st.map fun v => v.category).sum ≤ 8) (kk : zV G nL (pc + 3) ls (.int (zmn x z) :: st) ws) : zV G nL pc ls (.int z :: .int x :: st) ws := fun H locs la hP hD hS hl =>
  va_mmin C.1.1 C.1.2.1 (C.1.2.2.1.trans hl.1.symm) C.1.2.2.2.1 (C.1.2.2.2.2 _ w.1) (C.1.2.2.2.2 _ w.2.1) (C.1.2.2.2.2 _ w.2.2.1) (C.1.2.2.2.2 _ w.2.2.2) (by rw [C.2.2.1]; exact hlt) (by rw [C.2.2.1]; simp only [Rmd]; omega) (Nat.zero_le _) (Nat.zero_le _) hd (kk H locs la hP hD hS hl)
def zWC (own : String) (index : Nat) : Prop := Cond.methodLink own index arraycopyName ∈ lw_tg ∧ Cond.native arraycopyName ∈ lw_tg ∧ Cond.static arraycopyName ∈ lw_tg ∧ Cond.initialized "java/lang/System" ∈ lw_tg
theorem z_copy (q0 q1 : Nat) {n0 n1 a0 a1 s0 d0 c0 : Nat} {f g g2 : Nat → Int32} {sp dp cn : Int32} (C : zC G cc nL own ret d) (hd : decode cc pc = .ok (.invokestatic index, 3)) (w : zWC own index) (hlt : 0 < d) (hcat : (st.map fun v => v.category).sum ≤ 8) (ha0 : ws[q0]? = some (a0, aI (gk G) n0 f)) (ha1 : ws[q1]? = some (a1, aI (gk G) n1 g)) (h1 : ¬ sp < 0 ∧ sp.toNatClampNeg = s0) (h2 : ¬ dp < 0 ∧ dp.toNatClampNeg = d0) (h3 : ¬ cn < 0 ∧ cn.toNatClampNeg = c0) (h4 : s0 + c0 ≤ n0) (h5 : d0 + c0 ≤ n1) (he : va_cpy f g s0 d0 c0 = g2) (hws : ws.set q1 (a1, aI (gk G) n1 g2) = ws2)
    (kk : zV G nL (pc + 3) ls st ws2) : zV G nL pc ls (.int cn :: .int dp :: .ref a1 :: .int sp :: .ref a0 :: st) ws := by
  intro H locs la hP hD hS hl
  obtain ⟨h1, rfl⟩ := h1
  obtain ⟨h2, rfl⟩ := h2
  obtain ⟨h3, rfl⟩ := h3
  subst he
  subst hws
  have hfr : 1 ≤ (gR G).frames := by rw [C.2.2.1]; exact hlt
  have hlo : (st.map fun v => v.category).sum + (nativeFrameWords "java/lang/System" "arraycopy" 5 + 11) ≤ (gR G).locals := by
    rw [C.2.2.1]
    have h9 : nativeFrameWords "java/lang/System" "arraycopy" 5 + 11 ≤ 22 := by decide +kernel
    simp only [Rmd]
    omega
  exact va_copyi C.1.1 C.1.2.1 (C.1.2.2.1.trans hl.1.symm) C.1.2.2.2.1 (C.1.2.2.2.2 _ w.1) (C.1.2.2.2.2 _ w.2.1) (C.1.2.2.2.2 _ w.2.2.1) (C.1.2.2.2.2 _ w.2.2.2) C.2.1 hP hD hS q0 q1 0 0 ha0 ha1 rfl rfl rfl h1 h2 h3 h4 h5 (fun _ _ => rfl) hfr hlo hd (fun H1 locs1 hP1 hD1 hS1 => kk H1 locs1 la hP1 hD1 hS1 hl)
end ZCALL
section ZOF
variable {l : Launch} {D : va_G} {cs : ClassId × ClassId × ClassId} {y : MethodName} {bytes : ByteArray} {maxL d : Nat} {ret : Option FieldType} {As : List Value} {ws ws2 : va_W} {rv : Int32}
theorem zM_of (hy : plainName y.cls = true) (ha : (lg_sl As).length ≤ maxL)
    (body : ∀ G : GT, gl G = l → gD G = D → gk G = cs → zC G bytes maxL y.cls ret d → zF G (some (.int rv)) ws2 → zV G maxL 0 (lv_args 0 As) [] ws) : zM l D cs y bytes maxL ret d As ws rv ws2 := by
  intro sz
  refine Met.ofW (cc := bytes) (maxL := maxL) (ret := ret) hy rfl ?_
  intro p e s m args below meth c s₁ B hml hv
  obtain ⟨rfl, hsz, hP, hK, hD0⟩ := hv
  subst hsz
  have hts := atoms_spec (ws := .code y bytes maxL ret :: lw_tg) B.pre
  have hl := lv_entry As (n := maxL) ha
  rw [lg_entry_eq]
  exact body (p, l, e, Rmd d, s, m, As.toArray, below, meth, c, D, cs, va_A ws s.heap.size, va_Qi (fun v (_ : Unit) => v = rv) (fun _ t => va_P D vwCl ws2 t.heap) (va_A ws s.heap.size)) rfl rfl rfl
    ⟨⟨B.exec, B.bytes, hml, findClass_of_methodNamed B.named, fun w hw => hts w (List.mem_cons_of_mem _ hw)⟩, hK, rfl, B.notSynchronized, B.returns, fun q h => Or.inr h⟩
    (fun H locs t hP2 hS2 ht => ⟨⟨rv, (), rfl, rfl, by show va_P D vwCl ws2 t.heap; rw [ht]; exact hP2⟩, va_S.F hS2 ht⟩) s.heap [] _ hP (hD0.self) va_S.rf hl
theorem zMv_of (hy : plainName y.cls = true) (ha : (lg_sl As).length ≤ maxL)
    (body : ∀ G : GT, gl G = l → gD G = D → gk G = cs → zC G bytes maxL y.cls ret d → zF G none ws2 → zV G maxL 0 (lv_args 0 As) [] ws) : zMv l D cs y bytes maxL ret d As ws ws2 := by
  intro sz
  refine Met.ofW (cc := bytes) (maxL := maxL) (ret := ret) hy rfl ?_
  intro p e s m args below meth c s₁ B hml hv
  obtain ⟨rfl, hsz, hP, hK, hD0⟩ := hv
  subst hsz
  have hts := atoms_spec (ws := .code y bytes maxL ret :: lw_tg) B.pre
  have hl := lv_entry As (n := maxL) ha
  rw [lg_entry_eq]
  exact body (p, l, e, Rmd d, s, m, As.toArray, below, meth, c, D, cs, va_A ws s.heap.size, va_Qv (fun (_ : Unit) => True) (fun _ t => va_P D vwCl ws2 t.heap) (va_A ws s.heap.size)) rfl rfl rfl
    ⟨⟨B.exec, B.bytes, hml, findClass_of_methodNamed B.named, fun w hw => hts w (List.mem_cons_of_mem _ hw)⟩, hK, rfl, B.notSynchronized, B.returns, fun q h => Or.inr h⟩
    (fun H locs t hP2 hS2 ht => ⟨⟨(), rfl, trivial, by show va_P D vwCl ws2 t.heap; rw [ht]; exact hP2⟩, va_S.F hS2 ht⟩) s.heap [] _ hP (hD0.self) va_S.rf hl
end ZOF
/-- the worlds -/
def HW (cs : ClassId × ClassId × ClassId) (h r fl : Nat) (row flow : Nat → Int32) : va_W := [(h, .inr (0, [.ref r, .ref fl])), (r, aI cs 125 row), (fl, aI cs 10 flow)]
def PW (cs : ClassId × ClassId × ClassId) (h q : Nat) (codes pf : Nat → Int32) : va_W := [(h, .inr (1, [.ref q, .int (pf 1), .int (pf 2), .int (pf 3), .int (pf 4), .int (pf 5), .int (pf 6)])), (q, aI cs 80 codes)]
def MW (cs : ClassId × ClassId × ClassId) (ad : Nat → Nat) (s sv tx cu ho mf : Nat → Int32) : va_W := [(ad 0, .inr (3, [.ref (ad 1), .int (mf 1), .ref (ad 2), .ref (ad 3), .int (mf 4), .int (mf 5), .int (mf 6), .ref (ad 4), .ref (ad 5), .int (mf 9), .int (mf 10), .int (mf 11), .int (mf 12), .int (mf 13)])), (ad 1, aI cs 1480 s), (ad 2, aZ cs 2 sv), (ad 3, aI cs 80 tx), (ad 4, aI cs 10 cu), (ad 5, aZ cs 10 ho)]
def FW (cs : ClassId × ClassId × ClassId) (ad : Nat → Nat) (nr nf tr tf co pf : Nat → Int32) (hi sl : Nat → Nat → Int32) (sv ff : Nat → Int32) : va_W := [(ad 0, .inr (2, [.ref (ad 1), .ref (ad 4), .ref (ad 7), .ref (ad 9), .ref (ad 17), .ref (ad 20), .int (ff 6), .int (ff 7)])), (ad 1, .inr (0, [.ref (ad 2), .ref (ad 3)])), (ad 2, aI cs 125 nr), (ad 3, aI cs 10 nf), (ad 4, .inr (0, [.ref (ad 5), .ref (ad 6)])), (ad 5, aI cs 125 tr), (ad 6, aI cs 10 tf), (ad 7, .inr (1, [.ref (ad 8), .int (pf 1), .int (pf 2), .int (pf 3), .int (pf 4), .int (pf 5), .int (pf 6)])), (ad 8, aI cs 80 co), (ad 9, aQ cs 7 (fun j => if j < 7 then some (ad (10 + j)) else none)), (ad 10, aI cs 125 (hi 0)), (ad 11, aI cs 125 (hi 1)), (ad 12, aI cs 125 (hi 2)), (ad 13, aI cs 125 (hi 3)), (ad 14, aI cs 125 (hi 4)), (ad 15, aI cs 125 (hi 5)), (ad 16, aI cs 125 (hi 6)), (ad 17, aQ cs 2 (fun j => if j < 2 then some (ad (18 + j)) else none)), (ad 18, aI cs 125 (sl 0)), (ad 19, aI cs 125 (sl 1)), (ad 20, aZ cs 2 sv)]
end
