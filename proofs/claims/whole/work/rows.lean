section
-- ===== PART A: goes FIRST, ahead of the names: the tables' words, and 'selects' of the private methods out of them =====
/-- a private method of a class that the tables say can be made, by its rows of tables_1 -/
def lw_okq (q : MethodName × Nat) : Prop := (q.1.cls ≠ "java/lang/invoke/MethodHandle" ∧ q.1.cls ≠ "java/lang/invoke/VarHandle") ∧ Cond.instantiable q.1.cls q.2 ∈ tables_1 ∧ Cond.privateMethod q.1 ∈ tables_1 ∧ Cond.instanceMethod q.1 ∈ tables_1
theorem lw_p0 : lw_okq (⟨"FuseBoards", "noteState", "()V"⟩, 8) := ⟨⟨by decide +kernel, by decide +kernel⟩, List.mem_of_getElem? (i := 10) (by decide +kernel), List.mem_of_getElem? (i := 92) (by decide +kernel), List.mem_of_getElem? (i := 93) (by decide +kernel)⟩
theorem lw_p1 : lw_okq (⟨"FuseBoards", "keepUnlessError", "(I)I"⟩, 8) := ⟨⟨by decide +kernel, by decide +kernel⟩, List.mem_of_getElem? (i := 10) (by decide +kernel), List.mem_of_getElem? (i := 111) (by decide +kernel), List.mem_of_getElem? (i := 112) (by decide +kernel)⟩
theorem lw_p2 : lw_okq (⟨"FuseBoards$House", "putNewFuse", "(III)V"⟩, 2) := ⟨⟨by decide +kernel, by decide +kernel⟩, List.mem_of_getElem? (i := 18) (by decide +kernel), List.mem_of_getElem? (i := 133) (by decide +kernel), List.mem_of_getElem? (i := 134) (by decide +kernel)⟩
theorem lw_p3 : lw_okq (⟨"FuseBoards$House", "addUpCurrents", "()V"⟩, 2) := ⟨⟨by decide +kernel, by decide +kernel⟩, List.mem_of_getElem? (i := 18) (by decide +kernel), List.mem_of_getElem? (i := 177) (by decide +kernel), List.mem_of_getElem? (i := 178) (by decide +kernel)⟩
theorem lw_p4 : lw_okq (⟨"FuseBoards$House", "deadBoards", "()I"⟩, 2) := ⟨⟨by decide +kernel, by decide +kernel⟩, List.mem_of_getElem? (i := 18) (by decide +kernel), List.mem_of_getElem? (i := 184) (by decide +kernel), List.mem_of_getElem? (i := 185) (by decide +kernel)⟩
theorem lw_p5 : lw_okq (⟨"FuseBoards$House", "addFlow", "(II)V"⟩, 2) := ⟨⟨by decide +kernel, by decide +kernel⟩, List.mem_of_getElem? (i := 18) (by decide +kernel), List.mem_of_getElem? (i := 188) (by decide +kernel), List.mem_of_getElem? (i := 189) (by decide +kernel)⟩
theorem lw_p6 : lw_okq (⟨"FuseBoards$House", "burnArcs", "()V"⟩, 2) := ⟨⟨by decide +kernel, by decide +kernel⟩, List.mem_of_getElem? (i := 18) (by decide +kernel), List.mem_of_getElem? (i := 192) (by decide +kernel), List.mem_of_getElem? (i := 193) (by decide +kernel)⟩
theorem lw_p7 : lw_okq (⟨"FuseBoards$House", "state", "(I)I"⟩, 2) := ⟨⟨by decide +kernel, by decide +kernel⟩, List.mem_of_getElem? (i := 18) (by decide +kernel), List.mem_of_getElem? (i := 196) (by decide +kernel), List.mem_of_getElem? (i := 197) (by decide +kernel)⟩
theorem lw_p8 : lw_okq (⟨"FuseBoards$House", "warm", "(II)V"⟩, 2) := ⟨⟨by decide +kernel, by decide +kernel⟩, List.mem_of_getElem? (i := 18) (by decide +kernel), List.mem_of_getElem? (i := 200) (by decide +kernel), List.mem_of_getElem? (i := 201) (by decide +kernel)⟩
theorem lw_p9 : lw_okq (⟨"FuseBoards$House", "creep", "(I)V"⟩, 2) := ⟨⟨by decide +kernel, by decide +kernel⟩, List.mem_of_getElem? (i := 18) (by decide +kernel), List.mem_of_getElem? (i := 209) (by decide +kernel), List.mem_of_getElem? (i := 210) (by decide +kernel)⟩
theorem lw_p10 : lw_okq (⟨"FuseBoards$House", "molten", "()I"⟩, 2) := ⟨⟨by decide +kernel, by decide +kernel⟩, List.mem_of_getElem? (i := 18) (by decide +kernel), List.mem_of_getElem? (i := 213) (by decide +kernel), List.mem_of_getElem? (i := 214) (by decide +kernel)⟩
theorem lw_p11 : lw_okq (⟨"FuseBoards$House", "meltingHeat", "(I)I"⟩, 2) := ⟨⟨by decide +kernel, by decide +kernel⟩, List.mem_of_getElem? (i := 18) (by decide +kernel), List.mem_of_getElem? (i := 217) (by decide +kernel), List.mem_of_getElem? (i := 218) (by decide +kernel)⟩
theorem lw_p12 : lw_okq (⟨"FuseBoards$House", "nearestOf", "(I)I"⟩, 2) := ⟨⟨by decide +kernel, by decide +kernel⟩, List.mem_of_getElem? (i := 18) (by decide +kernel), List.mem_of_getElem? (i := 224) (by decide +kernel), List.mem_of_getElem? (i := 225) (by decide +kernel)⟩
theorem lw_p13 : lw_okq (⟨"FuseBoards$House", "blow", "(I)V"⟩, 2) := ⟨⟨by decide +kernel, by decide +kernel⟩, List.mem_of_getElem? (i := 18) (by decide +kernel), List.mem_of_getElem? (i := 232) (by decide +kernel), List.mem_of_getElem? (i := 233) (by decide +kernel)⟩
theorem lw_p14 : lw_okq (⟨"FuseBoards$House", "current", "(I)I"⟩, 2) := ⟨⟨by decide +kernel, by decide +kernel⟩, List.mem_of_getElem? (i := 18) (by decide +kernel), List.mem_of_getElem? (i := 251) (by decide +kernel), List.mem_of_getElem? (i := 252) (by decide +kernel)⟩
theorem lw_p15 : lw_okq (⟨"FuseBoards$House", "boardsAhead", "(I)I"⟩, 2) := ⟨⟨by decide +kernel, by decide +kernel⟩, List.mem_of_getElem? (i := 18) (by decide +kernel), List.mem_of_getElem? (i := 255) (by decide +kernel), List.mem_of_getElem? (i := 256) (by decide +kernel)⟩
def lw_privs_1 : List (MethodName × Nat) := [(⟨"FuseBoards", "noteState", "()V"⟩, 8), (⟨"FuseBoards", "keepUnlessError", "(I)I"⟩, 8), (⟨"FuseBoards$House", "putNewFuse", "(III)V"⟩, 2), (⟨"FuseBoards$House", "addUpCurrents", "()V"⟩, 2), (⟨"FuseBoards$House", "deadBoards", "()I"⟩, 2), (⟨"FuseBoards$House", "addFlow", "(II)V"⟩, 2), (⟨"FuseBoards$House", "burnArcs", "()V"⟩, 2), (⟨"FuseBoards$House", "state", "(I)I"⟩, 2), (⟨"FuseBoards$House", "warm", "(II)V"⟩, 2), (⟨"FuseBoards$House", "creep", "(I)V"⟩, 2), (⟨"FuseBoards$House", "molten", "()I"⟩, 2), (⟨"FuseBoards$House", "meltingHeat", "(I)I"⟩, 2), (⟨"FuseBoards$House", "nearestOf", "(I)I"⟩, 2), (⟨"FuseBoards$House", "blow", "(I)V"⟩, 2), (⟨"FuseBoards$House", "current", "(I)I"⟩, 2), (⟨"FuseBoards$House", "boardsAhead", "(I)I"⟩, 2)]
theorem lw_r1 : ∀ q ∈ lw_privs_1, lw_okq q := List.forall_mem_cons.mpr ⟨lw_p0, List.forall_mem_cons.mpr ⟨lw_p1, List.forall_mem_cons.mpr ⟨lw_p2, List.forall_mem_cons.mpr ⟨lw_p3, List.forall_mem_cons.mpr ⟨lw_p4, List.forall_mem_cons.mpr ⟨lw_p5, List.forall_mem_cons.mpr ⟨lw_p6, List.forall_mem_cons.mpr ⟨lw_p7, List.forall_mem_cons.mpr ⟨lw_p8, List.forall_mem_cons.mpr ⟨lw_p9, List.forall_mem_cons.mpr ⟨lw_p10, List.forall_mem_cons.mpr ⟨lw_p11, List.forall_mem_cons.mpr ⟨lw_p12, List.forall_mem_cons.mpr ⟨lw_p13, List.forall_mem_cons.mpr ⟨lw_p14, List.forall_mem_cons.mpr ⟨lw_p15, fun _ h => absurd h List.not_mem_nil⟩⟩⟩⟩⟩⟩⟩⟩⟩⟩⟩⟩⟩⟩⟩⟩
theorem lw_p16 : lw_okq (⟨"FuseBoards$House", "allBoards", "()I"⟩, 2) := ⟨⟨by decide +kernel, by decide +kernel⟩, List.mem_of_getElem? (i := 18) (by decide +kernel), List.mem_of_getElem? (i := 268) (by decide +kernel), List.mem_of_getElem? (i := 269) (by decide +kernel)⟩
theorem lw_p17 : lw_okq (⟨"FuseBoards$House", "burningBoards", "()I"⟩, 2) := ⟨⟨by decide +kernel, by decide +kernel⟩, List.mem_of_getElem? (i := 18) (by decide +kernel), List.mem_of_getElem? (i := 301) (by decide +kernel), List.mem_of_getElem? (i := 302) (by decide +kernel)⟩
theorem lw_p18 : lw_okq (⟨"FuseBoards", "firstBlow", "(I)I"⟩, 8) := ⟨⟨by decide +kernel, by decide +kernel⟩, List.mem_of_getElem? (i := 10) (by decide +kernel), List.mem_of_getElem? (i := 316) (by decide +kernel), List.mem_of_getElem? (i := 317) (by decide +kernel)⟩
theorem lw_p19 : lw_okq (⟨"FuseBoards", "tryFault", "(III)I"⟩, 8) := ⟨⟨by decide +kernel, by decide +kernel⟩, List.mem_of_getElem? (i := 10) (by decide +kernel), List.mem_of_getElem? (i := 328) (by decide +kernel), List.mem_of_getElem? (i := 329) (by decide +kernel)⟩
theorem lw_p20 : lw_okq (⟨"FuseBoards$Pad", "readOrder", "()Z"⟩, 7) := ⟨⟨by decide +kernel, by decide +kernel⟩, List.mem_of_getElem? (i := 32) (by decide +kernel), List.mem_of_getElem? (i := 393) (by decide +kernel), List.mem_of_getElem? (i := 394) (by decide +kernel)⟩
theorem lw_p21 : lw_okq (⟨"FuseBoards$Pad", "codeHere", "()I"⟩, 7) := ⟨⟨by decide +kernel, by decide +kernel⟩, List.mem_of_getElem? (i := 32) (by decide +kernel), List.mem_of_getElem? (i := 397) (by decide +kernel), List.mem_of_getElem? (i := 398) (by decide +kernel)⟩
theorem lw_p22 : lw_okq (⟨"FuseBoards$Pad", "skip", "(I)Z"⟩, 7) := ⟨⟨by decide +kernel, by decide +kernel⟩, List.mem_of_getElem? (i := 32) (by decide +kernel), List.mem_of_getElem? (i := 401) (by decide +kernel), List.mem_of_getElem? (i := 402) (by decide +kernel)⟩
theorem lw_p23 : lw_okq (⟨"FuseBoards$Pad", "readDigit", "()Z"⟩, 7) := ⟨⟨by decide +kernel, by decide +kernel⟩, List.mem_of_getElem? (i := 32) (by decide +kernel), List.mem_of_getElem? (i := 405) (by decide +kernel), List.mem_of_getElem? (i := 406) (by decide +kernel)⟩
theorem lw_p24 : lw_okq (⟨"FuseBoards$Pad", "isDigitHere", "()Z"⟩, 7) := ⟨⟨by decide +kernel, by decide +kernel⟩, List.mem_of_getElem? (i := 32) (by decide +kernel), List.mem_of_getElem? (i := 409) (by decide +kernel), List.mem_of_getElem? (i := 410) (by decide +kernel)⟩
theorem lw_p25 : lw_okq (⟨"FuseBoards$Pad", "readNumber", "()Z"⟩, 7) := ⟨⟨by decide +kernel, by decide +kernel⟩, List.mem_of_getElem? (i := 32) (by decide +kernel), List.mem_of_getElem? (i := 413) (by decide +kernel), List.mem_of_getElem? (i := 414) (by decide +kernel)⟩
theorem lw_p26 : lw_okq (⟨"FuseBoards$Pad", "readKind", "()Z"⟩, 7) := ⟨⟨by decide +kernel, by decide +kernel⟩, List.mem_of_getElem? (i := 32) (by decide +kernel), List.mem_of_getElem? (i := 417) (by decide +kernel), List.mem_of_getElem? (i := 418) (by decide +kernel)⟩
theorem lw_p27 : lw_okq (⟨"FuseBoards", "obeyOrder", "()I"⟩, 8) := ⟨⟨by decide +kernel, by decide +kernel⟩, List.mem_of_getElem? (i := 10) (by decide +kernel), List.mem_of_getElem? (i := 430) (by decide +kernel), List.mem_of_getElem? (i := 431) (by decide +kernel)⟩
theorem lw_p28 : lw_okq (⟨"FuseBoardsModel", "changes", "()V"⟩, 14) := ⟨⟨by decide +kernel, by decide +kernel⟩, List.mem_of_getElem? (i := 470) (by decide +kernel), List.mem_of_getElem? (i := 531) (by decide +kernel), List.mem_of_getElem? (i := 532) (by decide +kernel)⟩
theorem lw_p29 : lw_okq (⟨"FuseBoardsModel", "copies", "(II)V"⟩, 14) := ⟨⟨by decide +kernel, by decide +kernel⟩, List.mem_of_getElem? (i := 470) (by decide +kernel), List.mem_of_getElem? (i := 535) (by decide +kernel), List.mem_of_getElem? (i := 536) (by decide +kernel)⟩
theorem lw_p30 : lw_okq (⟨"FuseBoardsModel", "boardError", "(III)I"⟩, 14) := ⟨⟨by decide +kernel, by decide +kernel⟩, List.mem_of_getElem? (i := 470) (by decide +kernel), List.mem_of_getElem? (i := 543) (by decide +kernel), List.mem_of_getElem? (i := 544) (by decide +kernel)⟩
theorem lw_p31 : lw_okq (⟨"FuseBoardsModel", "isBoard", "(I)Z"⟩, 14) := ⟨⟨by decide +kernel, by decide +kernel⟩, List.mem_of_getElem? (i := 470) (by decide +kernel), List.mem_of_getElem? (i := 547) (by decide +kernel), List.mem_of_getElem? (i := 548) (by decide +kernel)⟩
def lw_privs_2 : List (MethodName × Nat) := [(⟨"FuseBoards$House", "allBoards", "()I"⟩, 2), (⟨"FuseBoards$House", "burningBoards", "()I"⟩, 2), (⟨"FuseBoards", "firstBlow", "(I)I"⟩, 8), (⟨"FuseBoards", "tryFault", "(III)I"⟩, 8), (⟨"FuseBoards$Pad", "readOrder", "()Z"⟩, 7), (⟨"FuseBoards$Pad", "codeHere", "()I"⟩, 7), (⟨"FuseBoards$Pad", "skip", "(I)Z"⟩, 7), (⟨"FuseBoards$Pad", "readDigit", "()Z"⟩, 7), (⟨"FuseBoards$Pad", "isDigitHere", "()Z"⟩, 7), (⟨"FuseBoards$Pad", "readNumber", "()Z"⟩, 7), (⟨"FuseBoards$Pad", "readKind", "()Z"⟩, 7), (⟨"FuseBoards", "obeyOrder", "()I"⟩, 8), (⟨"FuseBoardsModel", "changes", "()V"⟩, 14), (⟨"FuseBoardsModel", "copies", "(II)V"⟩, 14), (⟨"FuseBoardsModel", "boardError", "(III)I"⟩, 14), (⟨"FuseBoardsModel", "isBoard", "(I)Z"⟩, 14)]
theorem lw_r2 : ∀ q ∈ lw_privs_2, lw_okq q := List.forall_mem_cons.mpr ⟨lw_p16, List.forall_mem_cons.mpr ⟨lw_p17, List.forall_mem_cons.mpr ⟨lw_p18, List.forall_mem_cons.mpr ⟨lw_p19, List.forall_mem_cons.mpr ⟨lw_p20, List.forall_mem_cons.mpr ⟨lw_p21, List.forall_mem_cons.mpr ⟨lw_p22, List.forall_mem_cons.mpr ⟨lw_p23, List.forall_mem_cons.mpr ⟨lw_p24, List.forall_mem_cons.mpr ⟨lw_p25, List.forall_mem_cons.mpr ⟨lw_p26, List.forall_mem_cons.mpr ⟨lw_p27, List.forall_mem_cons.mpr ⟨lw_p28, List.forall_mem_cons.mpr ⟨lw_p29, List.forall_mem_cons.mpr ⟨lw_p30, List.forall_mem_cons.mpr ⟨lw_p31, fun _ h => absurd h List.not_mem_nil⟩⟩⟩⟩⟩⟩⟩⟩⟩⟩⟩⟩⟩⟩⟩⟩
theorem lw_p32 : lw_okq (⟨"FuseBoardsModel", "builds", "(III)I"⟩, 14) := ⟨⟨by decide +kernel, by decide +kernel⟩, List.mem_of_getElem? (i := 470) (by decide +kernel), List.mem_of_getElem? (i := 556) (by decide +kernel), List.mem_of_getElem? (i := 557) (by decide +kernel)⟩
theorem lw_p33 : lw_okq (⟨"FuseBoardsModel", "puts", "(III)V"⟩, 14) := ⟨⟨by decide +kernel, by decide +kernel⟩, List.mem_of_getElem? (i := 470) (by decide +kernel), List.mem_of_getElem? (i := 563) (by decide +kernel), List.mem_of_getElem? (i := 564) (by decide +kernel)⟩
theorem lw_p34 : lw_okq (⟨"FuseBoardsModel", "loadError", "(II)I"⟩, 14) := ⟨⟨by decide +kernel, by decide +kernel⟩, List.mem_of_getElem? (i := 470) (by decide +kernel), List.mem_of_getElem? (i := 571) (by decide +kernel), List.mem_of_getElem? (i := 572) (by decide +kernel)⟩
theorem lw_p35 : lw_okq (⟨"FuseBoardsModel", "connects", "(II)I"⟩, 14) := ⟨⟨by decide +kernel, by decide +kernel⟩, List.mem_of_getElem? (i := 470) (by decide +kernel), List.mem_of_getElem? (i := 576) (by decide +kernel), List.mem_of_getElem? (i := 577) (by decide +kernel)⟩
theorem lw_p36 : lw_okq (⟨"FuseBoardsModel", "turnError", "(I)I"⟩, 14) := ⟨⟨by decide +kernel, by decide +kernel⟩, List.mem_of_getElem? (i := 470) (by decide +kernel), List.mem_of_getElem? (i := 587) (by decide +kernel), List.mem_of_getElem? (i := 588) (by decide +kernel)⟩
theorem lw_p37 : lw_okq (⟨"FuseBoardsModel", "isLoad", "(I)Z"⟩, 14) := ⟨⟨by decide +kernel, by decide +kernel⟩, List.mem_of_getElem? (i := 470) (by decide +kernel), List.mem_of_getElem? (i := 591) (by decide +kernel), List.mem_of_getElem? (i := 592) (by decide +kernel)⟩
theorem lw_p38 : lw_okq (⟨"FuseBoardsModel", "turns", "(I)I"⟩, 14) := ⟨⟨by decide +kernel, by decide +kernel⟩, List.mem_of_getElem? (i := 470) (by decide +kernel), List.mem_of_getElem? (i := 595) (by decide +kernel), List.mem_of_getElem? (i := 596) (by decide +kernel)⟩
theorem lw_p39 : lw_okq (⟨"FuseBoardsModel", "fuseError", "(III)I"⟩, 14) := ⟨⟨by decide +kernel, by decide +kernel⟩, List.mem_of_getElem? (i := 470) (by decide +kernel), List.mem_of_getElem? (i := 603) (by decide +kernel), List.mem_of_getElem? (i := 604) (by decide +kernel)⟩
theorem lw_p40 : lw_okq (⟨"FuseBoardsModel", "fuses", "(III)I"⟩, 14) := ⟨⟨by decide +kernel, by decide +kernel⟩, List.mem_of_getElem? (i := 470) (by decide +kernel), List.mem_of_getElem? (i := 607) (by decide +kernel), List.mem_of_getElem? (i := 608) (by decide +kernel)⟩
theorem lw_p41 : lw_okq (⟨"FuseBoardsModel", "passError", "(I)I"⟩, 14) := ⟨⟨by decide +kernel, by decide +kernel⟩, List.mem_of_getElem? (i := 470) (by decide +kernel), List.mem_of_getElem? (i := 615) (by decide +kernel), List.mem_of_getElem? (i := 616) (by decide +kernel)⟩
theorem lw_p42 : lw_okq (⟨"FuseBoardsModel", "ticks", "(II)I"⟩, 14) := ⟨⟨by decide +kernel, by decide +kernel⟩, List.mem_of_getElem? (i := 470) (by decide +kernel), List.mem_of_getElem? (i := 620) (by decide +kernel), List.mem_of_getElem? (i := 621) (by decide +kernel)⟩
theorem lw_p43 : lw_okq (⟨"FuseBoardsModel", "tick", "(I)I"⟩, 14) := ⟨⟨by decide +kernel, by decide +kernel⟩, List.mem_of_getElem? (i := 470) (by decide +kernel), List.mem_of_getElem? (i := 624) (by decide +kernel), List.mem_of_getElem? (i := 625) (by decide +kernel)⟩
theorem lw_p44 : lw_okq (⟨"FuseBoardsModel", "current", "(II)I"⟩, 14) := ⟨⟨by decide +kernel, by decide +kernel⟩, List.mem_of_getElem? (i := 470) (by decide +kernel), List.mem_of_getElem? (i := 628) (by decide +kernel), List.mem_of_getElem? (i := 629) (by decide +kernel)⟩
theorem lw_p45 : lw_okq (⟨"FuseBoardsModel", "isFed", "(III)Z"⟩, 14) := ⟨⟨by decide +kernel, by decide +kernel⟩, List.mem_of_getElem? (i := 470) (by decide +kernel), List.mem_of_getElem? (i := 632) (by decide +kernel), List.mem_of_getElem? (i := 633) (by decide +kernel)⟩
theorem lw_p46 : lw_okq (⟨"FuseBoardsModel", "isDead", "(II)Z"⟩, 14) := ⟨⟨by decide +kernel, by decide +kernel⟩, List.mem_of_getElem? (i := 470) (by decide +kernel), List.mem_of_getElem? (i := 636) (by decide +kernel), List.mem_of_getElem? (i := 637) (by decide +kernel)⟩
theorem lw_p47 : lw_okq (⟨"FuseBoardsModel", "burns", "(II)V"⟩, 14) := ⟨⟨by decide +kernel, by decide +kernel⟩, List.mem_of_getElem? (i := 470) (by decide +kernel), List.mem_of_getElem? (i := 640) (by decide +kernel), List.mem_of_getElem? (i := 641) (by decide +kernel)⟩
def lw_privs_3 : List (MethodName × Nat) := [(⟨"FuseBoardsModel", "builds", "(III)I"⟩, 14), (⟨"FuseBoardsModel", "puts", "(III)V"⟩, 14), (⟨"FuseBoardsModel", "loadError", "(II)I"⟩, 14), (⟨"FuseBoardsModel", "connects", "(II)I"⟩, 14), (⟨"FuseBoardsModel", "turnError", "(I)I"⟩, 14), (⟨"FuseBoardsModel", "isLoad", "(I)Z"⟩, 14), (⟨"FuseBoardsModel", "turns", "(I)I"⟩, 14), (⟨"FuseBoardsModel", "fuseError", "(III)I"⟩, 14), (⟨"FuseBoardsModel", "fuses", "(III)I"⟩, 14), (⟨"FuseBoardsModel", "passError", "(I)I"⟩, 14), (⟨"FuseBoardsModel", "ticks", "(II)I"⟩, 14), (⟨"FuseBoardsModel", "tick", "(I)I"⟩, 14), (⟨"FuseBoardsModel", "current", "(II)I"⟩, 14), (⟨"FuseBoardsModel", "isFed", "(III)Z"⟩, 14), (⟨"FuseBoardsModel", "isDead", "(II)Z"⟩, 14), (⟨"FuseBoardsModel", "burns", "(II)V"⟩, 14)]
theorem lw_r3 : ∀ q ∈ lw_privs_3, lw_okq q := List.forall_mem_cons.mpr ⟨lw_p32, List.forall_mem_cons.mpr ⟨lw_p33, List.forall_mem_cons.mpr ⟨lw_p34, List.forall_mem_cons.mpr ⟨lw_p35, List.forall_mem_cons.mpr ⟨lw_p36, List.forall_mem_cons.mpr ⟨lw_p37, List.forall_mem_cons.mpr ⟨lw_p38, List.forall_mem_cons.mpr ⟨lw_p39, List.forall_mem_cons.mpr ⟨lw_p40, List.forall_mem_cons.mpr ⟨lw_p41, List.forall_mem_cons.mpr ⟨lw_p42, List.forall_mem_cons.mpr ⟨lw_p43, List.forall_mem_cons.mpr ⟨lw_p44, List.forall_mem_cons.mpr ⟨lw_p45, List.forall_mem_cons.mpr ⟨lw_p46, List.forall_mem_cons.mpr ⟨lw_p47, fun _ h => absurd h List.not_mem_nil⟩⟩⟩⟩⟩⟩⟩⟩⟩⟩⟩⟩⟩⟩⟩⟩
theorem lw_p48 : lw_okq (⟨"FuseBoardsModel", "heats", "(II)V"⟩, 14) := ⟨⟨by decide +kernel, by decide +kernel⟩, List.mem_of_getElem? (i := 470) (by decide +kernel), List.mem_of_getElem? (i := 644) (by decide +kernel), List.mem_of_getElem? (i := 645) (by decide +kernel)⟩
theorem lw_p49 : lw_okq (⟨"FuseBoardsModel", "meltingHeat", "(II)I"⟩, 14) := ⟨⟨by decide +kernel, by decide +kernel⟩, List.mem_of_getElem? (i := 470) (by decide +kernel), List.mem_of_getElem? (i := 649) (by decide +kernel), List.mem_of_getElem? (i := 650) (by decide +kernel)⟩
theorem lw_p50 : lw_okq (⟨"FuseBoardsModel", "isNearest", "(II)Z"⟩, 14) := ⟨⟨by decide +kernel, by decide +kernel⟩, List.mem_of_getElem? (i := 470) (by decide +kernel), List.mem_of_getElem? (i := 653) (by decide +kernel), List.mem_of_getElem? (i := 654) (by decide +kernel)⟩
theorem lw_p51 : lw_okq (⟨"FuseBoardsModel", "blows", "(II)V"⟩, 14) := ⟨⟨by decide +kernel, by decide +kernel⟩, List.mem_of_getElem? (i := 470) (by decide +kernel), List.mem_of_getElem? (i := 657) (by decide +kernel), List.mem_of_getElem? (i := 658) (by decide +kernel)⟩
theorem lw_p52 : lw_okq (⟨"FuseBoardsModel", "depth", "(I)I"⟩, 14) := ⟨⟨by decide +kernel, by decide +kernel⟩, List.mem_of_getElem? (i := 470) (by decide +kernel), List.mem_of_getElem? (i := 671) (by decide +kernel), List.mem_of_getElem? (i := 672) (by decide +kernel)⟩
theorem lw_p53 : lw_okq (⟨"FuseBoardsModel", "works", "(I)Z"⟩, 14) := ⟨⟨by decide +kernel, by decide +kernel⟩, List.mem_of_getElem? (i := 470) (by decide +kernel), List.mem_of_getElem? (i := 679) (by decide +kernel), List.mem_of_getElem? (i := 680) (by decide +kernel)⟩
theorem lw_p54 : lw_okq (⟨"FuseBoardsModel", "boards", "(I)I"⟩, 14) := ⟨⟨by decide +kernel, by decide +kernel⟩, List.mem_of_getElem? (i := 470) (by decide +kernel), List.mem_of_getElem? (i := 695) (by decide +kernel), List.mem_of_getElem? (i := 696) (by decide +kernel)⟩
theorem lw_p55 : lw_okq (⟨"FuseBoardsModel", "working", "()I"⟩, 14) := ⟨⟨by decide +kernel, by decide +kernel⟩, List.mem_of_getElem? (i := 470) (by decide +kernel), List.mem_of_getElem? (i := 699) (by decide +kernel), List.mem_of_getElem? (i := 700) (by decide +kernel)⟩
theorem lw_p56 : lw_okq (⟨"FuseBoardsModel", "first", "(I)I"⟩, 14) := ⟨⟨by decide +kernel, by decide +kernel⟩, List.mem_of_getElem? (i := 470) (by decide +kernel), List.mem_of_getElem? (i := 707) (by decide +kernel), List.mem_of_getElem? (i := 708) (by decide +kernel)⟩
theorem lw_p57 : lw_okq (⟨"FuseBoardsModel", "tests", "(III)I"⟩, 14) := ⟨⟨by decide +kernel, by decide +kernel⟩, List.mem_of_getElem? (i := 470) (by decide +kernel), List.mem_of_getElem? (i := 719) (by decide +kernel), List.mem_of_getElem? (i := 720) (by decide +kernel)⟩
theorem lw_p58 : lw_okq (⟨"FuseBoardsModel", "readsOrder", "()Z"⟩, 14) := ⟨⟨by decide +kernel, by decide +kernel⟩, List.mem_of_getElem? (i := 470) (by decide +kernel), List.mem_of_getElem? (i := 750) (by decide +kernel), List.mem_of_getElem? (i := 751) (by decide +kernel)⟩
theorem lw_p59 : lw_okq (⟨"FuseBoardsModel", "readsFuse", "()Z"⟩, 14) := ⟨⟨by decide +kernel, by decide +kernel⟩, List.mem_of_getElem? (i := 470) (by decide +kernel), List.mem_of_getElem? (i := 754) (by decide +kernel), List.mem_of_getElem? (i := 755) (by decide +kernel)⟩
theorem lw_p60 : lw_okq (⟨"FuseBoardsModel", "digit", "()I"⟩, 14) := ⟨⟨by decide +kernel, by decide +kernel⟩, List.mem_of_getElem? (i := 470) (by decide +kernel), List.mem_of_getElem? (i := 758) (by decide +kernel), List.mem_of_getElem? (i := 759) (by decide +kernel)⟩
theorem lw_p61 : lw_okq (⟨"FuseBoardsModel", "isHere", "(II)Z"⟩, 14) := ⟨⟨by decide +kernel, by decide +kernel⟩, List.mem_of_getElem? (i := 470) (by decide +kernel), List.mem_of_getElem? (i := 762) (by decide +kernel), List.mem_of_getElem? (i := 763) (by decide +kernel)⟩
theorem lw_p62 : lw_okq (⟨"FuseBoardsModel", "takes", "(I)Z"⟩, 14) := ⟨⟨by decide +kernel, by decide +kernel⟩, List.mem_of_getElem? (i := 470) (by decide +kernel), List.mem_of_getElem? (i := 766) (by decide +kernel), List.mem_of_getElem? (i := 767) (by decide +kernel)⟩
theorem lw_p63 : lw_okq (⟨"FuseBoardsModel", "number", "()I"⟩, 14) := ⟨⟨by decide +kernel, by decide +kernel⟩, List.mem_of_getElem? (i := 470) (by decide +kernel), List.mem_of_getElem? (i := 770) (by decide +kernel), List.mem_of_getElem? (i := 771) (by decide +kernel)⟩
def lw_privs_4 : List (MethodName × Nat) := [(⟨"FuseBoardsModel", "heats", "(II)V"⟩, 14), (⟨"FuseBoardsModel", "meltingHeat", "(II)I"⟩, 14), (⟨"FuseBoardsModel", "isNearest", "(II)Z"⟩, 14), (⟨"FuseBoardsModel", "blows", "(II)V"⟩, 14), (⟨"FuseBoardsModel", "depth", "(I)I"⟩, 14), (⟨"FuseBoardsModel", "works", "(I)Z"⟩, 14), (⟨"FuseBoardsModel", "boards", "(I)I"⟩, 14), (⟨"FuseBoardsModel", "working", "()I"⟩, 14), (⟨"FuseBoardsModel", "first", "(I)I"⟩, 14), (⟨"FuseBoardsModel", "tests", "(III)I"⟩, 14), (⟨"FuseBoardsModel", "readsOrder", "()Z"⟩, 14), (⟨"FuseBoardsModel", "readsFuse", "()Z"⟩, 14), (⟨"FuseBoardsModel", "digit", "()I"⟩, 14), (⟨"FuseBoardsModel", "isHere", "(II)Z"⟩, 14), (⟨"FuseBoardsModel", "takes", "(I)Z"⟩, 14), (⟨"FuseBoardsModel", "number", "()I"⟩, 14)]
theorem lw_r4 : ∀ q ∈ lw_privs_4, lw_okq q := List.forall_mem_cons.mpr ⟨lw_p48, List.forall_mem_cons.mpr ⟨lw_p49, List.forall_mem_cons.mpr ⟨lw_p50, List.forall_mem_cons.mpr ⟨lw_p51, List.forall_mem_cons.mpr ⟨lw_p52, List.forall_mem_cons.mpr ⟨lw_p53, List.forall_mem_cons.mpr ⟨lw_p54, List.forall_mem_cons.mpr ⟨lw_p55, List.forall_mem_cons.mpr ⟨lw_p56, List.forall_mem_cons.mpr ⟨lw_p57, List.forall_mem_cons.mpr ⟨lw_p58, List.forall_mem_cons.mpr ⟨lw_p59, List.forall_mem_cons.mpr ⟨lw_p60, List.forall_mem_cons.mpr ⟨lw_p61, List.forall_mem_cons.mpr ⟨lw_p62, List.forall_mem_cons.mpr ⟨lw_p63, fun _ h => absurd h List.not_mem_nil⟩⟩⟩⟩⟩⟩⟩⟩⟩⟩⟩⟩⟩⟩⟩⟩
theorem lw_p64 : lw_okq (⟨"FuseBoardsModel", "readsKind", "()Z"⟩, 14) := ⟨⟨by decide +kernel, by decide +kernel⟩, List.mem_of_getElem? (i := 470) (by decide +kernel), List.mem_of_getElem? (i := 774) (by decide +kernel), List.mem_of_getElem? (i := 775) (by decide +kernel)⟩
theorem lw_p65 : lw_okq (⟨"FuseBoardsModel", "readsLoad", "()Z"⟩, 14) := ⟨⟨by decide +kernel, by decide +kernel⟩, List.mem_of_getElem? (i := 470) (by decide +kernel), List.mem_of_getElem? (i := 778) (by decide +kernel), List.mem_of_getElem? (i := 779) (by decide +kernel)⟩
theorem lw_p66 : lw_okq (⟨"FuseBoardsModel", "orderError", "()I"⟩, 14) := ⟨⟨by decide +kernel, by decide +kernel⟩, List.mem_of_getElem? (i := 470) (by decide +kernel), List.mem_of_getElem? (i := 787) (by decide +kernel), List.mem_of_getElem? (i := 788) (by decide +kernel)⟩
theorem lw_p67 : lw_okq (⟨"FuseBoardsModel", "does", "()I"⟩, 14) := ⟨⟨by decide +kernel, by decide +kernel⟩, List.mem_of_getElem? (i := 470) (by decide +kernel), List.mem_of_getElem? (i := 791) (by decide +kernel), List.mem_of_getElem? (i := 792) (by decide +kernel)⟩
def lw_privs_5 : List (MethodName × Nat) := [(⟨"FuseBoardsModel", "readsKind", "()Z"⟩, 14), (⟨"FuseBoardsModel", "readsLoad", "()Z"⟩, 14), (⟨"FuseBoardsModel", "orderError", "()I"⟩, 14), (⟨"FuseBoardsModel", "does", "()I"⟩, 14)]
theorem lw_r5 : ∀ q ∈ lw_privs_5, lw_okq q := List.forall_mem_cons.mpr ⟨lw_p64, List.forall_mem_cons.mpr ⟨lw_p65, List.forall_mem_cons.mpr ⟨lw_p66, List.forall_mem_cons.mpr ⟨lw_p67, fun _ h => absurd h List.not_mem_nil⟩⟩⟩⟩
def lw_privs : List (MethodName × Nat) := lw_privs_1 ++ (lw_privs_2 ++ (lw_privs_3 ++ (lw_privs_4 ++ (lw_privs_5))))
def lw_tbl : List Cond := k2_sels lw_privs ++ tables_1
theorem lw_privs_ok : ∀ q ∈ lw_privs, lw_okq q := by
  show ∀ q ∈ lw_privs_1 ++ (lw_privs_2 ++ (lw_privs_3 ++ (lw_privs_4 ++ (lw_privs_5)))), lw_okq q
  exact List.forall_mem_append.mpr ⟨lw_r1, List.forall_mem_append.mpr ⟨lw_r2, List.forall_mem_append.mpr ⟨lw_r3, List.forall_mem_append.mpr ⟨lw_r4, lw_r5⟩⟩⟩⟩
-- ===== end of PART A; then your names; then what follows =====
end
section
def RX0 : String := "FuseBoards$House"
def TX0 : u_T := fun k => match k with
  | 0 => ("FuseBoards$House", "row", "[I", true)
  | _ => ("FuseBoards$House", "flow", "[I", true)
def tyX0 : Nat → FieldType := fun k => match k with
  | 0 => .array .int
  | _ => .array .int
abbrev wsX00 : List Cond := u_ws RX0 TX0 2
theorem nmX0 : ∀ a, a < 2 → ∀ b, b < 2 → a ≠ b → (TX0 a).2.1 ≠ (TX0 b).2.1 := by decide +kernel
theorem tyX0_ok : ∀ k, k < 2 → parseFieldDescriptor (TX0 k).2.2.1 = some (tyX0 k) := by decide +kernel
abbrev cX0_init : ByteArray := prog_2_method_1_code
def yX0_init : MethodName := ⟨RX0, "<init>", "()V"⟩
abbrev cX0_copyFrom : ByteArray := prog_2_method_2_code
def yX0_copyFrom : MethodName := ⟨RX0, "copyFrom", "(LFuseBoards$House;)V"⟩
abbrev cX0_readFrom : ByteArray := prog_2_method_3_code
def yX0_readFrom : MethodName := ⟨RX0, "readFrom", "([I)V"⟩
abbrev cX0_writeTo : ByteArray := prog_2_method_4_code
def yX0_writeTo : MethodName := ⟨RX0, "writeTo", "([I)V"⟩
abbrev cX0_boards : ByteArray := prog_2_method_5_code
def yX0_boards : MethodName := ⟨RX0, "boards", "()I"⟩
abbrev cX0_isBoard : ByteArray := prog_2_method_6_code
def yX0_isBoard : MethodName := ⟨RX0, "isBoard", "(I)Z"⟩
abbrev cX0_isLoad : ByteArray := prog_2_method_7_code
def yX0_isLoad : MethodName := ⟨RX0, "isLoad", "(I)Z"⟩
abbrev cX0_rating : ByteArray := prog_2_method_8_code
def yX0_rating : MethodName := ⟨RX0, "rating", "(I)I"⟩
abbrev cX0_changeSetting : ByteArray := prog_2_method_9_code
def yX0_changeSetting : MethodName := ⟨RX0, "changeSetting", "(II)I"⟩
abbrev cX0_addBoard : ByteArray := prog_2_method_10_code
def yX0_addBoard : MethodName := ⟨RX0, "addBoard", "(III)I"⟩
abbrev cX0_addLoad : ByteArray := prog_2_method_11_code
def yX0_addLoad : MethodName := ⟨RX0, "addLoad", "(II)I"⟩
abbrev cX0_switchLoad : ByteArray := prog_2_method_12_code
def yX0_switchLoad : MethodName := ⟨RX0, "switchLoad", "(I)I"⟩
abbrev cX0_changeFuse : ByteArray := prog_2_method_13_code
def yX0_changeFuse : MethodName := ⟨RX0, "changeFuse", "(III)I"⟩
abbrev cX0_letPass : ByteArray := prog_2_method_14_code
def yX0_letPass : MethodName := ⟨RX0, "letPass", "(I)I"⟩
abbrev cX0_leaveOnlyFault : ByteArray := prog_2_method_15_code
def yX0_leaveOnlyFault : MethodName := ⟨RX0, "leaveOnlyFault", "(II)V"⟩
abbrev cX0_isFuse : ByteArray := prog_2_method_16_code
def yX0_isFuse : MethodName := ⟨RX0, "isFuse", "(II)Z"⟩
abbrev cX0_putNewFuse : ByteArray := prog_2_method_17_code
def yX0_putNewFuse : MethodName := ⟨RX0, "putNewFuse", "(III)V"⟩
abbrev cX0_tick : ByteArray := prog_2_method_18_code
def yX0_tick : MethodName := ⟨RX0, "tick", "()I"⟩
abbrev cX0_addUpCurrents : ByteArray := prog_2_method_19_code
def yX0_addUpCurrents : MethodName := ⟨RX0, "addUpCurrents", "()V"⟩
abbrev cX0_addFlow : ByteArray := prog_2_method_20_code
def yX0_addFlow : MethodName := ⟨RX0, "addFlow", "(II)V"⟩
abbrev cX0_burnArcs : ByteArray := prog_2_method_21_code
def yX0_burnArcs : MethodName := ⟨RX0, "burnArcs", "()V"⟩
abbrev cX0_warm : ByteArray := prog_2_method_22_code
def yX0_warm : MethodName := ⟨RX0, "warm", "(II)V"⟩
abbrev cX0_creep : ByteArray := prog_2_method_23_code
def yX0_creep : MethodName := ⟨RX0, "creep", "(I)V"⟩
abbrev cX0_molten : ByteArray := prog_2_method_24_code
def yX0_molten : MethodName := ⟨RX0, "molten", "()I"⟩
abbrev cX0_nearestOf : ByteArray := prog_2_method_25_code
def yX0_nearestOf : MethodName := ⟨RX0, "nearestOf", "(I)I"⟩
abbrev cX0_blow : ByteArray := prog_2_method_26_code
def yX0_blow : MethodName := ⟨RX0, "blow", "(I)V"⟩
abbrev cX0_aboutBoard : ByteArray := prog_2_method_27_code
def yX0_aboutBoard : MethodName := ⟨RX0, "aboutBoard", "(II)I"⟩
abbrev cX0_aboutLoad : ByteArray := prog_2_method_28_code
def yX0_aboutLoad : MethodName := ⟨RX0, "aboutLoad", "(II)I"⟩
abbrev cX0_aboutHouse : ByteArray := prog_2_method_29_code
def yX0_aboutHouse : MethodName := ⟨RX0, "aboutHouse", "(I)I"⟩
abbrev cX0_latestBlown : ByteArray := prog_2_method_30_code
def yX0_latestBlown : MethodName := ⟨RX0, "latestBlown", "(I)I"⟩
abbrev cX0_fedThrough : ByteArray := prog_2_method_31_code
def yX0_fedThrough : MethodName := ⟨RX0, "fedThrough", "(I)I"⟩
abbrev cX0_workingLoadsAt : ByteArray := prog_2_method_32_code
def yX0_workingLoadsAt : MethodName := ⟨RX0, "workingLoadsAt", "(I)I"⟩
abbrev cX0_allBoards : ByteArray := prog_2_method_33_code
def yX0_allBoards : MethodName := ⟨RX0, "allBoards", "()I"⟩
abbrev cX0_deadBoards : ByteArray := prog_2_method_34_code
def yX0_deadBoards : MethodName := ⟨RX0, "deadBoards", "()I"⟩
abbrev cX0_burningBoards : ByteArray := prog_2_method_35_code
def yX0_burningBoards : MethodName := ⟨RX0, "burningBoards", "()I"⟩
abbrev cX0_state : ByteArray := prog_2_method_36_code
def yX0_state : MethodName := ⟨RX0, "state", "(I)I"⟩
abbrev cX0_current : ByteArray := prog_2_method_37_code
def yX0_current : MethodName := ⟨RX0, "current", "(I)I"⟩
abbrev cX0_meltingHeat : ByteArray := prog_2_method_38_code
def yX0_meltingHeat : MethodName := ⟨RX0, "meltingHeat", "(I)I"⟩
abbrev cX0_heatFactor : ByteArray := prog_2_method_39_code
def yX0_heatFactor : MethodName := ⟨RX0, "heatFactor", "(I)I"⟩
abbrev cX0_boardsAhead : ByteArray := prog_2_method_40_code
def yX0_boardsAhead : MethodName := ⟨RX0, "boardsAhead", "(I)I"⟩
def RX1 : String := "FuseBoards$Pad"
def TX1 : u_T := fun k => match k with
  | 0 => ("FuseBoards$Pad", "codes", "[I", true)
  | 1 => ("FuseBoards$Pad", "length", "I", false)
  | 2 => ("FuseBoards$Pad", "at", "I", false)
  | 3 => ("FuseBoards$Pad", "letter", "I", false)
  | 4 => ("FuseBoards$Pad", "digit", "I", false)
  | 5 => ("FuseBoards$Pad", "number", "I", false)
  | _ => ("FuseBoards$Pad", "kind", "I", false)
def tyX1 : Nat → FieldType := fun k => match k with
  | 0 => .array .int
  | 1 => .int
  | 2 => .int
  | 3 => .int
  | 4 => .int
  | 5 => .int
  | _ => .int
abbrev wsX10 : List Cond := u_ws RX1 TX1 7
theorem nmX1 : ∀ a, a < 7 → ∀ b, b < 7 → a ≠ b → (TX1 a).2.1 ≠ (TX1 b).2.1 := by decide +kernel
theorem tyX1_ok : ∀ k, k < 7 → parseFieldDescriptor (TX1 k).2.2.1 = some (tyX1 k) := by decide +kernel
abbrev cX1_init : ByteArray := prog_3_method_1_code
def yX1_init : MethodName := ⟨RX1, "<init>", "()V"⟩
abbrev cX1_length : ByteArray := prog_3_method_2_code
def yX1_length : MethodName := ⟨RX1, "length", "()I"⟩
abbrev cX1_letter : ByteArray := prog_3_method_3_code
def yX1_letter : MethodName := ⟨RX1, "letter", "()I"⟩
abbrev cX1_digit : ByteArray := prog_3_method_4_code
def yX1_digit : MethodName := ⟨RX1, "digit", "()I"⟩
abbrev cX1_number : ByteArray := prog_3_method_5_code
def yX1_number : MethodName := ⟨RX1, "number", "()I"⟩
abbrev cX1_kind : ByteArray := prog_3_method_6_code
def yX1_kind : MethodName := ⟨RX1, "kind", "()I"⟩
abbrev cX1_append : ByteArray := prog_3_method_7_code
def yX1_append : MethodName := ⟨RX1, "append", "(J)I"⟩
abbrev cX1_clear : ByteArray := prog_3_method_8_code
def yX1_clear : MethodName := ⟨RX1, "clear", "()I"⟩
abbrev cX1_findFault : ByteArray := prog_3_method_9_code
def yX1_findFault : MethodName := ⟨RX1, "findFault", "()I"⟩
abbrev cX1_readFirstOrder : ByteArray := prog_3_method_10_code
def yX1_readFirstOrder : MethodName := ⟨RX1, "readFirstOrder", "()Z"⟩
abbrev cX1_readNextOrder : ByteArray := prog_3_method_11_code
def yX1_readNextOrder : MethodName := ⟨RX1, "readNextOrder", "()Z"⟩
abbrev cX1_countCharacters : ByteArray := prog_3_method_12_code
def yX1_countCharacters : MethodName := ⟨RX1, "countCharacters", "(J)I"⟩
abbrev cX1_codeIn : ByteArray := prog_3_method_13_code
def yX1_codeIn : MethodName := ⟨RX1, "codeIn", "(JI)I"⟩
abbrev cX1_readOrder : ByteArray := prog_3_method_14_code
def yX1_readOrder : MethodName := ⟨RX1, "readOrder", "()Z"⟩
abbrev cX1_readDigit : ByteArray := prog_3_method_15_code
def yX1_readDigit : MethodName := ⟨RX1, "readDigit", "()Z"⟩
abbrev cX1_readNumber : ByteArray := prog_3_method_16_code
def yX1_readNumber : MethodName := ⟨RX1, "readNumber", "()Z"⟩
abbrev cX1_readKind : ByteArray := prog_3_method_17_code
def yX1_readKind : MethodName := ⟨RX1, "readKind", "()Z"⟩
abbrev cX1_skip : ByteArray := prog_3_method_18_code
def yX1_skip : MethodName := ⟨RX1, "skip", "(I)Z"⟩
abbrev cX1_isDigitHere : ByteArray := prog_3_method_19_code
def yX1_isDigitHere : MethodName := ⟨RX1, "isDigitHere", "()Z"⟩
abbrev cX1_codeHere : ByteArray := prog_3_method_20_code
def yX1_codeHere : MethodName := ⟨RX1, "codeHere", "()I"⟩
def RX2 : String := "FuseBoards"
def TX2 : u_T := fun k => match k with
  | 0 => ("FuseBoards", "now", "LFuseBoards$House;", true)
  | 1 => ("FuseBoards", "trial", "LFuseBoards$House;", true)
  | 2 => ("FuseBoards", "pad", "LFuseBoards$Pad;", true)
  | 3 => ("FuseBoards", "history", "[[I", true)
  | 4 => ("FuseBoards", "slots", "[[I", true)
  | 5 => ("FuseBoards", "saved", "[Z", true)
  | 6 => ("FuseBoards", "spare", "I", false)
  | _ => ("FuseBoards", "undoable", "I", false)
def tyX2 : Nat → FieldType := fun k => match k with
  | 0 => .object "FuseBoards$House"
  | 1 => .object "FuseBoards$House"
  | 2 => .object "FuseBoards$Pad"
  | 3 => .array (.array .int)
  | 4 => .array (.array .int)
  | 5 => .array .boolean
  | 6 => .int
  | _ => .int
abbrev wsX20 : List Cond := u_ws RX2 TX2 8
theorem nmX2 : ∀ a, a < 8 → ∀ b, b < 8 → a ≠ b → (TX2 a).2.1 ≠ (TX2 b).2.1 := by decide +kernel
theorem tyX2_ok : ∀ k, k < 8 → parseFieldDescriptor (TX2 k).2.2.1 = some (tyX2 k) := by decide +kernel
abbrev cX2_init : ByteArray := prog_1_method_1_code
def yX2_init : MethodName := ⟨RX2, "<init>", "()V"⟩
abbrev cX2_set : ByteArray := prog_1_method_2_code
def yX2_set : MethodName := ⟨RX2, "set", "(II)I"⟩
abbrev cX2_board : ByteArray := prog_1_method_3_code
def yX2_board : MethodName := ⟨RX2, "board", "(III)I"⟩
abbrev cX2_load : ByteArray := prog_1_method_4_code
def yX2_load : MethodName := ⟨RX2, "load", "(II)I"⟩
abbrev cX2_turn : ByteArray := prog_1_method_5_code
def yX2_turn : MethodName := ⟨RX2, "turn", "(I)I"⟩
abbrev cX2_fuse : ByteArray := prog_1_method_6_code
def yX2_fuse : MethodName := ⟨RX2, "fuse", "(III)I"⟩
abbrev cX2_pass : ByteArray := prog_1_method_7_code
def yX2_pass : MethodName := ⟨RX2, "pass", "(I)I"⟩
abbrev cX2_of : ByteArray := prog_1_method_8_code
def yX2_of : MethodName := ⟨RX2, "of", "(II)I"⟩
abbrev cX2_ofLoad : ByteArray := prog_1_method_9_code
def yX2_ofLoad : MethodName := ⟨RX2, "ofLoad", "(II)I"⟩
abbrev cX2_fed : ByteArray := prog_1_method_10_code
def yX2_fed : MethodName := ⟨RX2, "fed", "(I)I"⟩
abbrev cX2_blown : ByteArray := prog_1_method_11_code
def yX2_blown : MethodName := ⟨RX2, "blown", "(I)I"⟩
abbrev cX2_count : ByteArray := prog_1_method_12_code
def yX2_count : MethodName := ⟨RX2, "count", "(I)I"⟩
abbrev cX2_next : ByteArray := prog_1_method_13_code
def yX2_next : MethodName := ⟨RX2, "next", "(I)I"⟩
abbrev cX2_test : ByteArray := prog_1_method_14_code
def yX2_test : MethodName := ⟨RX2, "test", "(III)I"⟩
abbrev cX2_unfair : ByteArray := prog_1_method_15_code
def yX2_unfair : MethodName := ⟨RX2, "unfair", "(I)I"⟩
abbrev cX2_ifOpen : ByteArray := prog_1_method_16_code
def yX2_ifOpen : MethodName := ⟨RX2, "ifOpen", "(I)I"⟩
abbrev cX2_put : ByteArray := prog_1_method_17_code
def yX2_put : MethodName := ⟨RX2, "put", "(J)I"⟩
abbrev cX2_wipe : ByteArray := prog_1_method_18_code
def yX2_wipe : MethodName := ⟨RX2, "wipe", "()I"⟩
abbrev cX2_fault : ByteArray := prog_1_method_19_code
def yX2_fault : MethodName := ⟨RX2, "fault", "()I"⟩
abbrev cX2_carryOut : ByteArray := prog_1_method_20_code
def yX2_carryOut : MethodName := ⟨RX2, "carryOut", "()I"⟩
abbrev cX2_undo : ByteArray := prog_1_method_21_code
def yX2_undo : MethodName := ⟨RX2, "undo", "()I"⟩
abbrev cX2_save : ByteArray := prog_1_method_22_code
def yX2_save : MethodName := ⟨RX2, "save", "(I)I"⟩
abbrev cX2_restore : ByteArray := prog_1_method_23_code
def yX2_restore : MethodName := ⟨RX2, "restore", "(I)I"⟩
abbrev cX2_isSlot : ByteArray := prog_1_method_24_code
def yX2_isSlot : MethodName := ⟨RX2, "isSlot", "(I)Z"⟩
abbrev cX2_noteState : ByteArray := prog_1_method_25_code
def yX2_noteState : MethodName := ⟨RX2, "noteState", "()V"⟩
abbrev cX2_keepUnlessError : ByteArray := prog_1_method_26_code
def yX2_keepUnlessError : MethodName := ⟨RX2, "keepUnlessError", "(I)I"⟩
abbrev cX2_isTrialQuestion : ByteArray := prog_1_method_27_code
def yX2_isTrialQuestion : MethodName := ⟨RX2, "isTrialQuestion", "(I)Z"⟩
abbrev cX2_tryFault : ByteArray := prog_1_method_28_code
def yX2_tryFault : MethodName := ⟨RX2, "tryFault", "(III)I"⟩
abbrev cX2_firstBlow : ByteArray := prog_1_method_29_code
def yX2_firstBlow : MethodName := ⟨RX2, "firstBlow", "(I)I"⟩
abbrev cX2_lowest : ByteArray := prog_1_method_30_code
def yX2_lowest : MethodName := ⟨RX2, "lowest", "(I)I"⟩
abbrev cX2_obeyOrder : ByteArray := prog_1_method_31_code
def yX2_obeyOrder : MethodName := ⟨RX2, "obeyOrder", "()I"⟩
def RX3 : String := "FuseBoardsModel"
def TX3 : u_T := fun k => match k with
  | 0 => ("FuseBoardsModel", "s", "[I", true)
  | 1 => ("FuseBoardsModel", "states", "I", false)
  | 2 => ("FuseBoardsModel", "isSaved", "[Z", true)
  | 3 => ("FuseBoardsModel", "text", "[I", true)
  | 4 => ("FuseBoardsModel", "typed", "I", false)
  | 5 => ("FuseBoardsModel", "faultBoard", "I", false)
  | 6 => ("FuseBoardsModel", "faultCurrent", "I", false)
  | 7 => ("FuseBoardsModel", "currents", "[I", true)
  | 8 => ("FuseBoardsModel", "isHot", "[Z", true)
  | 9 => ("FuseBoardsModel", "spot", "I", false)
  | 10 => ("FuseBoardsModel", "letter", "I", false)
  | 11 => ("FuseBoardsModel", "one", "I", false)
  | 12 => ("FuseBoardsModel", "two", "I", false)
  | _ => ("FuseBoardsModel", "three", "I", false)
def tyX3 : Nat → FieldType := fun k => match k with
  | 0 => .array .int
  | 1 => .int
  | 2 => .array .boolean
  | 3 => .array .int
  | 4 => .int
  | 5 => .int
  | 6 => .int
  | 7 => .array .int
  | 8 => .array .boolean
  | 9 => .int
  | 10 => .int
  | 11 => .int
  | 12 => .int
  | _ => .int
abbrev wsX30 : List Cond := u_ws RX3 TX3 14
theorem nmX3 : ∀ a, a < 14 → ∀ b, b < 14 → a ≠ b → (TX3 a).2.1 ≠ (TX3 b).2.1 := by decide +kernel
theorem tyX3_ok : ∀ k, k < 14 → parseFieldDescriptor (TX3 k).2.2.1 = some (tyX3 k) := by decide +kernel
abbrev cX3_init : ByteArray := prog_5_method_1_code
def yX3_init : MethodName := ⟨RX3, "<init>", "()V"⟩
abbrev cX3_in : ByteArray := prog_5_method_3_code
def yX3_in : MethodName := ⟨RX3, "in", "(JJJ)Z"⟩
abbrev cX3_flag : ByteArray := prog_5_method_4_code
def yX3_flag : MethodName := ⟨RX3, "flag", "(Z)I"⟩
abbrev cX3_copies : ByteArray := prog_5_method_5_code
def yX3_copies : MethodName := ⟨RX3, "copies", "(II)V"⟩
abbrev cX3_changes : ByteArray := prog_5_method_6_code
def yX3_changes : MethodName := ⟨RX3, "changes", "()V"⟩
abbrev cX3_boardAt : ByteArray := prog_5_method_7_code
def yX3_boardAt : MethodName := ⟨RX3, "boardAt", "(II)I"⟩
abbrev cX3_loadAt : ByteArray := prog_5_method_8_code
def yX3_loadAt : MethodName := ⟨RX3, "loadAt", "(II)I"⟩
abbrev cX3_isDead : ByteArray := prog_5_method_9_code
def yX3_isDead : MethodName := ⟨RX3, "isDead", "(II)Z"⟩
abbrev cX3_isFed : ByteArray := prog_5_method_10_code
def yX3_isFed : MethodName := ⟨RX3, "isFed", "(III)Z"⟩
abbrev cX3_current : ByteArray := prog_5_method_11_code
def yX3_current : MethodName := ⟨RX3, "current", "(II)I"⟩
abbrev cX3_meltingHeat : ByteArray := prog_5_method_12_code
def yX3_meltingHeat : MethodName := ⟨RX3, "meltingHeat", "(II)I"⟩
abbrev cX3_burns : ByteArray := prog_5_method_13_code
def yX3_burns : MethodName := ⟨RX3, "burns", "(II)V"⟩
abbrev cX3_heats : ByteArray := prog_5_method_14_code
def yX3_heats : MethodName := ⟨RX3, "heats", "(II)V"⟩
abbrev cX3_isNearest : ByteArray := prog_5_method_15_code
def yX3_isNearest : MethodName := ⟨RX3, "isNearest", "(II)Z"⟩
abbrev cX3_blows : ByteArray := prog_5_method_16_code
def yX3_blows : MethodName := ⟨RX3, "blows", "(II)V"⟩
abbrev cX3_tick : ByteArray := prog_5_method_17_code
def yX3_tick : MethodName := ⟨RX3, "tick", "(I)I"⟩
abbrev cX3_ones : ByteArray := prog_5_method_18_code
def yX3_ones : MethodName := ⟨RX3, "ones", "(I)I"⟩
abbrev cX3_ticks : ByteArray := prog_5_method_19_code
def yX3_ticks : MethodName := ⟨RX3, "ticks", "(II)I"⟩
abbrev cX3_isBoard : ByteArray := prog_5_method_20_code
def yX3_isBoard : MethodName := ⟨RX3, "isBoard", "(I)Z"⟩
abbrev cX3_isLoad : ByteArray := prog_5_method_21_code
def yX3_isLoad : MethodName := ⟨RX3, "isLoad", "(I)Z"⟩
abbrev cX3_isFuse : ByteArray := prog_5_method_22_code
def yX3_isFuse : MethodName := ⟨RX3, "isFuse", "(II)Z"⟩
abbrev cX3_boardError : ByteArray := prog_5_method_23_code
def yX3_boardError : MethodName := ⟨RX3, "boardError", "(III)I"⟩
abbrev cX3_loadError : ByteArray := prog_5_method_24_code
def yX3_loadError : MethodName := ⟨RX3, "loadError", "(II)I"⟩
abbrev cX3_turnError : ByteArray := prog_5_method_25_code
def yX3_turnError : MethodName := ⟨RX3, "turnError", "(I)I"⟩
abbrev cX3_fuseError : ByteArray := prog_5_method_26_code
def yX3_fuseError : MethodName := ⟨RX3, "fuseError", "(III)I"⟩
abbrev cX3_passError : ByteArray := prog_5_method_27_code
def yX3_passError : MethodName := ⟨RX3, "passError", "(I)I"⟩
abbrev cX3_puts : ByteArray := prog_5_method_28_code
def yX3_puts : MethodName := ⟨RX3, "puts", "(III)V"⟩
abbrev cX3_builds : ByteArray := prog_5_method_29_code
def yX3_builds : MethodName := ⟨RX3, "builds", "(III)I"⟩
abbrev cX3_connects : ByteArray := prog_5_method_30_code
def yX3_connects : MethodName := ⟨RX3, "connects", "(II)I"⟩
abbrev cX3_turns : ByteArray := prog_5_method_31_code
def yX3_turns : MethodName := ⟨RX3, "turns", "(I)I"⟩
abbrev cX3_fuses : ByteArray := prog_5_method_32_code
def yX3_fuses : MethodName := ⟨RX3, "fuses", "(III)I"⟩
abbrev cX3_isValue : ByteArray := prog_5_method_33_code
def yX3_isValue : MethodName := ⟨RX3, "isValue", "(II)Z"⟩
abbrev cX3_set : ByteArray := prog_5_method_34_code
def yX3_set : MethodName := ⟨RX3, "set", "(II)I"⟩
abbrev cX3_board : ByteArray := prog_5_method_35_code
def yX3_board : MethodName := ⟨RX3, "board", "(III)I"⟩
abbrev cX3_load : ByteArray := prog_5_method_36_code
def yX3_load : MethodName := ⟨RX3, "load", "(II)I"⟩
abbrev cX3_turn : ByteArray := prog_5_method_37_code
def yX3_turn : MethodName := ⟨RX3, "turn", "(I)I"⟩
abbrev cX3_fuse : ByteArray := prog_5_method_38_code
def yX3_fuse : MethodName := ⟨RX3, "fuse", "(III)I"⟩
abbrev cX3_pass : ByteArray := prog_5_method_39_code
def yX3_pass : MethodName := ⟨RX3, "pass", "(I)I"⟩
abbrev cX3_depth : ByteArray := prog_5_method_40_code
def yX3_depth : MethodName := ⟨RX3, "depth", "(I)I"⟩
abbrev cX3_of : ByteArray := prog_5_method_41_code
def yX3_of : MethodName := ⟨RX3, "of", "(II)I"⟩
abbrev cX3_works : ByteArray := prog_5_method_42_code
def yX3_works : MethodName := ⟨RX3, "works", "(I)Z"⟩
abbrev cX3_ofLoad : ByteArray := prog_5_method_43_code
def yX3_ofLoad : MethodName := ⟨RX3, "ofLoad", "(II)I"⟩
abbrev cX3_fed : ByteArray := prog_5_method_44_code
def yX3_fed : MethodName := ⟨RX3, "fed", "(I)I"⟩
abbrev cX3_blown : ByteArray := prog_5_method_45_code
def yX3_blown : MethodName := ⟨RX3, "blown", "(I)I"⟩
abbrev cX3_boards : ByteArray := prog_5_method_46_code
def yX3_boards : MethodName := ⟨RX3, "boards", "(I)I"⟩
abbrev cX3_working : ByteArray := prog_5_method_47_code
def yX3_working : MethodName := ⟨RX3, "working", "()I"⟩
abbrev cX3_count : ByteArray := prog_5_method_48_code
def yX3_count : MethodName := ⟨RX3, "count", "(I)I"⟩
abbrev cX3_lowest : ByteArray := prog_5_method_49_code
def yX3_lowest : MethodName := ⟨RX3, "lowest", "(I)I"⟩
abbrev cX3_first : ByteArray := prog_5_method_50_code
def yX3_first : MethodName := ⟨RX3, "first", "(I)I"⟩
abbrev cX3_next : ByteArray := prog_5_method_51_code
def yX3_next : MethodName := ⟨RX3, "next", "(I)I"⟩
abbrev cX3_tests : ByteArray := prog_5_method_52_code
def yX3_tests : MethodName := ⟨RX3, "tests", "(III)I"⟩
abbrev cX3_test : ByteArray := prog_5_method_53_code
def yX3_test : MethodName := ⟨RX3, "test", "(III)I"⟩
abbrev cX3_unfair : ByteArray := prog_5_method_54_code
def yX3_unfair : MethodName := ⟨RX3, "unfair", "(I)I"⟩
abbrev cX3_ifOpen : ByteArray := prog_5_method_55_code
def yX3_ifOpen : MethodName := ⟨RX3, "ifOpen", "(I)I"⟩
abbrev cX3_charactersOf : ByteArray := prog_5_method_56_code
def yX3_charactersOf : MethodName := ⟨RX3, "charactersOf", "(J)I"⟩
abbrev cX3_put : ByteArray := prog_5_method_57_code
def yX3_put : MethodName := ⟨RX3, "put", "(J)I"⟩
abbrev cX3_wipe : ByteArray := prog_5_method_58_code
def yX3_wipe : MethodName := ⟨RX3, "wipe", "()I"⟩
abbrev cX3_isHere : ByteArray := prog_5_method_59_code
def yX3_isHere : MethodName := ⟨RX3, "isHere", "(II)Z"⟩
abbrev cX3_takes : ByteArray := prog_5_method_60_code
def yX3_takes : MethodName := ⟨RX3, "takes", "(I)Z"⟩
abbrev cX3_digit : ByteArray := prog_5_method_61_code
def yX3_digit : MethodName := ⟨RX3, "digit", "()I"⟩
abbrev cX3_number : ByteArray := prog_5_method_62_code
def yX3_number : MethodName := ⟨RX3, "number", "()I"⟩
abbrev cX3_readsKind : ByteArray := prog_5_method_63_code
def yX3_readsKind : MethodName := ⟨RX3, "readsKind", "()Z"⟩
abbrev cX3_readsFuse : ByteArray := prog_5_method_64_code
def yX3_readsFuse : MethodName := ⟨RX3, "readsFuse", "()Z"⟩
abbrev cX3_readsLoad : ByteArray := prog_5_method_65_code
def yX3_readsLoad : MethodName := ⟨RX3, "readsLoad", "()Z"⟩
abbrev cX3_readsOrder : ByteArray := prog_5_method_66_code
def yX3_readsOrder : MethodName := ⟨RX3, "readsOrder", "()Z"⟩
abbrev cX3_fault : ByteArray := prog_5_method_67_code
def yX3_fault : MethodName := ⟨RX3, "fault", "()I"⟩
abbrev cX3_orderError : ByteArray := prog_5_method_68_code
def yX3_orderError : MethodName := ⟨RX3, "orderError", "()I"⟩
abbrev cX3_does : ByteArray := prog_5_method_69_code
def yX3_does : MethodName := ⟨RX3, "does", "()I"⟩
abbrev cX3_carryOut : ByteArray := prog_5_method_70_code
def yX3_carryOut : MethodName := ⟨RX3, "carryOut", "()I"⟩
abbrev cX3_undo : ByteArray := prog_5_method_71_code
def yX3_undo : MethodName := ⟨RX3, "undo", "()I"⟩
abbrev cX3_isSlot : ByteArray := prog_5_method_72_code
def yX3_isSlot : MethodName := ⟨RX3, "isSlot", "(I)Z"⟩
abbrev cX3_save : ByteArray := prog_5_method_73_code
def yX3_save : MethodName := ⟨RX3, "save", "(I)I"⟩
abbrev cX3_restore : ByteArray := prog_5_method_74_code
def yX3_restore : MethodName := ⟨RX3, "restore", "(I)I"⟩
def RJ6 : String := "java/lang/Integer"
def TJ6 : u_T := fun k => match k with
  | _ => ("", "", "", false)
def tyJ6 : Nat → FieldType := fun k => match k with
  | _ => .int
abbrev wsJ60 : List Cond := u_ws RJ6 TJ6 0
theorem nmJ6 : ∀ a, a < 0 → ∀ b, b < 0 → a ≠ b → (TJ6 a).2.1 ≠ (TJ6 b).2.1 := by decide +kernel
theorem tyJ6_ok : ∀ k, k < 0 → parseFieldDescriptor (TJ6 k).2.2.1 = some (tyJ6 k) := by decide +kernel
abbrev cJ6_bitCount_0f7a4 : ByteArray := prog_6_method_49_code
def yJ6_bitCount_0f7a4 : MethodName := ⟨RJ6, "bitCount", "(I)I"⟩
def RJ9 : String := "java/lang/Math"
def TJ9 : u_T := fun k => match k with
  | _ => ("", "", "", false)
def tyJ9 : Nat → FieldType := fun k => match k with
  | _ => .int
abbrev wsJ90 : List Cond := u_ws RJ9 TJ9 0
theorem nmJ9 : ∀ a, a < 0 → ∀ b, b < 0 → a ≠ b → (TJ9 a).2.1 ≠ (TJ9 b).2.1 := by decide +kernel
theorem tyJ9_ok : ∀ k, k < 0 → parseFieldDescriptor (TJ9 k).2.2.1 = some (tyJ9 k) := by decide +kernel
abbrev cJ9_max_7cf53 : ByteArray := prog_7_method_65_code
def yJ9_max_7cf53 : MethodName := ⟨RJ9, "max", "(II)I"⟩
abbrev cJ9_min_7cf53 : ByteArray := prog_7_method_69_code
def yJ9_min_7cf53 : MethodName := ⟨RJ9, "min", "(II)I"⟩
def RJ10 : String := "java/lang/System"
def TJ10 : u_T := fun k => match k with
  | _ => ("", "", "", false)
def tyJ10 : Nat → FieldType := fun k => match k with
  | _ => .int
abbrev wsJ100 : List Cond := u_ws RJ10 TJ10 0
theorem nmJ10 : ∀ a, a < 0 → ∀ b, b < 0 → a ≠ b → (TJ10 a).2.1 ≠ (TJ10 b).2.1 := by decide +kernel
theorem tyJ10_ok : ∀ k, k < 0 → parseFieldDescriptor (TJ10 k).2.2.1 = some (tyJ10 k) := by decide +kernel
def RJ7 : String := "java/util/Arrays"
def TJ7 : u_T := fun k => match k with
  | _ => ("", "", "", false)
def tyJ7 : Nat → FieldType := fun k => match k with
  | _ => .int
abbrev wsJ70 : List Cond := u_ws RJ7 TJ7 0
theorem nmJ7 : ∀ a, a < 0 → ∀ b, b < 0 → a ≠ b → (TJ7 a).2.1 ≠ (TJ7 b).2.1 := by decide +kernel
theorem tyJ7_ok : ∀ k, k < 0 → parseFieldDescriptor (TJ7 k).2.2.1 = some (tyJ7 k) := by decide +kernel
abbrev cJ7_rangeCheck_23922 : ByteArray := prog_9_method_30_code
def yJ7_rangeCheck_23922 : MethodName := ⟨RJ7, "rangeCheck", "(III)V"⟩
abbrev cJ7_fill_53178 : ByteArray := prog_9_method_103_code
def yJ7_fill_53178 : MethodName := ⟨RJ7, "fill", "([II)V"⟩
abbrev cJ7_fill_fda19 : ByteArray := prog_9_method_104_code
def yJ7_fill_fda19 : MethodName := ⟨RJ7, "fill", "([IIII)V"⟩
def RL : String := "FuseBoardsLaw"
abbrev cL_law : ByteArray := code
def yL_law : MethodName := ⟨RL, "law", "([I)Z"⟩
abbrev vwCl : List vw_C := [(RX0, TX0, 2), (RX1, TX1, 7), (RX2, TX2, 8), (RX3, TX3, 14)]
end
section
theorem mt_1 : ∀ w ∈ tables_1_1, w ∈ lw_tbl := fun _ h => List.mem_append_right _ (List.mem_append_left _ h)
theorem mt_2 : ∀ w ∈ tables_1_2, w ∈ lw_tbl := fun _ h => List.mem_append_right _ (List.mem_append_right _ (List.mem_append_left _ h))
theorem mt_3 : ∀ w ∈ tables_1_3, w ∈ lw_tbl := fun _ h => List.mem_append_right _ (List.mem_append_right _ (List.mem_append_right _ (List.mem_append_left _ h)))
theorem mt_4 : ∀ w ∈ tables_1_4, w ∈ lw_tbl := fun _ h => List.mem_append_right _ (List.mem_append_right _ (List.mem_append_right _ (List.mem_append_right _ h)))
theorem mp_1 : ∀ q ∈ lw_privs_1, Cond.selects q.1.cls q.1 q.1 ∈ lw_tbl := fun q h => List.mem_append_left _ (List.mem_map_of_mem (f := fun q : MethodName × Nat => Cond.selects q.1.cls q.1 q.1) (List.mem_append_left _ h))
theorem mp_2 : ∀ q ∈ lw_privs_2, Cond.selects q.1.cls q.1 q.1 ∈ lw_tbl := fun q h => List.mem_append_left _ (List.mem_map_of_mem (f := fun q : MethodName × Nat => Cond.selects q.1.cls q.1 q.1) (List.mem_append_right _ (List.mem_append_left _ h)))
theorem mp_3 : ∀ q ∈ lw_privs_3, Cond.selects q.1.cls q.1 q.1 ∈ lw_tbl := fun q h => List.mem_append_left _ (List.mem_map_of_mem (f := fun q : MethodName × Nat => Cond.selects q.1.cls q.1 q.1) (List.mem_append_right _ (List.mem_append_right _ (List.mem_append_left _ h))))
theorem mp_4 : ∀ q ∈ lw_privs_4, Cond.selects q.1.cls q.1 q.1 ∈ lw_tbl := fun q h => List.mem_append_left _ (List.mem_map_of_mem (f := fun q : MethodName × Nat => Cond.selects q.1.cls q.1 q.1) (List.mem_append_right _ (List.mem_append_right _ (List.mem_append_right _ (List.mem_append_left _ h)))))
theorem mp_5 : ∀ q ∈ lw_privs_5, Cond.selects q.1.cls q.1 q.1 ∈ lw_tbl := fun q h => List.mem_append_left _ (List.mem_map_of_mem (f := fun q : MethodName × Nat => Cond.selects q.1.cls q.1 q.1) (List.mem_append_right _ (List.mem_append_right _ (List.mem_append_right _ (List.mem_append_right _ (h))))))
def lw_tg : List Cond := lw_tbl.filter goodWord
theorem lw_good : GoodIn lw_tg lw_tg := fun w h => ⟨h, good_of_word (List.mem_filter.mp h).2⟩
theorem tg_of {w : Cond} (h : w ∈ lw_tbl) (g : goodWord w = true) : w ∈ lw_tg := List.mem_filter.mpr ⟨h, g⟩
theorem in_X0 : ∀ w ∈ u_ws RX0 TX0 2, w ∈ lw_tg := by decide +kernel
theorem in_X1 : ∀ w ∈ u_ws RX1 TX1 7, w ∈ lw_tg := by decide +kernel
theorem in_X2 : ∀ w ∈ u_ws RX2 TX2 8, w ∈ lw_tg := by decide +kernel
theorem in_X3 : ∀ w ∈ u_ws RX3 TX3 14, w ∈ lw_tg := by decide +kernel
theorem tw_0 : Cond.classLink RL 7 RX2 ∈ lw_tg := tg_of (mt_1 _ (List.mem_of_getElem? (i := 9) (by rfl))) (by rfl)
theorem tw_1 : Cond.instantiable RX2 8 ∈ lw_tg := tg_of (mt_1 _ (List.mem_of_getElem? (i := 10) (by rfl))) (by rfl)
theorem tw_2 : Cond.initialized RX2 ∈ lw_tg := tg_of (mt_1 _ (List.mem_of_getElem? (i := 1) (by rfl))) (by rfl)
theorem tw_3 : Cond.classLink RL 10 RX3 ∈ lw_tg := tg_of (mt_2 _ (List.mem_of_getElem? (i := 229) (by rfl))) (by rfl)
theorem tw_4 : Cond.instantiable RX3 14 ∈ lw_tg := tg_of (mt_2 _ (List.mem_of_getElem? (i := 230) (by rfl))) (by rfl)
theorem tw_5 : Cond.initialized RX3 ∈ lw_tg := tg_of (mt_1 _ (List.mem_of_getElem? (i := 4) (by rfl))) (by rfl)
theorem tw_6 : Cond.constantLong RL 76 (4294967295) ∈ lw_tg := tg_of (mt_4 _ (List.mem_of_getElem? (i := 89) (by rfl))) (by rfl)
theorem tw_7 : Cond.methodLink RL 9 yX2_init ∈ lw_tg := tg_of (mt_1 _ (List.mem_of_getElem? (i := 11) (by rfl))) (by rfl)
theorem tw_8 : Cond.instanceMethod yX2_init ∈ lw_tg := tg_of (mt_1 _ (List.mem_of_getElem? (i := 12) (by rfl))) (by rfl)
theorem tw_9 : Cond.code yX2_init cX2_init 1 none ∈ lw_tg := tg_of (mt_1 _ (List.mem_of_getElem? (i := 13) (by rfl))) (by rfl)
theorem tw_10 : Cond.methodLink RX2 3 objectInit ∈ lw_tg := tg_of (mt_1 _ (List.mem_of_getElem? (i := 14) (by rfl))) (by rfl)
theorem tw_11 : Cond.instanceMethod objectInit ∈ lw_tg := tg_of (mt_1 _ (List.mem_of_getElem? (i := 15) (by rfl))) (by rfl)
theorem tw_12 : Cond.code objectInit ⟨#[0xb1]⟩ 1 none ∈ lw_tg := tg_of (mt_1 _ (List.mem_of_getElem? (i := 16) (by rfl))) (by rfl)
theorem tw_13 : Cond.classLink RX2 9 RX0 ∈ lw_tg := tg_of (mt_1 _ (List.mem_of_getElem? (i := 17) (by rfl))) (by rfl)
theorem tw_14 : Cond.instantiable RX0 2 ∈ lw_tg := tg_of (mt_1 _ (List.mem_of_getElem? (i := 18) (by rfl))) (by rfl)
theorem tw_15 : Cond.initialized RX0 ∈ lw_tg := tg_of (mt_1 _ (List.mem_of_getElem? (i := 2) (by rfl))) (by rfl)
theorem tw_16 : Cond.fieldLink RX2 12 "FuseBoards" "now" "LFuseBoards$House;" ∈ lw_tg := tg_of (mt_1 _ (List.mem_of_getElem? (i := 61) (by rfl))) (by rfl)
theorem tw_17 : Cond.fieldLink RX2 16 "FuseBoards" "trial" "LFuseBoards$House;" ∈ lw_tg := tg_of (mt_1 _ (List.mem_of_getElem? (i := 62) (by rfl))) (by rfl)
theorem tw_18 : Cond.classLink RX2 19 RX1 ∈ lw_tg := tg_of (mt_1 _ (List.mem_of_getElem? (i := 31) (by rfl))) (by rfl)
theorem tw_19 : Cond.instantiable RX1 7 ∈ lw_tg := tg_of (mt_1 _ (List.mem_of_getElem? (i := 32) (by rfl))) (by rfl)
theorem tw_20 : Cond.initialized RX1 ∈ lw_tg := tg_of (mt_1 _ (List.mem_of_getElem? (i := 3) (by rfl))) (by rfl)
theorem tw_21 : Cond.fieldLink RX2 22 "FuseBoards" "pad" "LFuseBoards$Pad;" ∈ lw_tg := tg_of (mt_1 _ (List.mem_of_getElem? (i := 63) (by rfl))) (by rfl)
theorem tw_22 : Cond.classLink RX2 26 "[[I" ∈ lw_tg := tg_of (mt_1 _ (List.mem_of_getElem? (i := 59) (by rfl))) (by rfl)
theorem tw_23 : Cond.arrayClass .int ∈ lw_tg := tg_of (mt_1 _ (List.mem_of_getElem? (i := 30) (by rfl))) (by rfl)
theorem tw_24 : Cond.fieldLink RX2 28 "FuseBoards" "history" "[[I" ∈ lw_tg := tg_of (mt_1 _ (List.mem_of_getElem? (i := 64) (by rfl))) (by rfl)
theorem tw_25 : Cond.fieldLink RX2 31 "FuseBoards" "slots" "[[I" ∈ lw_tg := tg_of (mt_1 _ (List.mem_of_getElem? (i := 65) (by rfl))) (by rfl)
theorem tw_26 : Cond.arrayClass .boolean ∈ lw_tg := tg_of (mt_1 _ (List.mem_of_getElem? (i := 86) (by rfl))) (by rfl)
theorem tw_27 : Cond.fieldLink RX2 34 "FuseBoards" "saved" "[Z" ∈ lw_tg := tg_of (mt_1 _ (List.mem_of_getElem? (i := 66) (by rfl))) (by rfl)
theorem tw_28 : Cond.fieldLink RX2 38 "FuseBoards" "spare" "I" ∈ lw_tg := tg_of (mt_1 _ (List.mem_of_getElem? (i := 67) (by rfl))) (by rfl)
theorem tw_29 : Cond.fieldLink RX2 42 "FuseBoards" "undoable" "I" ∈ lw_tg := tg_of (mt_1 _ (List.mem_of_getElem? (i := 68) (by rfl))) (by rfl)
theorem tw_30 : Cond.methodLink RX2 11 yX0_init ∈ lw_tg := tg_of (mt_1 _ (List.mem_of_getElem? (i := 19) (by rfl))) (by rfl)
theorem tw_31 : Cond.instanceMethod yX0_init ∈ lw_tg := tg_of (mt_1 _ (List.mem_of_getElem? (i := 20) (by rfl))) (by rfl)
theorem tw_32 : Cond.code yX0_init cX0_init 1 none ∈ lw_tg := tg_of (mt_1 _ (List.mem_of_getElem? (i := 21) (by rfl))) (by rfl)
theorem tw_33 : Cond.methodLink RX0 5 objectInit ∈ lw_tg := tg_of (mt_1 _ (List.mem_of_getElem? (i := 22) (by rfl))) (by rfl)
theorem tw_34 : Cond.fieldLink RX0 11 "FuseBoards$House" "row" "[I" ∈ lw_tg := tg_of (mt_1 _ (List.mem_of_getElem? (i := 23) (by rfl))) (by rfl)
theorem tw_35 : Cond.fieldLink RX0 15 "FuseBoards$House" "flow" "[I" ∈ lw_tg := tg_of (mt_1 _ (List.mem_of_getElem? (i := 24) (by rfl))) (by rfl)
theorem tw_36 : Cond.methodLink RX2 21 yX1_init ∈ lw_tg := tg_of (mt_1 _ (List.mem_of_getElem? (i := 33) (by rfl))) (by rfl)
theorem tw_37 : Cond.instanceMethod yX1_init ∈ lw_tg := tg_of (mt_1 _ (List.mem_of_getElem? (i := 34) (by rfl))) (by rfl)
theorem tw_38 : Cond.code yX1_init cX1_init 1 none ∈ lw_tg := tg_of (mt_1 _ (List.mem_of_getElem? (i := 35) (by rfl))) (by rfl)
theorem tw_39 : Cond.methodLink RX1 3 objectInit ∈ lw_tg := tg_of (mt_1 _ (List.mem_of_getElem? (i := 36) (by rfl))) (by rfl)
theorem tw_40 : Cond.fieldLink RX1 11 "FuseBoards$Pad" "codes" "[I" ∈ lw_tg := tg_of (mt_1 _ (List.mem_of_getElem? (i := 37) (by rfl))) (by rfl)
theorem tw_41 : Cond.fieldLink RX1 15 "FuseBoards$Pad" "length" "I" ∈ lw_tg := tg_of (mt_1 _ (List.mem_of_getElem? (i := 38) (by rfl))) (by rfl)
theorem tw_42 : Cond.fieldLink RX1 19 "FuseBoards$Pad" "at" "I" ∈ lw_tg := tg_of (mt_1 _ (List.mem_of_getElem? (i := 39) (by rfl))) (by rfl)
theorem tw_43 : Cond.fieldLink RX1 22 "FuseBoards$Pad" "letter" "I" ∈ lw_tg := tg_of (mt_1 _ (List.mem_of_getElem? (i := 40) (by rfl))) (by rfl)
theorem tw_44 : Cond.fieldLink RX1 25 "FuseBoards$Pad" "digit" "I" ∈ lw_tg := tg_of (mt_1 _ (List.mem_of_getElem? (i := 41) (by rfl))) (by rfl)
theorem tw_45 : Cond.fieldLink RX1 28 "FuseBoards$Pad" "number" "I" ∈ lw_tg := tg_of (mt_1 _ (List.mem_of_getElem? (i := 42) (by rfl))) (by rfl)
theorem tw_46 : Cond.fieldLink RX1 31 "FuseBoards$Pad" "kind" "I" ∈ lw_tg := tg_of (mt_1 _ (List.mem_of_getElem? (i := 43) (by rfl))) (by rfl)
theorem tw_47 : Cond.methodLink RL 12 yX3_init ∈ lw_tg := tg_of (mt_2 _ (List.mem_of_getElem? (i := 231) (by rfl))) (by rfl)
theorem tw_48 : Cond.instanceMethod yX3_init ∈ lw_tg := tg_of (mt_2 _ (List.mem_of_getElem? (i := 232) (by rfl))) (by rfl)
theorem tw_49 : Cond.code yX3_init cX3_init 1 none ∈ lw_tg := tg_of (mt_2 _ (List.mem_of_getElem? (i := 233) (by rfl))) (by rfl)
theorem tw_50 : Cond.methodLink RX3 1 objectInit ∈ lw_tg := tg_of (mt_2 _ (List.mem_of_getElem? (i := 234) (by rfl))) (by rfl)
theorem tw_51 : Cond.fieldLink RX3 7 "FuseBoardsModel" "s" "[I" ∈ lw_tg := tg_of (mt_2 _ (List.mem_of_getElem? (i := 235) (by rfl))) (by rfl)
theorem tw_52 : Cond.fieldLink RX3 13 "FuseBoardsModel" "isSaved" "[Z" ∈ lw_tg := tg_of (mt_2 _ (List.mem_of_getElem? (i := 237) (by rfl))) (by rfl)
theorem tw_53 : Cond.fieldLink RX3 17 "FuseBoardsModel" "text" "[I" ∈ lw_tg := tg_of (mt_2 _ (List.mem_of_getElem? (i := 238) (by rfl))) (by rfl)
theorem tw_54 : Cond.fieldLink RX3 20 "FuseBoardsModel" "faultBoard" "I" ∈ lw_tg := tg_of (mt_3 _ (List.mem_of_getElem? (i := 0) (by rfl))) (by rfl)
theorem tw_55 : Cond.fieldLink RX3 24 "FuseBoardsModel" "currents" "[I" ∈ lw_tg := tg_of (mt_3 _ (List.mem_of_getElem? (i := 2) (by rfl))) (by rfl)
theorem tw_56 : Cond.fieldLink RX3 27 "FuseBoardsModel" "isHot" "[Z" ∈ lw_tg := tg_of (mt_3 _ (List.mem_of_getElem? (i := 3) (by rfl))) (by rfl)
theorem tw_57 : Cond.methodLink RL 13 yX2_set ∈ lw_tg := tg_of (mt_1 _ (List.mem_of_getElem? (i := 87) (by rfl))) (by rfl)
theorem tw_58 : Cond.instanceMethod yX2_set ∈ lw_tg := tg_of (mt_1 _ (List.mem_of_getElem? (i := 88) (by rfl))) (by rfl)
theorem tw_59 : Cond.selects RX2 yX2_set yX2_set ∈ lw_tg := tg_of (mt_1 _ (List.mem_of_getElem? (i := 89) (by rfl))) (by rfl)
theorem tw_60 : Cond.code yX2_set cX2_set 3 (some .int) ∈ lw_tg := tg_of (mt_1 _ (List.mem_of_getElem? (i := 90) (by rfl))) (by rfl)
theorem tw_61 : Cond.methodLink RX2 45 yX2_noteState ∈ lw_tg := tg_of (mt_1 _ (List.mem_of_getElem? (i := 91) (by rfl))) (by rfl)
theorem tw_62 : Cond.instanceMethod yX2_noteState ∈ lw_tg := tg_of (mt_1 _ (List.mem_of_getElem? (i := 93) (by rfl))) (by rfl)
theorem tw_63 : Cond.selects RX2 yX2_noteState yX2_noteState ∈ lw_tg := tg_of (mp_1 _ (List.mem_of_getElem? (l := lw_privs_1) (i := 0) (by rfl))) (by rfl)
theorem tw_64 : Cond.code yX2_noteState cX2_noteState 1 none ∈ lw_tg := tg_of (mt_1 _ (List.mem_of_getElem? (i := 94) (by rfl))) (by rfl)
theorem tw_65 : Cond.methodLink RX2 147 yX0_writeTo ∈ lw_tg := tg_of (mt_1 _ (List.mem_of_getElem? (i := 95) (by rfl))) (by rfl)
theorem tw_66 : Cond.instanceMethod yX0_writeTo ∈ lw_tg := tg_of (mt_1 _ (List.mem_of_getElem? (i := 96) (by rfl))) (by rfl)
theorem tw_67 : Cond.selects RX0 yX0_writeTo yX0_writeTo ∈ lw_tg := tg_of (mt_1 _ (List.mem_of_getElem? (i := 97) (by rfl))) (by rfl)
theorem tw_68 : Cond.code yX0_writeTo cX0_writeTo 2 none ∈ lw_tg := tg_of (mt_1 _ (List.mem_of_getElem? (i := 98) (by rfl))) (by rfl)
theorem tw_69 : Cond.methodLink RX0 18 arraycopyName ∈ lw_tg := tg_of (mt_1 _ (List.mem_of_getElem? (i := 99) (by rfl))) (by rfl)
theorem tw_70 : Cond.native arraycopyName ∈ lw_tg := tg_of (mt_1 _ (List.mem_of_getElem? (i := 101) (by rfl))) (by rfl)
theorem tw_71 : Cond.static arraycopyName ∈ lw_tg := tg_of (mt_1 _ (List.mem_of_getElem? (i := 100) (by rfl))) (by rfl)
theorem tw_72 : Cond.initialized "java/lang/System" ∈ lw_tg := tg_of (mt_1 _ (List.mem_of_getElem? (i := 5) (by rfl))) (by rfl)
theorem tw_73 : Cond.methodLink RX2 48 yX0_changeSetting ∈ lw_tg := tg_of (mt_1 _ (List.mem_of_getElem? (i := 102) (by rfl))) (by rfl)
theorem tw_74 : Cond.instanceMethod yX0_changeSetting ∈ lw_tg := tg_of (mt_1 _ (List.mem_of_getElem? (i := 103) (by rfl))) (by rfl)
theorem tw_75 : Cond.selects RX0 yX0_changeSetting yX0_changeSetting ∈ lw_tg := tg_of (mt_1 _ (List.mem_of_getElem? (i := 104) (by rfl))) (by rfl)
theorem tw_76 : Cond.code yX0_changeSetting cX0_changeSetting 4 (some .int) ∈ lw_tg := tg_of (mt_1 _ (List.mem_of_getElem? (i := 105) (by rfl))) (by rfl)
theorem tw_77 : Cond.fieldLink RX0 28 "FuseBoards$House" "LEAST_VALUES" "[I" ∈ lw_tg := tg_of (mt_1 _ (List.mem_of_getElem? (i := 106) (by rfl))) (by rfl)
theorem tw_78 : Cond.fieldLink RX0 31 "FuseBoards$House" "MOST_VALUES" "[I" ∈ lw_tg := tg_of (mt_1 _ (List.mem_of_getElem? (i := 108) (by rfl))) (by rfl)
theorem tw_79 : Cond.methodLink RX2 52 yX2_keepUnlessError ∈ lw_tg := tg_of (mt_1 _ (List.mem_of_getElem? (i := 110) (by rfl))) (by rfl)
theorem tw_80 : Cond.instanceMethod yX2_keepUnlessError ∈ lw_tg := tg_of (mt_1 _ (List.mem_of_getElem? (i := 112) (by rfl))) (by rfl)
theorem tw_81 : Cond.selects RX2 yX2_keepUnlessError yX2_keepUnlessError ∈ lw_tg := tg_of (mp_1 _ (List.mem_of_getElem? (l := lw_privs_1) (i := 1) (by rfl))) (by rfl)
theorem tw_82 : Cond.code yX2_keepUnlessError cX2_keepUnlessError 2 (some .int) ∈ lw_tg := tg_of (mt_1 _ (List.mem_of_getElem? (i := 113) (by rfl))) (by rfl)
theorem tw_83 : Cond.methodLink RX2 150 Lib.Math.min.name ∈ lw_tg := tg_of (mt_1 _ (List.mem_of_getElem? (i := 114) (by rfl))) (by rfl)
theorem tw_84 : Cond.static Lib.Math.min.name ∈ lw_tg := tg_of (mt_1 _ (List.mem_of_getElem? (i := 115) (by rfl))) (by rfl)
theorem tw_85 : Cond.initialized "java/lang/Math" ∈ lw_tg := tg_of (mt_1 _ (List.mem_of_getElem? (i := 6) (by rfl))) (by rfl)
theorem tw_86 : Cond.code Lib.Math.min.name Lib.Math.min.code 2 (some .int) ∈ lw_tg := tg_of (mt_1 _ (List.mem_of_getElem? (i := 116) (by rfl))) (by rfl)
theorem tw_87 : Cond.methodLink RL 17 yX3_set ∈ lw_tg := tg_of (mt_3 _ (List.mem_of_getElem? (i := 38) (by rfl))) (by rfl)
theorem tw_88 : Cond.instanceMethod yX3_set ∈ lw_tg := tg_of (mt_3 _ (List.mem_of_getElem? (i := 39) (by rfl))) (by rfl)
theorem tw_89 : Cond.selects RX3 yX3_set yX3_set ∈ lw_tg := tg_of (mt_3 _ (List.mem_of_getElem? (i := 40) (by rfl))) (by rfl)
theorem tw_90 : Cond.code yX3_set cX3_set 4 (some .int) ∈ lw_tg := tg_of (mt_3 _ (List.mem_of_getElem? (i := 41) (by rfl))) (by rfl)
theorem tw_91 : Cond.methodLink RX3 115 yX3_isValue ∈ lw_tg := tg_of (mt_3 _ (List.mem_of_getElem? (i := 42) (by rfl))) (by rfl)
theorem tw_92 : Cond.static yX3_isValue ∈ lw_tg := tg_of (mt_3 _ (List.mem_of_getElem? (i := 43) (by rfl))) (by rfl)
theorem tw_93 : Cond.code yX3_isValue cX3_isValue 2 (some .boolean) ∈ lw_tg := tg_of (mt_3 _ (List.mem_of_getElem? (i := 44) (by rfl))) (by rfl)
theorem tw_94 : Cond.constantLong RX3 111 (9) ∈ lw_tg := tg_of (mt_3 _ (List.mem_of_getElem? (i := 45) (by rfl))) (by rfl)
theorem tw_95 : Cond.constantLong RX3 113 (50) ∈ lw_tg := tg_of (mt_3 _ (List.mem_of_getElem? (i := 49) (by rfl))) (by rfl)
theorem tw_96 : Cond.methodLink RX3 85 yX3_in ∈ lw_tg := tg_of (mt_3 _ (List.mem_of_getElem? (i := 46) (by rfl))) (by rfl)
theorem tw_97 : Cond.static yX3_in ∈ lw_tg := tg_of (mt_3 _ (List.mem_of_getElem? (i := 47) (by rfl))) (by rfl)
theorem tw_98 : Cond.code yX3_in cX3_in 6 (some .boolean) ∈ lw_tg := tg_of (mt_3 _ (List.mem_of_getElem? (i := 48) (by rfl))) (by rfl)
theorem tw_99 : Cond.methodLink RX3 118 yX3_changes ∈ lw_tg := tg_of (mt_3 _ (List.mem_of_getElem? (i := 50) (by rfl))) (by rfl)
theorem tw_100 : Cond.instanceMethod yX3_changes ∈ lw_tg := tg_of (mt_3 _ (List.mem_of_getElem? (i := 52) (by rfl))) (by rfl)
theorem tw_101 : Cond.selects RX3 yX3_changes yX3_changes ∈ lw_tg := tg_of (mp_2 _ (List.mem_of_getElem? (l := lw_privs_2) (i := 12) (by rfl))) (by rfl)
theorem tw_102 : Cond.code yX3_changes cX3_changes 2 none ∈ lw_tg := tg_of (mt_3 _ (List.mem_of_getElem? (i := 53) (by rfl))) (by rfl)
theorem tw_103 : Cond.fieldLink RX3 30 "FuseBoardsModel" "states" "I" ∈ lw_tg := tg_of (mt_2 _ (List.mem_of_getElem? (i := 236) (by rfl))) (by rfl)
theorem tw_104 : Cond.methodLink RX3 33 yX3_copies ∈ lw_tg := tg_of (mt_3 _ (List.mem_of_getElem? (i := 54) (by rfl))) (by rfl)
theorem tw_105 : Cond.instanceMethod yX3_copies ∈ lw_tg := tg_of (mt_3 _ (List.mem_of_getElem? (i := 56) (by rfl))) (by rfl)
theorem tw_106 : Cond.selects RX3 yX3_copies yX3_copies ∈ lw_tg := tg_of (mp_2 _ (List.mem_of_getElem? (l := lw_privs_2) (i := 13) (by rfl))) (by rfl)
theorem tw_107 : Cond.code yX3_copies cX3_copies 4 none ∈ lw_tg := tg_of (mt_3 _ (List.mem_of_getElem? (i := 57) (by rfl))) (by rfl)
theorem tw_108 : Cond.methodLink RL 18 yX2_board ∈ lw_tg := tg_of (mt_1 _ (List.mem_of_getElem? (i := 117) (by rfl))) (by rfl)
theorem tw_109 : Cond.instanceMethod yX2_board ∈ lw_tg := tg_of (mt_1 _ (List.mem_of_getElem? (i := 118) (by rfl))) (by rfl)
theorem tw_110 : Cond.selects RX2 yX2_board yX2_board ∈ lw_tg := tg_of (mt_1 _ (List.mem_of_getElem? (i := 119) (by rfl))) (by rfl)
theorem tw_111 : Cond.code yX2_board cX2_board 4 (some .int) ∈ lw_tg := tg_of (mt_1 _ (List.mem_of_getElem? (i := 120) (by rfl))) (by rfl)
theorem tw_112 : Cond.methodLink RX2 56 yX0_addBoard ∈ lw_tg := tg_of (mt_1 _ (List.mem_of_getElem? (i := 121) (by rfl))) (by rfl)
theorem tw_113 : Cond.instanceMethod yX0_addBoard ∈ lw_tg := tg_of (mt_1 _ (List.mem_of_getElem? (i := 122) (by rfl))) (by rfl)
theorem tw_114 : Cond.selects RX0 yX0_addBoard yX0_addBoard ∈ lw_tg := tg_of (mt_1 _ (List.mem_of_getElem? (i := 123) (by rfl))) (by rfl)
theorem tw_115 : Cond.code yX0_addBoard cX0_addBoard 5 (some .int) ∈ lw_tg := tg_of (mt_1 _ (List.mem_of_getElem? (i := 124) (by rfl))) (by rfl)
theorem tw_116 : Cond.methodLink RX0 24 yX0_isBoard ∈ lw_tg := tg_of (mt_1 _ (List.mem_of_getElem? (i := 125) (by rfl))) (by rfl)
theorem tw_117 : Cond.instanceMethod yX0_isBoard ∈ lw_tg := tg_of (mt_1 _ (List.mem_of_getElem? (i := 126) (by rfl))) (by rfl)
theorem tw_118 : Cond.selects RX0 yX0_isBoard yX0_isBoard ∈ lw_tg := tg_of (mt_1 _ (List.mem_of_getElem? (i := 127) (by rfl))) (by rfl)
theorem tw_119 : Cond.code yX0_isBoard cX0_isBoard 2 (some .boolean) ∈ lw_tg := tg_of (mt_1 _ (List.mem_of_getElem? (i := 128) (by rfl))) (by rfl)
theorem tw_120 : Cond.methodLink RX0 34 yX0_isFuse ∈ lw_tg := tg_of (mt_1 _ (List.mem_of_getElem? (i := 129) (by rfl))) (by rfl)
theorem tw_121 : Cond.static yX0_isFuse ∈ lw_tg := tg_of (mt_1 _ (List.mem_of_getElem? (i := 130) (by rfl))) (by rfl)
theorem tw_122 : Cond.code yX0_isFuse cX0_isFuse 2 (some .boolean) ∈ lw_tg := tg_of (mt_1 _ (List.mem_of_getElem? (i := 131) (by rfl))) (by rfl)
theorem tw_123 : Cond.methodLink RX0 38 yX0_putNewFuse ∈ lw_tg := tg_of (mt_1 _ (List.mem_of_getElem? (i := 132) (by rfl))) (by rfl)
theorem tw_124 : Cond.instanceMethod yX0_putNewFuse ∈ lw_tg := tg_of (mt_1 _ (List.mem_of_getElem? (i := 134) (by rfl))) (by rfl)
theorem tw_125 : Cond.selects RX0 yX0_putNewFuse yX0_putNewFuse ∈ lw_tg := tg_of (mp_1 _ (List.mem_of_getElem? (l := lw_privs_1) (i := 2) (by rfl))) (by rfl)
theorem tw_126 : Cond.code yX0_putNewFuse cX0_putNewFuse 4 none ∈ lw_tg := tg_of (mt_1 _ (List.mem_of_getElem? (i := 135) (by rfl))) (by rfl)
theorem tw_127 : Cond.methodLink RL 22 yX3_board ∈ lw_tg := tg_of (mt_3 _ (List.mem_of_getElem? (i := 58) (by rfl))) (by rfl)
theorem tw_128 : Cond.instanceMethod yX3_board ∈ lw_tg := tg_of (mt_3 _ (List.mem_of_getElem? (i := 59) (by rfl))) (by rfl)
theorem tw_129 : Cond.selects RX3 yX3_board yX3_board ∈ lw_tg := tg_of (mt_3 _ (List.mem_of_getElem? (i := 60) (by rfl))) (by rfl)
theorem tw_130 : Cond.code yX3_board cX3_board 5 (some .int) ∈ lw_tg := tg_of (mt_3 _ (List.mem_of_getElem? (i := 61) (by rfl))) (by rfl)
theorem tw_131 : Cond.methodLink RX3 121 yX3_boardError ∈ lw_tg := tg_of (mt_3 _ (List.mem_of_getElem? (i := 62) (by rfl))) (by rfl)
theorem tw_132 : Cond.instanceMethod yX3_boardError ∈ lw_tg := tg_of (mt_3 _ (List.mem_of_getElem? (i := 64) (by rfl))) (by rfl)
theorem tw_133 : Cond.selects RX3 yX3_boardError yX3_boardError ∈ lw_tg := tg_of (mp_2 _ (List.mem_of_getElem? (l := lw_privs_2) (i := 14) (by rfl))) (by rfl)
theorem tw_134 : Cond.code yX3_boardError cX3_boardError 4 (some .int) ∈ lw_tg := tg_of (mt_3 _ (List.mem_of_getElem? (i := 65) (by rfl))) (by rfl)
theorem tw_135 : Cond.methodLink RX3 93 yX3_isBoard ∈ lw_tg := tg_of (mt_3 _ (List.mem_of_getElem? (i := 66) (by rfl))) (by rfl)
theorem tw_136 : Cond.instanceMethod yX3_isBoard ∈ lw_tg := tg_of (mt_3 _ (List.mem_of_getElem? (i := 68) (by rfl))) (by rfl)
theorem tw_137 : Cond.selects RX3 yX3_isBoard yX3_isBoard ∈ lw_tg := tg_of (mp_2 _ (List.mem_of_getElem? (l := lw_privs_2) (i := 15) (by rfl))) (by rfl)
theorem tw_138 : Cond.code yX3_isBoard cX3_isBoard 2 (some .boolean) ∈ lw_tg := tg_of (mt_3 _ (List.mem_of_getElem? (i := 69) (by rfl))) (by rfl)
theorem tw_139 : Cond.methodLink RX3 97 yX3_isFuse ∈ lw_tg := tg_of (mt_3 _ (List.mem_of_getElem? (i := 70) (by rfl))) (by rfl)
theorem tw_140 : Cond.static yX3_isFuse ∈ lw_tg := tg_of (mt_3 _ (List.mem_of_getElem? (i := 71) (by rfl))) (by rfl)
theorem tw_141 : Cond.code yX3_isFuse cX3_isFuse 2 (some .boolean) ∈ lw_tg := tg_of (mt_3 _ (List.mem_of_getElem? (i := 72) (by rfl))) (by rfl)
theorem tw_142 : Cond.constantLong RX3 89 (100) ∈ lw_tg := tg_of (mt_3 _ (List.mem_of_getElem? (i := 73) (by rfl))) (by rfl)
theorem tw_143 : Cond.constantLong RX3 91 (2) ∈ lw_tg := tg_of (mt_3 _ (List.mem_of_getElem? (i := 74) (by rfl))) (by rfl)
theorem tw_144 : Cond.methodLink RX3 125 yX3_builds ∈ lw_tg := tg_of (mt_3 _ (List.mem_of_getElem? (i := 75) (by rfl))) (by rfl)
theorem tw_145 : Cond.instanceMethod yX3_builds ∈ lw_tg := tg_of (mt_3 _ (List.mem_of_getElem? (i := 77) (by rfl))) (by rfl)
theorem tw_146 : Cond.selects RX3 yX3_builds yX3_builds ∈ lw_tg := tg_of (mp_3 _ (List.mem_of_getElem? (l := lw_privs_3) (i := 0) (by rfl))) (by rfl)
theorem tw_147 : Cond.code yX3_builds cX3_builds 5 (some .int) ∈ lw_tg := tg_of (mt_3 _ (List.mem_of_getElem? (i := 78) (by rfl))) (by rfl)
theorem tw_148 : Cond.methodLink RX3 37 yX3_boardAt ∈ lw_tg := tg_of (mt_3 _ (List.mem_of_getElem? (i := 79) (by rfl))) (by rfl)
theorem tw_149 : Cond.static yX3_boardAt ∈ lw_tg := tg_of (mt_3 _ (List.mem_of_getElem? (i := 80) (by rfl))) (by rfl)
theorem tw_150 : Cond.code yX3_boardAt cX3_boardAt 2 (some .int) ∈ lw_tg := tg_of (mt_3 _ (List.mem_of_getElem? (i := 81) (by rfl))) (by rfl)
theorem tw_151 : Cond.methodLink RX3 107 yX3_puts ∈ lw_tg := tg_of (mt_3 _ (List.mem_of_getElem? (i := 82) (by rfl))) (by rfl)
theorem tw_152 : Cond.instanceMethod yX3_puts ∈ lw_tg := tg_of (mt_3 _ (List.mem_of_getElem? (i := 84) (by rfl))) (by rfl)
theorem tw_153 : Cond.selects RX3 yX3_puts yX3_puts ∈ lw_tg := tg_of (mp_3 _ (List.mem_of_getElem? (l := lw_privs_3) (i := 1) (by rfl))) (by rfl)
theorem tw_154 : Cond.code yX3_puts cX3_puts 6 none ∈ lw_tg := tg_of (mt_3 _ (List.mem_of_getElem? (i := 85) (by rfl))) (by rfl)
theorem tw_155 : Cond.methodLink RL 23 yX2_load ∈ lw_tg := tg_of (mt_1 _ (List.mem_of_getElem? (i := 136) (by rfl))) (by rfl)
theorem tw_156 : Cond.instanceMethod yX2_load ∈ lw_tg := tg_of (mt_1 _ (List.mem_of_getElem? (i := 137) (by rfl))) (by rfl)
theorem tw_157 : Cond.selects RX2 yX2_load yX2_load ∈ lw_tg := tg_of (mt_1 _ (List.mem_of_getElem? (i := 138) (by rfl))) (by rfl)
theorem tw_158 : Cond.code yX2_load cX2_load 3 (some .int) ∈ lw_tg := tg_of (mt_1 _ (List.mem_of_getElem? (i := 139) (by rfl))) (by rfl)
theorem tw_159 : Cond.methodLink RX2 60 yX0_addLoad ∈ lw_tg := tg_of (mt_1 _ (List.mem_of_getElem? (i := 140) (by rfl))) (by rfl)
theorem tw_160 : Cond.instanceMethod yX0_addLoad ∈ lw_tg := tg_of (mt_1 _ (List.mem_of_getElem? (i := 141) (by rfl))) (by rfl)
theorem tw_161 : Cond.selects RX0 yX0_addLoad yX0_addLoad ∈ lw_tg := tg_of (mt_1 _ (List.mem_of_getElem? (i := 142) (by rfl))) (by rfl)
theorem tw_162 : Cond.code yX0_addLoad cX0_addLoad 4 (some .int) ∈ lw_tg := tg_of (mt_1 _ (List.mem_of_getElem? (i := 143) (by rfl))) (by rfl)
theorem tw_163 : Cond.methodLink RL 26 yX3_load ∈ lw_tg := tg_of (mt_3 _ (List.mem_of_getElem? (i := 86) (by rfl))) (by rfl)
theorem tw_164 : Cond.instanceMethod yX3_load ∈ lw_tg := tg_of (mt_3 _ (List.mem_of_getElem? (i := 87) (by rfl))) (by rfl)
theorem tw_165 : Cond.selects RX3 yX3_load yX3_load ∈ lw_tg := tg_of (mt_3 _ (List.mem_of_getElem? (i := 88) (by rfl))) (by rfl)
theorem tw_166 : Cond.code yX3_load cX3_load 4 (some .int) ∈ lw_tg := tg_of (mt_3 _ (List.mem_of_getElem? (i := 89) (by rfl))) (by rfl)
theorem tw_167 : Cond.methodLink RX3 128 yX3_loadError ∈ lw_tg := tg_of (mt_3 _ (List.mem_of_getElem? (i := 90) (by rfl))) (by rfl)
theorem tw_168 : Cond.instanceMethod yX3_loadError ∈ lw_tg := tg_of (mt_3 _ (List.mem_of_getElem? (i := 92) (by rfl))) (by rfl)
theorem tw_169 : Cond.selects RX3 yX3_loadError yX3_loadError ∈ lw_tg := tg_of (mp_3 _ (List.mem_of_getElem? (l := lw_privs_3) (i := 2) (by rfl))) (by rfl)
theorem tw_170 : Cond.code yX3_loadError cX3_loadError 3 (some .int) ∈ lw_tg := tg_of (mt_3 _ (List.mem_of_getElem? (i := 93) (by rfl))) (by rfl)
theorem tw_171 : Cond.constantLong RX3 100 (200) ∈ lw_tg := tg_of (mt_3 _ (List.mem_of_getElem? (i := 94) (by rfl))) (by rfl)
theorem tw_172 : Cond.methodLink RX3 131 yX3_connects ∈ lw_tg := tg_of (mt_3 _ (List.mem_of_getElem? (i := 95) (by rfl))) (by rfl)
theorem tw_173 : Cond.instanceMethod yX3_connects ∈ lw_tg := tg_of (mt_3 _ (List.mem_of_getElem? (i := 97) (by rfl))) (by rfl)
theorem tw_174 : Cond.selects RX3 yX3_connects yX3_connects ∈ lw_tg := tg_of (mp_3 _ (List.mem_of_getElem? (l := lw_privs_3) (i := 3) (by rfl))) (by rfl)
theorem tw_175 : Cond.code yX3_connects cX3_connects 4 (some .int) ∈ lw_tg := tg_of (mt_3 _ (List.mem_of_getElem? (i := 98) (by rfl))) (by rfl)
theorem tw_176 : Cond.methodLink RX3 41 yX3_loadAt ∈ lw_tg := tg_of (mt_3 _ (List.mem_of_getElem? (i := 99) (by rfl))) (by rfl)
theorem tw_177 : Cond.static yX3_loadAt ∈ lw_tg := tg_of (mt_3 _ (List.mem_of_getElem? (i := 100) (by rfl))) (by rfl)
theorem tw_178 : Cond.code yX3_loadAt cX3_loadAt 2 (some .int) ∈ lw_tg := tg_of (mt_3 _ (List.mem_of_getElem? (i := 101) (by rfl))) (by rfl)
theorem tw_179 : Cond.methodLink RL 27 yX2_turn ∈ lw_tg := tg_of (mt_1 _ (List.mem_of_getElem? (i := 144) (by rfl))) (by rfl)
theorem tw_180 : Cond.instanceMethod yX2_turn ∈ lw_tg := tg_of (mt_1 _ (List.mem_of_getElem? (i := 145) (by rfl))) (by rfl)
theorem tw_181 : Cond.selects RX2 yX2_turn yX2_turn ∈ lw_tg := tg_of (mt_1 _ (List.mem_of_getElem? (i := 146) (by rfl))) (by rfl)
theorem tw_182 : Cond.code yX2_turn cX2_turn 2 (some .int) ∈ lw_tg := tg_of (mt_1 _ (List.mem_of_getElem? (i := 147) (by rfl))) (by rfl)
theorem tw_183 : Cond.methodLink RX2 63 yX0_switchLoad ∈ lw_tg := tg_of (mt_1 _ (List.mem_of_getElem? (i := 148) (by rfl))) (by rfl)
theorem tw_184 : Cond.instanceMethod yX0_switchLoad ∈ lw_tg := tg_of (mt_1 _ (List.mem_of_getElem? (i := 149) (by rfl))) (by rfl)
theorem tw_185 : Cond.selects RX0 yX0_switchLoad yX0_switchLoad ∈ lw_tg := tg_of (mt_1 _ (List.mem_of_getElem? (i := 150) (by rfl))) (by rfl)
theorem tw_186 : Cond.code yX0_switchLoad cX0_switchLoad 2 (some .int) ∈ lw_tg := tg_of (mt_1 _ (List.mem_of_getElem? (i := 151) (by rfl))) (by rfl)
theorem tw_187 : Cond.methodLink RX0 42 yX0_isLoad ∈ lw_tg := tg_of (mt_1 _ (List.mem_of_getElem? (i := 152) (by rfl))) (by rfl)
theorem tw_188 : Cond.instanceMethod yX0_isLoad ∈ lw_tg := tg_of (mt_1 _ (List.mem_of_getElem? (i := 153) (by rfl))) (by rfl)
theorem tw_189 : Cond.selects RX0 yX0_isLoad yX0_isLoad ∈ lw_tg := tg_of (mt_1 _ (List.mem_of_getElem? (i := 154) (by rfl))) (by rfl)
theorem tw_190 : Cond.code yX0_isLoad cX0_isLoad 2 (some .boolean) ∈ lw_tg := tg_of (mt_1 _ (List.mem_of_getElem? (i := 155) (by rfl))) (by rfl)
theorem tw_191 : Cond.methodLink RL 31 yX3_turn ∈ lw_tg := tg_of (mt_3 _ (List.mem_of_getElem? (i := 102) (by rfl))) (by rfl)
theorem tw_192 : Cond.instanceMethod yX3_turn ∈ lw_tg := tg_of (mt_3 _ (List.mem_of_getElem? (i := 103) (by rfl))) (by rfl)
theorem tw_193 : Cond.selects RX3 yX3_turn yX3_turn ∈ lw_tg := tg_of (mt_3 _ (List.mem_of_getElem? (i := 104) (by rfl))) (by rfl)
theorem tw_194 : Cond.code yX3_turn cX3_turn 3 (some .int) ∈ lw_tg := tg_of (mt_3 _ (List.mem_of_getElem? (i := 105) (by rfl))) (by rfl)
theorem tw_195 : Cond.methodLink RX3 134 yX3_turnError ∈ lw_tg := tg_of (mt_3 _ (List.mem_of_getElem? (i := 106) (by rfl))) (by rfl)
theorem tw_196 : Cond.instanceMethod yX3_turnError ∈ lw_tg := tg_of (mt_3 _ (List.mem_of_getElem? (i := 108) (by rfl))) (by rfl)
theorem tw_197 : Cond.selects RX3 yX3_turnError yX3_turnError ∈ lw_tg := tg_of (mp_3 _ (List.mem_of_getElem? (l := lw_privs_3) (i := 4) (by rfl))) (by rfl)
theorem tw_198 : Cond.code yX3_turnError cX3_turnError 2 (some .int) ∈ lw_tg := tg_of (mt_3 _ (List.mem_of_getElem? (i := 109) (by rfl))) (by rfl)
theorem tw_199 : Cond.methodLink RX3 102 yX3_isLoad ∈ lw_tg := tg_of (mt_3 _ (List.mem_of_getElem? (i := 110) (by rfl))) (by rfl)
theorem tw_200 : Cond.instanceMethod yX3_isLoad ∈ lw_tg := tg_of (mt_3 _ (List.mem_of_getElem? (i := 112) (by rfl))) (by rfl)
theorem tw_201 : Cond.selects RX3 yX3_isLoad yX3_isLoad ∈ lw_tg := tg_of (mp_3 _ (List.mem_of_getElem? (l := lw_privs_3) (i := 5) (by rfl))) (by rfl)
theorem tw_202 : Cond.code yX3_isLoad cX3_isLoad 2 (some .boolean) ∈ lw_tg := tg_of (mt_3 _ (List.mem_of_getElem? (i := 113) (by rfl))) (by rfl)
theorem tw_203 : Cond.methodLink RX3 137 yX3_turns ∈ lw_tg := tg_of (mt_3 _ (List.mem_of_getElem? (i := 114) (by rfl))) (by rfl)
theorem tw_204 : Cond.instanceMethod yX3_turns ∈ lw_tg := tg_of (mt_3 _ (List.mem_of_getElem? (i := 116) (by rfl))) (by rfl)
theorem tw_205 : Cond.selects RX3 yX3_turns yX3_turns ∈ lw_tg := tg_of (mp_3 _ (List.mem_of_getElem? (l := lw_privs_3) (i := 6) (by rfl))) (by rfl)
theorem tw_206 : Cond.code yX3_turns cX3_turns 2 (some .int) ∈ lw_tg := tg_of (mt_3 _ (List.mem_of_getElem? (i := 117) (by rfl))) (by rfl)
theorem tw_207 : Cond.methodLink RL 32 yX2_fuse ∈ lw_tg := tg_of (mt_1 _ (List.mem_of_getElem? (i := 156) (by rfl))) (by rfl)
theorem tw_208 : Cond.instanceMethod yX2_fuse ∈ lw_tg := tg_of (mt_1 _ (List.mem_of_getElem? (i := 157) (by rfl))) (by rfl)
theorem tw_209 : Cond.selects RX2 yX2_fuse yX2_fuse ∈ lw_tg := tg_of (mt_1 _ (List.mem_of_getElem? (i := 158) (by rfl))) (by rfl)
theorem tw_210 : Cond.code yX2_fuse cX2_fuse 4 (some .int) ∈ lw_tg := tg_of (mt_1 _ (List.mem_of_getElem? (i := 159) (by rfl))) (by rfl)
theorem tw_211 : Cond.methodLink RX2 66 yX0_changeFuse ∈ lw_tg := tg_of (mt_1 _ (List.mem_of_getElem? (i := 160) (by rfl))) (by rfl)
theorem tw_212 : Cond.instanceMethod yX0_changeFuse ∈ lw_tg := tg_of (mt_1 _ (List.mem_of_getElem? (i := 161) (by rfl))) (by rfl)
theorem tw_213 : Cond.selects RX0 yX0_changeFuse yX0_changeFuse ∈ lw_tg := tg_of (mt_1 _ (List.mem_of_getElem? (i := 162) (by rfl))) (by rfl)
theorem tw_214 : Cond.code yX0_changeFuse cX0_changeFuse 5 (some .int) ∈ lw_tg := tg_of (mt_1 _ (List.mem_of_getElem? (i := 163) (by rfl))) (by rfl)
theorem tw_215 : Cond.methodLink RL 35 yX3_fuse ∈ lw_tg := tg_of (mt_3 _ (List.mem_of_getElem? (i := 118) (by rfl))) (by rfl)
theorem tw_216 : Cond.instanceMethod yX3_fuse ∈ lw_tg := tg_of (mt_3 _ (List.mem_of_getElem? (i := 119) (by rfl))) (by rfl)
theorem tw_217 : Cond.selects RX3 yX3_fuse yX3_fuse ∈ lw_tg := tg_of (mt_3 _ (List.mem_of_getElem? (i := 120) (by rfl))) (by rfl)
theorem tw_218 : Cond.code yX3_fuse cX3_fuse 5 (some .int) ∈ lw_tg := tg_of (mt_3 _ (List.mem_of_getElem? (i := 121) (by rfl))) (by rfl)
theorem tw_219 : Cond.methodLink RX3 140 yX3_fuseError ∈ lw_tg := tg_of (mt_3 _ (List.mem_of_getElem? (i := 122) (by rfl))) (by rfl)
theorem tw_220 : Cond.instanceMethod yX3_fuseError ∈ lw_tg := tg_of (mt_3 _ (List.mem_of_getElem? (i := 124) (by rfl))) (by rfl)
theorem tw_221 : Cond.selects RX3 yX3_fuseError yX3_fuseError ∈ lw_tg := tg_of (mp_3 _ (List.mem_of_getElem? (l := lw_privs_3) (i := 7) (by rfl))) (by rfl)
theorem tw_222 : Cond.code yX3_fuseError cX3_fuseError 4 (some .int) ∈ lw_tg := tg_of (mt_3 _ (List.mem_of_getElem? (i := 125) (by rfl))) (by rfl)
theorem tw_223 : Cond.methodLink RX3 143 yX3_fuses ∈ lw_tg := tg_of (mt_3 _ (List.mem_of_getElem? (i := 126) (by rfl))) (by rfl)
theorem tw_224 : Cond.instanceMethod yX3_fuses ∈ lw_tg := tg_of (mt_3 _ (List.mem_of_getElem? (i := 128) (by rfl))) (by rfl)
theorem tw_225 : Cond.selects RX3 yX3_fuses yX3_fuses ∈ lw_tg := tg_of (mp_3 _ (List.mem_of_getElem? (l := lw_privs_3) (i := 8) (by rfl))) (by rfl)
theorem tw_226 : Cond.code yX3_fuses cX3_fuses 5 (some .int) ∈ lw_tg := tg_of (mt_3 _ (List.mem_of_getElem? (i := 129) (by rfl))) (by rfl)
theorem tw_227 : Cond.methodLink RL 36 yX2_pass ∈ lw_tg := tg_of (mt_1 _ (List.mem_of_getElem? (i := 164) (by rfl))) (by rfl)
theorem tw_228 : Cond.instanceMethod yX2_pass ∈ lw_tg := tg_of (mt_1 _ (List.mem_of_getElem? (i := 165) (by rfl))) (by rfl)
theorem tw_229 : Cond.selects RX2 yX2_pass yX2_pass ∈ lw_tg := tg_of (mt_1 _ (List.mem_of_getElem? (i := 166) (by rfl))) (by rfl)
theorem tw_230 : Cond.code yX2_pass cX2_pass 2 (some .int) ∈ lw_tg := tg_of (mt_1 _ (List.mem_of_getElem? (i := 167) (by rfl))) (by rfl)
theorem tw_231 : Cond.methodLink RX2 69 yX0_letPass ∈ lw_tg := tg_of (mt_1 _ (List.mem_of_getElem? (i := 168) (by rfl))) (by rfl)
theorem tw_232 : Cond.instanceMethod yX0_letPass ∈ lw_tg := tg_of (mt_1 _ (List.mem_of_getElem? (i := 169) (by rfl))) (by rfl)
theorem tw_233 : Cond.selects RX0 yX0_letPass yX0_letPass ∈ lw_tg := tg_of (mt_1 _ (List.mem_of_getElem? (i := 170) (by rfl))) (by rfl)
theorem tw_234 : Cond.code yX0_letPass cX0_letPass 4 (some .int) ∈ lw_tg := tg_of (mt_1 _ (List.mem_of_getElem? (i := 171) (by rfl))) (by rfl)
theorem tw_235 : Cond.methodLink RX0 45 yX0_tick ∈ lw_tg := tg_of (mt_1 _ (List.mem_of_getElem? (i := 172) (by rfl))) (by rfl)
theorem tw_236 : Cond.instanceMethod yX0_tick ∈ lw_tg := tg_of (mt_1 _ (List.mem_of_getElem? (i := 173) (by rfl))) (by rfl)
theorem tw_237 : Cond.selects RX0 yX0_tick yX0_tick ∈ lw_tg := tg_of (mt_1 _ (List.mem_of_getElem? (i := 174) (by rfl))) (by rfl)
theorem tw_238 : Cond.code yX0_tick cX0_tick 3 (some .int) ∈ lw_tg := tg_of (mt_1 _ (List.mem_of_getElem? (i := 175) (by rfl))) (by rfl)
theorem tw_239 : Cond.methodLink RX0 61 yX0_addUpCurrents ∈ lw_tg := tg_of (mt_1 _ (List.mem_of_getElem? (i := 176) (by rfl))) (by rfl)
theorem tw_240 : Cond.instanceMethod yX0_addUpCurrents ∈ lw_tg := tg_of (mt_1 _ (List.mem_of_getElem? (i := 178) (by rfl))) (by rfl)
theorem tw_241 : Cond.selects RX0 yX0_addUpCurrents yX0_addUpCurrents ∈ lw_tg := tg_of (mp_1 _ (List.mem_of_getElem? (l := lw_privs_1) (i := 3) (by rfl))) (by rfl)
theorem tw_242 : Cond.code yX0_addUpCurrents cX0_addUpCurrents 4 none ∈ lw_tg := tg_of (mt_1 _ (List.mem_of_getElem? (i := 179) (by rfl))) (by rfl)
theorem tw_243 : Cond.methodLink RX0 84 yJ7_fill_53178 ∈ lw_tg := tg_of (mt_1 _ (List.mem_of_getElem? (i := 180) (by rfl))) (by rfl)
theorem tw_244 : Cond.static yJ7_fill_53178 ∈ lw_tg := tg_of (mt_1 _ (List.mem_of_getElem? (i := 181) (by rfl))) (by rfl)
theorem tw_245 : Cond.initialized RJ7 ∈ lw_tg := tg_of (mt_1 _ (List.mem_of_getElem? (i := 7) (by rfl))) (by rfl)
theorem tw_246 : Cond.code yJ7_fill_53178 cJ7_fill_53178 4 none ∈ lw_tg := tg_of (mt_1 _ (List.mem_of_getElem? (i := 182) (by rfl))) (by rfl)
theorem tw_247 : Cond.methodLink RX0 87 yX0_deadBoards ∈ lw_tg := tg_of (mt_1 _ (List.mem_of_getElem? (i := 183) (by rfl))) (by rfl)
theorem tw_248 : Cond.instanceMethod yX0_deadBoards ∈ lw_tg := tg_of (mt_1 _ (List.mem_of_getElem? (i := 185) (by rfl))) (by rfl)
theorem tw_249 : Cond.selects RX0 yX0_deadBoards yX0_deadBoards ∈ lw_tg := tg_of (mp_1 _ (List.mem_of_getElem? (l := lw_privs_1) (i := 4) (by rfl))) (by rfl)
theorem tw_250 : Cond.code yX0_deadBoards cX0_deadBoards 3 (some .int) ∈ lw_tg := tg_of (mt_1 _ (List.mem_of_getElem? (i := 186) (by rfl))) (by rfl)
theorem tw_251 : Cond.methodLink RX0 90 yX0_addFlow ∈ lw_tg := tg_of (mt_1 _ (List.mem_of_getElem? (i := 187) (by rfl))) (by rfl)
theorem tw_252 : Cond.instanceMethod yX0_addFlow ∈ lw_tg := tg_of (mt_1 _ (List.mem_of_getElem? (i := 189) (by rfl))) (by rfl)
theorem tw_253 : Cond.selects RX0 yX0_addFlow yX0_addFlow ∈ lw_tg := tg_of (mp_1 _ (List.mem_of_getElem? (l := lw_privs_1) (i := 5) (by rfl))) (by rfl)
theorem tw_254 : Cond.code yX0_addFlow cX0_addFlow 3 none ∈ lw_tg := tg_of (mt_1 _ (List.mem_of_getElem? (i := 190) (by rfl))) (by rfl)
theorem tw_255 : Cond.methodLink RX0 64 yX0_burnArcs ∈ lw_tg := tg_of (mt_1 _ (List.mem_of_getElem? (i := 191) (by rfl))) (by rfl)
theorem tw_256 : Cond.instanceMethod yX0_burnArcs ∈ lw_tg := tg_of (mt_1 _ (List.mem_of_getElem? (i := 193) (by rfl))) (by rfl)
theorem tw_257 : Cond.selects RX0 yX0_burnArcs yX0_burnArcs ∈ lw_tg := tg_of (mp_1 _ (List.mem_of_getElem? (l := lw_privs_1) (i := 6) (by rfl))) (by rfl)
theorem tw_258 : Cond.code yX0_burnArcs cX0_burnArcs 2 none ∈ lw_tg := tg_of (mt_1 _ (List.mem_of_getElem? (i := 194) (by rfl))) (by rfl)
theorem tw_259 : Cond.methodLink RX0 67 yX0_state ∈ lw_tg := tg_of (mt_1 _ (List.mem_of_getElem? (i := 195) (by rfl))) (by rfl)
theorem tw_260 : Cond.instanceMethod yX0_state ∈ lw_tg := tg_of (mt_1 _ (List.mem_of_getElem? (i := 197) (by rfl))) (by rfl)
theorem tw_261 : Cond.selects RX0 yX0_state yX0_state ∈ lw_tg := tg_of (mp_1 _ (List.mem_of_getElem? (l := lw_privs_1) (i := 7) (by rfl))) (by rfl)
theorem tw_262 : Cond.code yX0_state cX0_state 2 (some .int) ∈ lw_tg := tg_of (mt_1 _ (List.mem_of_getElem? (i := 198) (by rfl))) (by rfl)
theorem tw_263 : Cond.methodLink RX0 70 yX0_warm ∈ lw_tg := tg_of (mt_1 _ (List.mem_of_getElem? (i := 199) (by rfl))) (by rfl)
theorem tw_264 : Cond.instanceMethod yX0_warm ∈ lw_tg := tg_of (mt_1 _ (List.mem_of_getElem? (i := 201) (by rfl))) (by rfl)
theorem tw_265 : Cond.selects RX0 yX0_warm yX0_warm ∈ lw_tg := tg_of (mp_1 _ (List.mem_of_getElem? (l := lw_privs_1) (i := 8) (by rfl))) (by rfl)
theorem tw_266 : Cond.code yX0_warm cX0_warm 7 none ∈ lw_tg := tg_of (mt_1 _ (List.mem_of_getElem? (i := 202) (by rfl))) (by rfl)
theorem tw_267 : Cond.constant RX0 93 (1000000) ∈ lw_tg := tg_of (mt_1 _ (List.mem_of_getElem? (i := 203) (by rfl))) (by rfl)
theorem tw_268 : Cond.methodLink RX0 94 Lib.Math.min.name ∈ lw_tg := tg_of (mt_1 _ (List.mem_of_getElem? (i := 204) (by rfl))) (by rfl)
theorem tw_269 : Cond.methodLink RX0 100 Lib.Math.max.name ∈ lw_tg := tg_of (mt_1 _ (List.mem_of_getElem? (i := 205) (by rfl))) (by rfl)
theorem tw_270 : Cond.static Lib.Math.max.name ∈ lw_tg := tg_of (mt_1 _ (List.mem_of_getElem? (i := 206) (by rfl))) (by rfl)
theorem tw_271 : Cond.code Lib.Math.max.name Lib.Math.max.code 2 (some .int) ∈ lw_tg := tg_of (mt_1 _ (List.mem_of_getElem? (i := 207) (by rfl))) (by rfl)
theorem tw_272 : Cond.methodLink RX0 103 yX0_creep ∈ lw_tg := tg_of (mt_1 _ (List.mem_of_getElem? (i := 208) (by rfl))) (by rfl)
theorem tw_273 : Cond.instanceMethod yX0_creep ∈ lw_tg := tg_of (mt_1 _ (List.mem_of_getElem? (i := 210) (by rfl))) (by rfl)
theorem tw_274 : Cond.selects RX0 yX0_creep yX0_creep ∈ lw_tg := tg_of (mp_1 _ (List.mem_of_getElem? (l := lw_privs_1) (i := 9) (by rfl))) (by rfl)
theorem tw_275 : Cond.code yX0_creep cX0_creep 2 none ∈ lw_tg := tg_of (mt_1 _ (List.mem_of_getElem? (i := 211) (by rfl))) (by rfl)
theorem tw_276 : Cond.methodLink RX0 74 yX0_molten ∈ lw_tg := tg_of (mt_1 _ (List.mem_of_getElem? (i := 212) (by rfl))) (by rfl)
theorem tw_277 : Cond.instanceMethod yX0_molten ∈ lw_tg := tg_of (mt_1 _ (List.mem_of_getElem? (i := 214) (by rfl))) (by rfl)
theorem tw_278 : Cond.selects RX0 yX0_molten yX0_molten ∈ lw_tg := tg_of (mp_1 _ (List.mem_of_getElem? (l := lw_privs_1) (i := 10) (by rfl))) (by rfl)
theorem tw_279 : Cond.code yX0_molten cX0_molten 3 (some .int) ∈ lw_tg := tg_of (mt_1 _ (List.mem_of_getElem? (i := 215) (by rfl))) (by rfl)
theorem tw_280 : Cond.methodLink RX0 106 yX0_meltingHeat ∈ lw_tg := tg_of (mt_1 _ (List.mem_of_getElem? (i := 216) (by rfl))) (by rfl)
theorem tw_281 : Cond.instanceMethod yX0_meltingHeat ∈ lw_tg := tg_of (mt_1 _ (List.mem_of_getElem? (i := 218) (by rfl))) (by rfl)
theorem tw_282 : Cond.selects RX0 yX0_meltingHeat yX0_meltingHeat ∈ lw_tg := tg_of (mp_1 _ (List.mem_of_getElem? (l := lw_privs_1) (i := 11) (by rfl))) (by rfl)
theorem tw_283 : Cond.code yX0_meltingHeat cX0_meltingHeat 4 (some .int) ∈ lw_tg := tg_of (mt_1 _ (List.mem_of_getElem? (i := 219) (by rfl))) (by rfl)
theorem tw_284 : Cond.methodLink RX0 127 yX0_heatFactor ∈ lw_tg := tg_of (mt_1 _ (List.mem_of_getElem? (i := 220) (by rfl))) (by rfl)
theorem tw_285 : Cond.static yX0_heatFactor ∈ lw_tg := tg_of (mt_1 _ (List.mem_of_getElem? (i := 221) (by rfl))) (by rfl)
theorem tw_286 : Cond.code yX0_heatFactor cX0_heatFactor 1 (some .int) ∈ lw_tg := tg_of (mt_1 _ (List.mem_of_getElem? (i := 222) (by rfl))) (by rfl)
theorem tw_287 : Cond.methodLink RX0 77 yX0_nearestOf ∈ lw_tg := tg_of (mt_1 _ (List.mem_of_getElem? (i := 223) (by rfl))) (by rfl)
theorem tw_288 : Cond.instanceMethod yX0_nearestOf ∈ lw_tg := tg_of (mt_1 _ (List.mem_of_getElem? (i := 225) (by rfl))) (by rfl)
theorem tw_289 : Cond.selects RX0 yX0_nearestOf yX0_nearestOf ∈ lw_tg := tg_of (mp_1 _ (List.mem_of_getElem? (l := lw_privs_1) (i := 12) (by rfl))) (by rfl)
theorem tw_290 : Cond.code yX0_nearestOf cX0_nearestOf 5 (some .int) ∈ lw_tg := tg_of (mt_1 _ (List.mem_of_getElem? (i := 226) (by rfl))) (by rfl)
theorem tw_291 : Cond.methodLink RX0 109 yX0_fedThrough ∈ lw_tg := tg_of (mt_1 _ (List.mem_of_getElem? (i := 227) (by rfl))) (by rfl)
theorem tw_292 : Cond.instanceMethod yX0_fedThrough ∈ lw_tg := tg_of (mt_1 _ (List.mem_of_getElem? (i := 228) (by rfl))) (by rfl)
theorem tw_293 : Cond.selects RX0 yX0_fedThrough yX0_fedThrough ∈ lw_tg := tg_of (mt_1 _ (List.mem_of_getElem? (i := 229) (by rfl))) (by rfl)
theorem tw_294 : Cond.code yX0_fedThrough cX0_fedThrough 4 (some .int) ∈ lw_tg := tg_of (mt_1 _ (List.mem_of_getElem? (i := 230) (by rfl))) (by rfl)
theorem tw_295 : Cond.methodLink RX0 80 yX0_blow ∈ lw_tg := tg_of (mt_1 _ (List.mem_of_getElem? (i := 231) (by rfl))) (by rfl)
theorem tw_296 : Cond.instanceMethod yX0_blow ∈ lw_tg := tg_of (mt_1 _ (List.mem_of_getElem? (i := 233) (by rfl))) (by rfl)
theorem tw_297 : Cond.selects RX0 yX0_blow yX0_blow ∈ lw_tg := tg_of (mp_1 _ (List.mem_of_getElem? (l := lw_privs_1) (i := 13) (by rfl))) (by rfl)
theorem tw_298 : Cond.code yX0_blow cX0_blow 2 none ∈ lw_tg := tg_of (mt_1 _ (List.mem_of_getElem? (i := 234) (by rfl))) (by rfl)
theorem tw_299 : Cond.methodLink RX0 49 yJ6_bitCount_0f7a4 ∈ lw_tg := tg_of (mt_1 _ (List.mem_of_getElem? (i := 235) (by rfl))) (by rfl)
theorem tw_300 : Cond.static yJ6_bitCount_0f7a4 ∈ lw_tg := tg_of (mt_1 _ (List.mem_of_getElem? (i := 236) (by rfl))) (by rfl)
theorem tw_301 : Cond.initialized RJ6 ∈ lw_tg := tg_of (mt_1 _ (List.mem_of_getElem? (i := 8) (by rfl))) (by rfl)
theorem tw_302 : Cond.code yJ6_bitCount_0f7a4 cJ6_bitCount_0f7a4 1 (some .int) ∈ lw_tg := tg_of (mt_1 _ (List.mem_of_getElem? (i := 237) (by rfl))) (by rfl)
theorem tw_303 : Cond.constant RJ6 265 (1431655765) ∈ lw_tg := tg_of (mt_1 _ (List.mem_of_getElem? (i := 238) (by rfl))) (by rfl)
theorem tw_304 : Cond.constant RJ6 266 (858993459) ∈ lw_tg := tg_of (mt_1 _ (List.mem_of_getElem? (i := 239) (by rfl))) (by rfl)
theorem tw_305 : Cond.constant RJ6 267 (252645135) ∈ lw_tg := tg_of (mt_2 _ (List.mem_of_getElem? (i := 0) (by rfl))) (by rfl)
theorem tw_306 : Cond.methodLink RL 39 yX3_pass ∈ lw_tg := tg_of (mt_3 _ (List.mem_of_getElem? (i := 130) (by rfl))) (by rfl)
theorem tw_307 : Cond.instanceMethod yX3_pass ∈ lw_tg := tg_of (mt_3 _ (List.mem_of_getElem? (i := 131) (by rfl))) (by rfl)
theorem tw_308 : Cond.selects RX3 yX3_pass yX3_pass ∈ lw_tg := tg_of (mt_3 _ (List.mem_of_getElem? (i := 132) (by rfl))) (by rfl)
theorem tw_309 : Cond.code yX3_pass cX3_pass 3 (some .int) ∈ lw_tg := tg_of (mt_3 _ (List.mem_of_getElem? (i := 133) (by rfl))) (by rfl)
theorem tw_310 : Cond.methodLink RX3 146 yX3_passError ∈ lw_tg := tg_of (mt_3 _ (List.mem_of_getElem? (i := 134) (by rfl))) (by rfl)
theorem tw_311 : Cond.instanceMethod yX3_passError ∈ lw_tg := tg_of (mt_3 _ (List.mem_of_getElem? (i := 136) (by rfl))) (by rfl)
theorem tw_312 : Cond.selects RX3 yX3_passError yX3_passError ∈ lw_tg := tg_of (mp_3 _ (List.mem_of_getElem? (l := lw_privs_3) (i := 9) (by rfl))) (by rfl)
theorem tw_313 : Cond.code yX3_passError cX3_passError 2 (some .int) ∈ lw_tg := tg_of (mt_3 _ (List.mem_of_getElem? (i := 137) (by rfl))) (by rfl)
theorem tw_314 : Cond.constantLong RX3 105 (99) ∈ lw_tg := tg_of (mt_3 _ (List.mem_of_getElem? (i := 138) (by rfl))) (by rfl)
theorem tw_315 : Cond.methodLink RX3 149 yX3_ticks ∈ lw_tg := tg_of (mt_3 _ (List.mem_of_getElem? (i := 139) (by rfl))) (by rfl)
theorem tw_316 : Cond.instanceMethod yX3_ticks ∈ lw_tg := tg_of (mt_3 _ (List.mem_of_getElem? (i := 141) (by rfl))) (by rfl)
theorem tw_317 : Cond.selects RX3 yX3_ticks yX3_ticks ∈ lw_tg := tg_of (mp_3 _ (List.mem_of_getElem? (l := lw_privs_3) (i := 10) (by rfl))) (by rfl)
theorem tw_318 : Cond.code yX3_ticks cX3_ticks 5 (some .int) ∈ lw_tg := tg_of (mt_3 _ (List.mem_of_getElem? (i := 142) (by rfl))) (by rfl)
theorem tw_319 : Cond.methodLink RX3 78 yX3_tick ∈ lw_tg := tg_of (mt_3 _ (List.mem_of_getElem? (i := 143) (by rfl))) (by rfl)
theorem tw_320 : Cond.instanceMethod yX3_tick ∈ lw_tg := tg_of (mt_3 _ (List.mem_of_getElem? (i := 145) (by rfl))) (by rfl)
theorem tw_321 : Cond.selects RX3 yX3_tick yX3_tick ∈ lw_tg := tg_of (mp_3 _ (List.mem_of_getElem? (l := lw_privs_3) (i := 11) (by rfl))) (by rfl)
theorem tw_322 : Cond.code yX3_tick cX3_tick 5 (some .int) ∈ lw_tg := tg_of (mt_3 _ (List.mem_of_getElem? (i := 146) (by rfl))) (by rfl)
theorem tw_323 : Cond.methodLink RX3 60 yX3_current ∈ lw_tg := tg_of (mt_3 _ (List.mem_of_getElem? (i := 147) (by rfl))) (by rfl)
theorem tw_324 : Cond.instanceMethod yX3_current ∈ lw_tg := tg_of (mt_3 _ (List.mem_of_getElem? (i := 149) (by rfl))) (by rfl)
theorem tw_325 : Cond.selects RX3 yX3_current yX3_current ∈ lw_tg := tg_of (mp_3 _ (List.mem_of_getElem? (l := lw_privs_3) (i := 12) (by rfl))) (by rfl)
theorem tw_326 : Cond.code yX3_current cX3_current 6 (some .int) ∈ lw_tg := tg_of (mt_3 _ (List.mem_of_getElem? (i := 150) (by rfl))) (by rfl)
theorem tw_327 : Cond.fieldLink RX3 52 "FuseBoardsModel" "faultCurrent" "I" ∈ lw_tg := tg_of (mt_3 _ (List.mem_of_getElem? (i := 1) (by rfl))) (by rfl)
theorem tw_328 : Cond.methodLink RX3 44 yX3_isFed ∈ lw_tg := tg_of (mt_3 _ (List.mem_of_getElem? (i := 151) (by rfl))) (by rfl)
theorem tw_329 : Cond.instanceMethod yX3_isFed ∈ lw_tg := tg_of (mt_3 _ (List.mem_of_getElem? (i := 153) (by rfl))) (by rfl)
theorem tw_330 : Cond.selects RX3 yX3_isFed yX3_isFed ∈ lw_tg := tg_of (mp_3 _ (List.mem_of_getElem? (l := lw_privs_3) (i := 13) (by rfl))) (by rfl)
theorem tw_331 : Cond.code yX3_isFed cX3_isFed 6 (some .boolean) ∈ lw_tg := tg_of (mt_3 _ (List.mem_of_getElem? (i := 154) (by rfl))) (by rfl)
theorem tw_332 : Cond.methodLink RX3 48 yX3_isDead ∈ lw_tg := tg_of (mt_3 _ (List.mem_of_getElem? (i := 155) (by rfl))) (by rfl)
theorem tw_333 : Cond.instanceMethod yX3_isDead ∈ lw_tg := tg_of (mt_3 _ (List.mem_of_getElem? (i := 157) (by rfl))) (by rfl)
theorem tw_334 : Cond.selects RX3 yX3_isDead yX3_isDead ∈ lw_tg := tg_of (mp_3 _ (List.mem_of_getElem? (l := lw_privs_3) (i := 14) (by rfl))) (by rfl)
theorem tw_335 : Cond.code yX3_isDead cX3_isDead 5 (some .boolean) ∈ lw_tg := tg_of (mt_3 _ (List.mem_of_getElem? (i := 158) (by rfl))) (by rfl)
theorem tw_336 : Cond.methodLink RX3 63 yX3_burns ∈ lw_tg := tg_of (mt_3 _ (List.mem_of_getElem? (i := 159) (by rfl))) (by rfl)
theorem tw_337 : Cond.instanceMethod yX3_burns ∈ lw_tg := tg_of (mt_3 _ (List.mem_of_getElem? (i := 161) (by rfl))) (by rfl)
theorem tw_338 : Cond.selects RX3 yX3_burns yX3_burns ∈ lw_tg := tg_of (mp_3 _ (List.mem_of_getElem? (l := lw_privs_3) (i := 15) (by rfl))) (by rfl)
theorem tw_339 : Cond.code yX3_burns cX3_burns 4 none ∈ lw_tg := tg_of (mt_3 _ (List.mem_of_getElem? (i := 162) (by rfl))) (by rfl)
theorem tw_340 : Cond.methodLink RX3 66 yX3_heats ∈ lw_tg := tg_of (mt_3 _ (List.mem_of_getElem? (i := 163) (by rfl))) (by rfl)
theorem tw_341 : Cond.instanceMethod yX3_heats ∈ lw_tg := tg_of (mt_3 _ (List.mem_of_getElem? (i := 165) (by rfl))) (by rfl)
theorem tw_342 : Cond.selects RX3 yX3_heats yX3_heats ∈ lw_tg := tg_of (mp_4 _ (List.mem_of_getElem? (l := lw_privs_4) (i := 0) (by rfl))) (by rfl)
theorem tw_343 : Cond.code yX3_heats cX3_heats 7 none ∈ lw_tg := tg_of (mt_3 _ (List.mem_of_getElem? (i := 166) (by rfl))) (by rfl)
theorem tw_344 : Cond.constant RX3 55 (1000000) ∈ lw_tg := tg_of (mt_3 _ (List.mem_of_getElem? (i := 167) (by rfl))) (by rfl)
theorem tw_345 : Cond.methodLink RX3 69 yX3_meltingHeat ∈ lw_tg := tg_of (mt_3 _ (List.mem_of_getElem? (i := 168) (by rfl))) (by rfl)
theorem tw_346 : Cond.instanceMethod yX3_meltingHeat ∈ lw_tg := tg_of (mt_3 _ (List.mem_of_getElem? (i := 170) (by rfl))) (by rfl)
theorem tw_347 : Cond.selects RX3 yX3_meltingHeat yX3_meltingHeat ∈ lw_tg := tg_of (mp_4 _ (List.mem_of_getElem? (l := lw_privs_4) (i := 1) (by rfl))) (by rfl)
theorem tw_348 : Cond.code yX3_meltingHeat cX3_meltingHeat 6 (some .int) ∈ lw_tg := tg_of (mt_3 _ (List.mem_of_getElem? (i := 171) (by rfl))) (by rfl)
theorem tw_349 : Cond.methodLink RX3 72 yX3_isNearest ∈ lw_tg := tg_of (mt_3 _ (List.mem_of_getElem? (i := 172) (by rfl))) (by rfl)
theorem tw_350 : Cond.instanceMethod yX3_isNearest ∈ lw_tg := tg_of (mt_3 _ (List.mem_of_getElem? (i := 174) (by rfl))) (by rfl)
theorem tw_351 : Cond.selects RX3 yX3_isNearest yX3_isNearest ∈ lw_tg := tg_of (mp_4 _ (List.mem_of_getElem? (l := lw_privs_4) (i := 2) (by rfl))) (by rfl)
theorem tw_352 : Cond.code yX3_isNearest cX3_isNearest 5 (some .boolean) ∈ lw_tg := tg_of (mt_3 _ (List.mem_of_getElem? (i := 175) (by rfl))) (by rfl)
theorem tw_353 : Cond.methodLink RX3 75 yX3_blows ∈ lw_tg := tg_of (mt_3 _ (List.mem_of_getElem? (i := 176) (by rfl))) (by rfl)
theorem tw_354 : Cond.instanceMethod yX3_blows ∈ lw_tg := tg_of (mt_3 _ (List.mem_of_getElem? (i := 178) (by rfl))) (by rfl)
theorem tw_355 : Cond.selects RX3 yX3_blows yX3_blows ∈ lw_tg := tg_of (mp_4 _ (List.mem_of_getElem? (l := lw_privs_4) (i := 3) (by rfl))) (by rfl)
theorem tw_356 : Cond.code yX3_blows cX3_blows 5 none ∈ lw_tg := tg_of (mt_3 _ (List.mem_of_getElem? (i := 179) (by rfl))) (by rfl)
theorem tw_357 : Cond.methodLink RX3 56 yX3_flag ∈ lw_tg := tg_of (mt_3 _ (List.mem_of_getElem? (i := 180) (by rfl))) (by rfl)
theorem tw_358 : Cond.static yX3_flag ∈ lw_tg := tg_of (mt_3 _ (List.mem_of_getElem? (i := 181) (by rfl))) (by rfl)
theorem tw_359 : Cond.code yX3_flag cX3_flag 1 (some .int) ∈ lw_tg := tg_of (mt_3 _ (List.mem_of_getElem? (i := 182) (by rfl))) (by rfl)
theorem tw_360 : Cond.methodLink RX3 82 yX3_ones ∈ lw_tg := tg_of (mt_3 _ (List.mem_of_getElem? (i := 183) (by rfl))) (by rfl)
theorem tw_361 : Cond.static yX3_ones ∈ lw_tg := tg_of (mt_3 _ (List.mem_of_getElem? (i := 184) (by rfl))) (by rfl)
theorem tw_362 : Cond.code yX3_ones cX3_ones 3 (some .int) ∈ lw_tg := tg_of (mt_3 _ (List.mem_of_getElem? (i := 185) (by rfl))) (by rfl)
theorem tw_363 : Cond.methodLink RL 40 yX2_of ∈ lw_tg := tg_of (mt_2 _ (List.mem_of_getElem? (i := 1) (by rfl))) (by rfl)
theorem tw_364 : Cond.instanceMethod yX2_of ∈ lw_tg := tg_of (mt_2 _ (List.mem_of_getElem? (i := 2) (by rfl))) (by rfl)
theorem tw_365 : Cond.selects RX2 yX2_of yX2_of ∈ lw_tg := tg_of (mt_2 _ (List.mem_of_getElem? (i := 3) (by rfl))) (by rfl)
theorem tw_366 : Cond.code yX2_of cX2_of 3 (some .int) ∈ lw_tg := tg_of (mt_2 _ (List.mem_of_getElem? (i := 4) (by rfl))) (by rfl)
theorem tw_367 : Cond.methodLink RX2 72 yX0_isBoard ∈ lw_tg := tg_of (mt_2 _ (List.mem_of_getElem? (i := 5) (by rfl))) (by rfl)
theorem tw_368 : Cond.methodLink RX2 76 yX0_aboutBoard ∈ lw_tg := tg_of (mt_2 _ (List.mem_of_getElem? (i := 6) (by rfl))) (by rfl)
theorem tw_369 : Cond.instanceMethod yX0_aboutBoard ∈ lw_tg := tg_of (mt_2 _ (List.mem_of_getElem? (i := 7) (by rfl))) (by rfl)
theorem tw_370 : Cond.selects RX0 yX0_aboutBoard yX0_aboutBoard ∈ lw_tg := tg_of (mt_2 _ (List.mem_of_getElem? (i := 8) (by rfl))) (by rfl)
theorem tw_371 : Cond.code yX0_aboutBoard cX0_aboutBoard 3 (some .int) ∈ lw_tg := tg_of (mt_2 _ (List.mem_of_getElem? (i := 9) (by rfl))) (by rfl)
theorem tw_372 : Cond.methodLink RX0 112 yX0_current ∈ lw_tg := tg_of (mt_2 _ (List.mem_of_getElem? (i := 10) (by rfl))) (by rfl)
theorem tw_373 : Cond.instanceMethod yX0_current ∈ lw_tg := tg_of (mt_2 _ (List.mem_of_getElem? (i := 12) (by rfl))) (by rfl)
theorem tw_374 : Cond.selects RX0 yX0_current yX0_current ∈ lw_tg := tg_of (mp_1 _ (List.mem_of_getElem? (l := lw_privs_1) (i := 14) (by rfl))) (by rfl)
theorem tw_375 : Cond.code yX0_current cX0_current 2 (some .int) ∈ lw_tg := tg_of (mt_2 _ (List.mem_of_getElem? (i := 13) (by rfl))) (by rfl)
theorem tw_376 : Cond.methodLink RX0 115 yX0_boardsAhead ∈ lw_tg := tg_of (mt_2 _ (List.mem_of_getElem? (i := 14) (by rfl))) (by rfl)
theorem tw_377 : Cond.instanceMethod yX0_boardsAhead ∈ lw_tg := tg_of (mt_2 _ (List.mem_of_getElem? (i := 16) (by rfl))) (by rfl)
theorem tw_378 : Cond.selects RX0 yX0_boardsAhead yX0_boardsAhead ∈ lw_tg := tg_of (mp_1 _ (List.mem_of_getElem? (l := lw_privs_1) (i := 15) (by rfl))) (by rfl)
theorem tw_379 : Cond.code yX0_boardsAhead cX0_boardsAhead 5 (some .int) ∈ lw_tg := tg_of (mt_2 _ (List.mem_of_getElem? (i := 17) (by rfl))) (by rfl)
theorem tw_380 : Cond.methodLink RL 43 yX3_of ∈ lw_tg := tg_of (mt_3 _ (List.mem_of_getElem? (i := 186) (by rfl))) (by rfl)
theorem tw_381 : Cond.instanceMethod yX3_of ∈ lw_tg := tg_of (mt_3 _ (List.mem_of_getElem? (i := 187) (by rfl))) (by rfl)
theorem tw_382 : Cond.selects RX3 yX3_of yX3_of ∈ lw_tg := tg_of (mt_3 _ (List.mem_of_getElem? (i := 188) (by rfl))) (by rfl)
theorem tw_383 : Cond.code yX3_of cX3_of 4 (some .int) ∈ lw_tg := tg_of (mt_3 _ (List.mem_of_getElem? (i := 189) (by rfl))) (by rfl)
theorem tw_384 : Cond.methodLink RX3 152 yX3_depth ∈ lw_tg := tg_of (mt_3 _ (List.mem_of_getElem? (i := 190) (by rfl))) (by rfl)
theorem tw_385 : Cond.instanceMethod yX3_depth ∈ lw_tg := tg_of (mt_3 _ (List.mem_of_getElem? (i := 192) (by rfl))) (by rfl)
theorem tw_386 : Cond.selects RX3 yX3_depth yX3_depth ∈ lw_tg := tg_of (mp_4 _ (List.mem_of_getElem? (l := lw_privs_4) (i := 4) (by rfl))) (by rfl)
theorem tw_387 : Cond.code yX3_depth cX3_depth 4 (some .int) ∈ lw_tg := tg_of (mt_3 _ (List.mem_of_getElem? (i := 193) (by rfl))) (by rfl)
theorem tw_388 : Cond.methodLink RL 44 yX2_ofLoad ∈ lw_tg := tg_of (mt_2 _ (List.mem_of_getElem? (i := 18) (by rfl))) (by rfl)
theorem tw_389 : Cond.instanceMethod yX2_ofLoad ∈ lw_tg := tg_of (mt_2 _ (List.mem_of_getElem? (i := 19) (by rfl))) (by rfl)
theorem tw_390 : Cond.selects RX2 yX2_ofLoad yX2_ofLoad ∈ lw_tg := tg_of (mt_2 _ (List.mem_of_getElem? (i := 20) (by rfl))) (by rfl)
theorem tw_391 : Cond.code yX2_ofLoad cX2_ofLoad 3 (some .int) ∈ lw_tg := tg_of (mt_2 _ (List.mem_of_getElem? (i := 21) (by rfl))) (by rfl)
theorem tw_392 : Cond.methodLink RX2 79 yX0_isLoad ∈ lw_tg := tg_of (mt_2 _ (List.mem_of_getElem? (i := 22) (by rfl))) (by rfl)
theorem tw_393 : Cond.methodLink RX2 82 yX0_aboutLoad ∈ lw_tg := tg_of (mt_2 _ (List.mem_of_getElem? (i := 23) (by rfl))) (by rfl)
theorem tw_394 : Cond.instanceMethod yX0_aboutLoad ∈ lw_tg := tg_of (mt_2 _ (List.mem_of_getElem? (i := 24) (by rfl))) (by rfl)
theorem tw_395 : Cond.selects RX0 yX0_aboutLoad yX0_aboutLoad ∈ lw_tg := tg_of (mt_2 _ (List.mem_of_getElem? (i := 25) (by rfl))) (by rfl)
theorem tw_396 : Cond.code yX0_aboutLoad cX0_aboutLoad 3 (some .int) ∈ lw_tg := tg_of (mt_2 _ (List.mem_of_getElem? (i := 26) (by rfl))) (by rfl)
theorem tw_397 : Cond.methodLink RX0 118 yX0_allBoards ∈ lw_tg := tg_of (mt_2 _ (List.mem_of_getElem? (i := 27) (by rfl))) (by rfl)
theorem tw_398 : Cond.instanceMethod yX0_allBoards ∈ lw_tg := tg_of (mt_2 _ (List.mem_of_getElem? (i := 29) (by rfl))) (by rfl)
theorem tw_399 : Cond.selects RX0 yX0_allBoards yX0_allBoards ∈ lw_tg := tg_of (mp_2 _ (List.mem_of_getElem? (l := lw_privs_2) (i := 0) (by rfl))) (by rfl)
theorem tw_400 : Cond.code yX0_allBoards cX0_allBoards 1 (some .int) ∈ lw_tg := tg_of (mt_2 _ (List.mem_of_getElem? (i := 30) (by rfl))) (by rfl)
theorem tw_401 : Cond.methodLink RX0 121 yX0_workingLoadsAt ∈ lw_tg := tg_of (mt_2 _ (List.mem_of_getElem? (i := 31) (by rfl))) (by rfl)
theorem tw_402 : Cond.instanceMethod yX0_workingLoadsAt ∈ lw_tg := tg_of (mt_2 _ (List.mem_of_getElem? (i := 32) (by rfl))) (by rfl)
theorem tw_403 : Cond.selects RX0 yX0_workingLoadsAt yX0_workingLoadsAt ∈ lw_tg := tg_of (mt_2 _ (List.mem_of_getElem? (i := 33) (by rfl))) (by rfl)
theorem tw_404 : Cond.code yX0_workingLoadsAt cX0_workingLoadsAt 5 (some .int) ∈ lw_tg := tg_of (mt_2 _ (List.mem_of_getElem? (i := 34) (by rfl))) (by rfl)
theorem tw_405 : Cond.methodLink RL 47 yX3_ofLoad ∈ lw_tg := tg_of (mt_3 _ (List.mem_of_getElem? (i := 194) (by rfl))) (by rfl)
theorem tw_406 : Cond.instanceMethod yX3_ofLoad ∈ lw_tg := tg_of (mt_3 _ (List.mem_of_getElem? (i := 195) (by rfl))) (by rfl)
theorem tw_407 : Cond.selects RX3 yX3_ofLoad yX3_ofLoad ∈ lw_tg := tg_of (mt_3 _ (List.mem_of_getElem? (i := 196) (by rfl))) (by rfl)
theorem tw_408 : Cond.code yX3_ofLoad cX3_ofLoad 3 (some .int) ∈ lw_tg := tg_of (mt_3 _ (List.mem_of_getElem? (i := 197) (by rfl))) (by rfl)
theorem tw_409 : Cond.methodLink RX3 155 yX3_works ∈ lw_tg := tg_of (mt_3 _ (List.mem_of_getElem? (i := 198) (by rfl))) (by rfl)
theorem tw_410 : Cond.instanceMethod yX3_works ∈ lw_tg := tg_of (mt_3 _ (List.mem_of_getElem? (i := 200) (by rfl))) (by rfl)
theorem tw_411 : Cond.selects RX3 yX3_works yX3_works ∈ lw_tg := tg_of (mp_4 _ (List.mem_of_getElem? (l := lw_privs_4) (i := 5) (by rfl))) (by rfl)
theorem tw_412 : Cond.code yX3_works cX3_works 2 (some .boolean) ∈ lw_tg := tg_of (mt_3 _ (List.mem_of_getElem? (i := 201) (by rfl))) (by rfl)
theorem tw_413 : Cond.methodLink RL 48 yX2_fed ∈ lw_tg := tg_of (mt_2 _ (List.mem_of_getElem? (i := 35) (by rfl))) (by rfl)
theorem tw_414 : Cond.instanceMethod yX2_fed ∈ lw_tg := tg_of (mt_2 _ (List.mem_of_getElem? (i := 36) (by rfl))) (by rfl)
theorem tw_415 : Cond.selects RX2 yX2_fed yX2_fed ∈ lw_tg := tg_of (mt_2 _ (List.mem_of_getElem? (i := 37) (by rfl))) (by rfl)
theorem tw_416 : Cond.code yX2_fed cX2_fed 2 (some .int) ∈ lw_tg := tg_of (mt_2 _ (List.mem_of_getElem? (i := 38) (by rfl))) (by rfl)
theorem tw_417 : Cond.methodLink RX2 85 yX0_fedThrough ∈ lw_tg := tg_of (mt_2 _ (List.mem_of_getElem? (i := 39) (by rfl))) (by rfl)
theorem tw_418 : Cond.methodLink RL 51 yX3_fed ∈ lw_tg := tg_of (mt_3 _ (List.mem_of_getElem? (i := 202) (by rfl))) (by rfl)
theorem tw_419 : Cond.instanceMethod yX3_fed ∈ lw_tg := tg_of (mt_3 _ (List.mem_of_getElem? (i := 203) (by rfl))) (by rfl)
theorem tw_420 : Cond.selects RX3 yX3_fed yX3_fed ∈ lw_tg := tg_of (mt_3 _ (List.mem_of_getElem? (i := 204) (by rfl))) (by rfl)
theorem tw_421 : Cond.code yX3_fed cX3_fed 4 (some .int) ∈ lw_tg := tg_of (mt_3 _ (List.mem_of_getElem? (i := 205) (by rfl))) (by rfl)
theorem tw_422 : Cond.methodLink RL 52 yX2_blown ∈ lw_tg := tg_of (mt_2 _ (List.mem_of_getElem? (i := 40) (by rfl))) (by rfl)
theorem tw_423 : Cond.instanceMethod yX2_blown ∈ lw_tg := tg_of (mt_2 _ (List.mem_of_getElem? (i := 41) (by rfl))) (by rfl)
theorem tw_424 : Cond.selects RX2 yX2_blown yX2_blown ∈ lw_tg := tg_of (mt_2 _ (List.mem_of_getElem? (i := 42) (by rfl))) (by rfl)
theorem tw_425 : Cond.code yX2_blown cX2_blown 2 (some .int) ∈ lw_tg := tg_of (mt_2 _ (List.mem_of_getElem? (i := 43) (by rfl))) (by rfl)
theorem tw_426 : Cond.methodLink RX2 88 yX0_latestBlown ∈ lw_tg := tg_of (mt_2 _ (List.mem_of_getElem? (i := 44) (by rfl))) (by rfl)
theorem tw_427 : Cond.instanceMethod yX0_latestBlown ∈ lw_tg := tg_of (mt_2 _ (List.mem_of_getElem? (i := 45) (by rfl))) (by rfl)
theorem tw_428 : Cond.selects RX0 yX0_latestBlown yX0_latestBlown ∈ lw_tg := tg_of (mt_2 _ (List.mem_of_getElem? (i := 46) (by rfl))) (by rfl)
theorem tw_429 : Cond.code yX0_latestBlown cX0_latestBlown 2 (some .int) ∈ lw_tg := tg_of (mt_2 _ (List.mem_of_getElem? (i := 47) (by rfl))) (by rfl)
theorem tw_430 : Cond.methodLink RL 55 yX3_blown ∈ lw_tg := tg_of (mt_3 _ (List.mem_of_getElem? (i := 206) (by rfl))) (by rfl)
theorem tw_431 : Cond.instanceMethod yX3_blown ∈ lw_tg := tg_of (mt_3 _ (List.mem_of_getElem? (i := 207) (by rfl))) (by rfl)
theorem tw_432 : Cond.selects RX3 yX3_blown yX3_blown ∈ lw_tg := tg_of (mt_3 _ (List.mem_of_getElem? (i := 208) (by rfl))) (by rfl)
theorem tw_433 : Cond.code yX3_blown cX3_blown 2 (some .int) ∈ lw_tg := tg_of (mt_3 _ (List.mem_of_getElem? (i := 209) (by rfl))) (by rfl)
theorem tw_434 : Cond.methodLink RL 56 yX2_count ∈ lw_tg := tg_of (mt_2 _ (List.mem_of_getElem? (i := 48) (by rfl))) (by rfl)
theorem tw_435 : Cond.instanceMethod yX2_count ∈ lw_tg := tg_of (mt_2 _ (List.mem_of_getElem? (i := 49) (by rfl))) (by rfl)
theorem tw_436 : Cond.selects RX2 yX2_count yX2_count ∈ lw_tg := tg_of (mt_2 _ (List.mem_of_getElem? (i := 50) (by rfl))) (by rfl)
theorem tw_437 : Cond.code yX2_count cX2_count 2 (some .int) ∈ lw_tg := tg_of (mt_2 _ (List.mem_of_getElem? (i := 51) (by rfl))) (by rfl)
theorem tw_438 : Cond.methodLink RX2 91 yX1_length ∈ lw_tg := tg_of (mt_2 _ (List.mem_of_getElem? (i := 52) (by rfl))) (by rfl)
theorem tw_439 : Cond.instanceMethod yX1_length ∈ lw_tg := tg_of (mt_2 _ (List.mem_of_getElem? (i := 53) (by rfl))) (by rfl)
theorem tw_440 : Cond.selects RX1 yX1_length yX1_length ∈ lw_tg := tg_of (mt_2 _ (List.mem_of_getElem? (i := 54) (by rfl))) (by rfl)
theorem tw_441 : Cond.code yX1_length cX1_length 1 (some .int) ∈ lw_tg := tg_of (mt_2 _ (List.mem_of_getElem? (i := 55) (by rfl))) (by rfl)
theorem tw_442 : Cond.methodLink RX2 95 yX0_aboutHouse ∈ lw_tg := tg_of (mt_2 _ (List.mem_of_getElem? (i := 56) (by rfl))) (by rfl)
theorem tw_443 : Cond.instanceMethod yX0_aboutHouse ∈ lw_tg := tg_of (mt_2 _ (List.mem_of_getElem? (i := 57) (by rfl))) (by rfl)
theorem tw_444 : Cond.selects RX0 yX0_aboutHouse yX0_aboutHouse ∈ lw_tg := tg_of (mt_2 _ (List.mem_of_getElem? (i := 58) (by rfl))) (by rfl)
theorem tw_445 : Cond.code yX0_aboutHouse cX0_aboutHouse 2 (some .int) ∈ lw_tg := tg_of (mt_2 _ (List.mem_of_getElem? (i := 59) (by rfl))) (by rfl)
theorem tw_446 : Cond.methodLink RX0 124 yX0_burningBoards ∈ lw_tg := tg_of (mt_2 _ (List.mem_of_getElem? (i := 60) (by rfl))) (by rfl)
theorem tw_447 : Cond.instanceMethod yX0_burningBoards ∈ lw_tg := tg_of (mt_2 _ (List.mem_of_getElem? (i := 62) (by rfl))) (by rfl)
theorem tw_448 : Cond.selects RX0 yX0_burningBoards yX0_burningBoards ∈ lw_tg := tg_of (mp_2 _ (List.mem_of_getElem? (l := lw_privs_2) (i := 1) (by rfl))) (by rfl)
theorem tw_449 : Cond.code yX0_burningBoards cX0_burningBoards 3 (some .int) ∈ lw_tg := tg_of (mt_2 _ (List.mem_of_getElem? (i := 63) (by rfl))) (by rfl)
theorem tw_450 : Cond.methodLink RL 59 yX3_count ∈ lw_tg := tg_of (mt_3 _ (List.mem_of_getElem? (i := 210) (by rfl))) (by rfl)
theorem tw_451 : Cond.instanceMethod yX3_count ∈ lw_tg := tg_of (mt_3 _ (List.mem_of_getElem? (i := 211) (by rfl))) (by rfl)
theorem tw_452 : Cond.selects RX3 yX3_count yX3_count ∈ lw_tg := tg_of (mt_3 _ (List.mem_of_getElem? (i := 212) (by rfl))) (by rfl)
theorem tw_453 : Cond.code yX3_count cX3_count 2 (some .int) ∈ lw_tg := tg_of (mt_3 _ (List.mem_of_getElem? (i := 213) (by rfl))) (by rfl)
theorem tw_454 : Cond.fieldLink RX3 165 "FuseBoardsModel" "typed" "I" ∈ lw_tg := tg_of (mt_2 _ (List.mem_of_getElem? (i := 239) (by rfl))) (by rfl)
theorem tw_455 : Cond.methodLink RX3 158 yX3_boards ∈ lw_tg := tg_of (mt_3 _ (List.mem_of_getElem? (i := 214) (by rfl))) (by rfl)
theorem tw_456 : Cond.instanceMethod yX3_boards ∈ lw_tg := tg_of (mt_3 _ (List.mem_of_getElem? (i := 216) (by rfl))) (by rfl)
theorem tw_457 : Cond.selects RX3 yX3_boards yX3_boards ∈ lw_tg := tg_of (mp_4 _ (List.mem_of_getElem? (l := lw_privs_4) (i := 6) (by rfl))) (by rfl)
theorem tw_458 : Cond.code yX3_boards cX3_boards 5 (some .int) ∈ lw_tg := tg_of (mt_3 _ (List.mem_of_getElem? (i := 217) (by rfl))) (by rfl)
theorem tw_459 : Cond.methodLink RX3 161 yX3_working ∈ lw_tg := tg_of (mt_3 _ (List.mem_of_getElem? (i := 218) (by rfl))) (by rfl)
theorem tw_460 : Cond.instanceMethod yX3_working ∈ lw_tg := tg_of (mt_3 _ (List.mem_of_getElem? (i := 220) (by rfl))) (by rfl)
theorem tw_461 : Cond.selects RX3 yX3_working yX3_working ∈ lw_tg := tg_of (mp_4 _ (List.mem_of_getElem? (l := lw_privs_4) (i := 7) (by rfl))) (by rfl)
theorem tw_462 : Cond.code yX3_working cX3_working 3 (some .int) ∈ lw_tg := tg_of (mt_3 _ (List.mem_of_getElem? (i := 221) (by rfl))) (by rfl)
theorem tw_463 : Cond.methodLink RL 60 yX2_next ∈ lw_tg := tg_of (mt_2 _ (List.mem_of_getElem? (i := 64) (by rfl))) (by rfl)
theorem tw_464 : Cond.instanceMethod yX2_next ∈ lw_tg := tg_of (mt_2 _ (List.mem_of_getElem? (i := 65) (by rfl))) (by rfl)
theorem tw_465 : Cond.selects RX2 yX2_next yX2_next ∈ lw_tg := tg_of (mt_2 _ (List.mem_of_getElem? (i := 66) (by rfl))) (by rfl)
theorem tw_466 : Cond.code yX2_next cX2_next 2 (some .int) ∈ lw_tg := tg_of (mt_2 _ (List.mem_of_getElem? (i := 67) (by rfl))) (by rfl)
theorem tw_467 : Cond.methodLink RX2 98 yX2_isTrialQuestion ∈ lw_tg := tg_of (mt_2 _ (List.mem_of_getElem? (i := 68) (by rfl))) (by rfl)
theorem tw_468 : Cond.static yX2_isTrialQuestion ∈ lw_tg := tg_of (mt_2 _ (List.mem_of_getElem? (i := 69) (by rfl))) (by rfl)
theorem tw_469 : Cond.code yX2_isTrialQuestion cX2_isTrialQuestion 1 (some .boolean) ∈ lw_tg := tg_of (mt_2 _ (List.mem_of_getElem? (i := 70) (by rfl))) (by rfl)
theorem tw_470 : Cond.methodLink RX2 101 yX0_copyFrom ∈ lw_tg := tg_of (mt_2 _ (List.mem_of_getElem? (i := 71) (by rfl))) (by rfl)
theorem tw_471 : Cond.instanceMethod yX0_copyFrom ∈ lw_tg := tg_of (mt_2 _ (List.mem_of_getElem? (i := 72) (by rfl))) (by rfl)
theorem tw_472 : Cond.selects RX0 yX0_copyFrom yX0_copyFrom ∈ lw_tg := tg_of (mt_2 _ (List.mem_of_getElem? (i := 73) (by rfl))) (by rfl)
theorem tw_473 : Cond.code yX0_copyFrom cX0_copyFrom 2 none ∈ lw_tg := tg_of (mt_2 _ (List.mem_of_getElem? (i := 74) (by rfl))) (by rfl)
theorem tw_474 : Cond.methodLink RX2 105 yX2_firstBlow ∈ lw_tg := tg_of (mt_2 _ (List.mem_of_getElem? (i := 75) (by rfl))) (by rfl)
theorem tw_475 : Cond.instanceMethod yX2_firstBlow ∈ lw_tg := tg_of (mt_2 _ (List.mem_of_getElem? (i := 77) (by rfl))) (by rfl)
theorem tw_476 : Cond.selects RX2 yX2_firstBlow yX2_firstBlow ∈ lw_tg := tg_of (mp_2 _ (List.mem_of_getElem? (l := lw_privs_2) (i := 2) (by rfl))) (by rfl)
theorem tw_477 : Cond.code yX2_firstBlow cX2_firstBlow 4 (some .int) ∈ lw_tg := tg_of (mt_2 _ (List.mem_of_getElem? (i := 78) (by rfl))) (by rfl)
theorem tw_478 : Cond.methodLink RX2 159 yX0_tick ∈ lw_tg := tg_of (mt_2 _ (List.mem_of_getElem? (i := 79) (by rfl))) (by rfl)
theorem tw_479 : Cond.methodLink RX2 162 yX2_lowest ∈ lw_tg := tg_of (mt_2 _ (List.mem_of_getElem? (i := 80) (by rfl))) (by rfl)
theorem tw_480 : Cond.static yX2_lowest ∈ lw_tg := tg_of (mt_2 _ (List.mem_of_getElem? (i := 81) (by rfl))) (by rfl)
theorem tw_481 : Cond.code yX2_lowest cX2_lowest 2 (some .int) ∈ lw_tg := tg_of (mt_2 _ (List.mem_of_getElem? (i := 82) (by rfl))) (by rfl)
theorem tw_482 : Cond.methodLink RL 63 yX3_next ∈ lw_tg := tg_of (mt_3 _ (List.mem_of_getElem? (i := 222) (by rfl))) (by rfl)
theorem tw_483 : Cond.instanceMethod yX3_next ∈ lw_tg := tg_of (mt_3 _ (List.mem_of_getElem? (i := 223) (by rfl))) (by rfl)
theorem tw_484 : Cond.selects RX3 yX3_next yX3_next ∈ lw_tg := tg_of (mt_3 _ (List.mem_of_getElem? (i := 224) (by rfl))) (by rfl)
theorem tw_485 : Cond.code yX3_next cX3_next 2 (some .int) ∈ lw_tg := tg_of (mt_3 _ (List.mem_of_getElem? (i := 225) (by rfl))) (by rfl)
theorem tw_486 : Cond.methodLink RX3 171 yX3_first ∈ lw_tg := tg_of (mt_3 _ (List.mem_of_getElem? (i := 226) (by rfl))) (by rfl)
theorem tw_487 : Cond.instanceMethod yX3_first ∈ lw_tg := tg_of (mt_3 _ (List.mem_of_getElem? (i := 228) (by rfl))) (by rfl)
theorem tw_488 : Cond.selects RX3 yX3_first yX3_first ∈ lw_tg := tg_of (mp_4 _ (List.mem_of_getElem? (l := lw_privs_4) (i := 8) (by rfl))) (by rfl)
theorem tw_489 : Cond.code yX3_first cX3_first 4 (some .int) ∈ lw_tg := tg_of (mt_3 _ (List.mem_of_getElem? (i := 229) (by rfl))) (by rfl)
theorem tw_490 : Cond.methodLink RX3 168 yX3_lowest ∈ lw_tg := tg_of (mt_3 _ (List.mem_of_getElem? (i := 230) (by rfl))) (by rfl)
theorem tw_491 : Cond.static yX3_lowest ∈ lw_tg := tg_of (mt_3 _ (List.mem_of_getElem? (i := 231) (by rfl))) (by rfl)
theorem tw_492 : Cond.code yX3_lowest cX3_lowest 2 (some .int) ∈ lw_tg := tg_of (mt_3 _ (List.mem_of_getElem? (i := 232) (by rfl))) (by rfl)
theorem tw_493 : Cond.methodLink RL 64 yX2_test ∈ lw_tg := tg_of (mt_2 _ (List.mem_of_getElem? (i := 83) (by rfl))) (by rfl)
theorem tw_494 : Cond.instanceMethod yX2_test ∈ lw_tg := tg_of (mt_2 _ (List.mem_of_getElem? (i := 84) (by rfl))) (by rfl)
theorem tw_495 : Cond.selects RX2 yX2_test yX2_test ∈ lw_tg := tg_of (mt_2 _ (List.mem_of_getElem? (i := 85) (by rfl))) (by rfl)
theorem tw_496 : Cond.code yX2_test cX2_test 4 (some .int) ∈ lw_tg := tg_of (mt_2 _ (List.mem_of_getElem? (i := 86) (by rfl))) (by rfl)
theorem tw_497 : Cond.methodLink RX2 108 yX2_tryFault ∈ lw_tg := tg_of (mt_2 _ (List.mem_of_getElem? (i := 87) (by rfl))) (by rfl)
theorem tw_498 : Cond.instanceMethod yX2_tryFault ∈ lw_tg := tg_of (mt_2 _ (List.mem_of_getElem? (i := 89) (by rfl))) (by rfl)
theorem tw_499 : Cond.selects RX2 yX2_tryFault yX2_tryFault ∈ lw_tg := tg_of (mp_2 _ (List.mem_of_getElem? (l := lw_privs_2) (i := 3) (by rfl))) (by rfl)
theorem tw_500 : Cond.code yX2_tryFault cX2_tryFault 4 (some .int) ∈ lw_tg := tg_of (mt_2 _ (List.mem_of_getElem? (i := 90) (by rfl))) (by rfl)
theorem tw_501 : Cond.methodLink RX2 155 yX0_leaveOnlyFault ∈ lw_tg := tg_of (mt_2 _ (List.mem_of_getElem? (i := 91) (by rfl))) (by rfl)
theorem tw_502 : Cond.instanceMethod yX0_leaveOnlyFault ∈ lw_tg := tg_of (mt_2 _ (List.mem_of_getElem? (i := 92) (by rfl))) (by rfl)
theorem tw_503 : Cond.selects RX0 yX0_leaveOnlyFault yX0_leaveOnlyFault ∈ lw_tg := tg_of (mt_2 _ (List.mem_of_getElem? (i := 93) (by rfl))) (by rfl)
theorem tw_504 : Cond.code yX0_leaveOnlyFault cX0_leaveOnlyFault 3 none ∈ lw_tg := tg_of (mt_2 _ (List.mem_of_getElem? (i := 94) (by rfl))) (by rfl)
theorem tw_505 : Cond.methodLink RX0 55 yJ7_fill_fda19 ∈ lw_tg := tg_of (mt_2 _ (List.mem_of_getElem? (i := 95) (by rfl))) (by rfl)
theorem tw_506 : Cond.static yJ7_fill_fda19 ∈ lw_tg := tg_of (mt_2 _ (List.mem_of_getElem? (i := 96) (by rfl))) (by rfl)
theorem tw_507 : Cond.code yJ7_fill_fda19 cJ7_fill_fda19 5 none ∈ lw_tg := tg_of (mt_2 _ (List.mem_of_getElem? (i := 97) (by rfl))) (by rfl)
theorem tw_508 : Cond.methodLink RJ7 13 yJ7_rangeCheck_23922 ∈ lw_tg := tg_of (mt_2 _ (List.mem_of_getElem? (i := 98) (by rfl))) (by rfl)
theorem tw_509 : Cond.static yJ7_rangeCheck_23922 ∈ lw_tg := tg_of (mt_2 _ (List.mem_of_getElem? (i := 99) (by rfl))) (by rfl)
theorem tw_510 : Cond.code yJ7_rangeCheck_23922 cJ7_rangeCheck_23922 3 none ∈ lw_tg := tg_of (mt_2 _ (List.mem_of_getElem? (i := 100) (by rfl))) (by rfl)
theorem tw_511 : Cond.methodLink RL 67 yX3_test ∈ lw_tg := tg_of (mt_3 _ (List.mem_of_getElem? (i := 233) (by rfl))) (by rfl)
theorem tw_512 : Cond.instanceMethod yX3_test ∈ lw_tg := tg_of (mt_3 _ (List.mem_of_getElem? (i := 234) (by rfl))) (by rfl)
theorem tw_513 : Cond.selects RX3 yX3_test yX3_test ∈ lw_tg := tg_of (mt_3 _ (List.mem_of_getElem? (i := 235) (by rfl))) (by rfl)
theorem tw_514 : Cond.code yX3_test cX3_test 4 (some .int) ∈ lw_tg := tg_of (mt_3 _ (List.mem_of_getElem? (i := 236) (by rfl))) (by rfl)
theorem tw_515 : Cond.constantLong RX3 174 (9999) ∈ lw_tg := tg_of (mt_3 _ (List.mem_of_getElem? (i := 237) (by rfl))) (by rfl)
theorem tw_516 : Cond.methodLink RX3 176 yX3_tests ∈ lw_tg := tg_of (mt_3 _ (List.mem_of_getElem? (i := 238) (by rfl))) (by rfl)
theorem tw_517 : Cond.instanceMethod yX3_tests ∈ lw_tg := tg_of (mt_4 _ (List.mem_of_getElem? (i := 0) (by rfl))) (by rfl)
theorem tw_518 : Cond.selects RX3 yX3_tests yX3_tests ∈ lw_tg := tg_of (mp_4 _ (List.mem_of_getElem? (l := lw_privs_4) (i := 9) (by rfl))) (by rfl)
theorem tw_519 : Cond.code yX3_tests cX3_tests 6 (some .int) ∈ lw_tg := tg_of (mt_4 _ (List.mem_of_getElem? (i := 1) (by rfl))) (by rfl)
theorem tw_520 : Cond.methodLink RL 68 yX2_unfair ∈ lw_tg := tg_of (mt_2 _ (List.mem_of_getElem? (i := 101) (by rfl))) (by rfl)
theorem tw_521 : Cond.instanceMethod yX2_unfair ∈ lw_tg := tg_of (mt_2 _ (List.mem_of_getElem? (i := 102) (by rfl))) (by rfl)
theorem tw_522 : Cond.selects RX2 yX2_unfair yX2_unfair ∈ lw_tg := tg_of (mt_2 _ (List.mem_of_getElem? (i := 103) (by rfl))) (by rfl)
theorem tw_523 : Cond.code yX2_unfair cX2_unfair 5 (some .int) ∈ lw_tg := tg_of (mt_2 _ (List.mem_of_getElem? (i := 104) (by rfl))) (by rfl)
theorem tw_524 : Cond.methodLink RX2 111 yX0_boards ∈ lw_tg := tg_of (mt_2 _ (List.mem_of_getElem? (i := 105) (by rfl))) (by rfl)
theorem tw_525 : Cond.instanceMethod yX0_boards ∈ lw_tg := tg_of (mt_2 _ (List.mem_of_getElem? (i := 106) (by rfl))) (by rfl)
theorem tw_526 : Cond.selects RX0 yX0_boards yX0_boards ∈ lw_tg := tg_of (mt_2 _ (List.mem_of_getElem? (i := 107) (by rfl))) (by rfl)
theorem tw_527 : Cond.code yX0_boards cX0_boards 1 (some .int) ∈ lw_tg := tg_of (mt_2 _ (List.mem_of_getElem? (i := 108) (by rfl))) (by rfl)
theorem tw_528 : Cond.methodLink RX2 114 yX0_rating ∈ lw_tg := tg_of (mt_2 _ (List.mem_of_getElem? (i := 109) (by rfl))) (by rfl)
theorem tw_529 : Cond.instanceMethod yX0_rating ∈ lw_tg := tg_of (mt_2 _ (List.mem_of_getElem? (i := 110) (by rfl))) (by rfl)
theorem tw_530 : Cond.selects RX0 yX0_rating yX0_rating ∈ lw_tg := tg_of (mt_2 _ (List.mem_of_getElem? (i := 111) (by rfl))) (by rfl)
theorem tw_531 : Cond.code yX0_rating cX0_rating 2 (some .int) ∈ lw_tg := tg_of (mt_2 _ (List.mem_of_getElem? (i := 112) (by rfl))) (by rfl)
theorem tw_532 : Cond.methodLink RL 71 yX3_unfair ∈ lw_tg := tg_of (mt_4 _ (List.mem_of_getElem? (i := 2) (by rfl))) (by rfl)
theorem tw_533 : Cond.instanceMethod yX3_unfair ∈ lw_tg := tg_of (mt_4 _ (List.mem_of_getElem? (i := 3) (by rfl))) (by rfl)
theorem tw_534 : Cond.selects RX3 yX3_unfair yX3_unfair ∈ lw_tg := tg_of (mt_4 _ (List.mem_of_getElem? (i := 4) (by rfl))) (by rfl)
theorem tw_535 : Cond.code yX3_unfair cX3_unfair 5 (some .int) ∈ lw_tg := tg_of (mt_4 _ (List.mem_of_getElem? (i := 5) (by rfl))) (by rfl)
theorem tw_536 : Cond.constantLong RX3 179 (20) ∈ lw_tg := tg_of (mt_4 _ (List.mem_of_getElem? (i := 6) (by rfl))) (by rfl)
theorem tw_537 : Cond.methodLink RL 72 yX2_ifOpen ∈ lw_tg := tg_of (mt_2 _ (List.mem_of_getElem? (i := 113) (by rfl))) (by rfl)
theorem tw_538 : Cond.instanceMethod yX2_ifOpen ∈ lw_tg := tg_of (mt_2 _ (List.mem_of_getElem? (i := 114) (by rfl))) (by rfl)
theorem tw_539 : Cond.selects RX2 yX2_ifOpen yX2_ifOpen ∈ lw_tg := tg_of (mt_2 _ (List.mem_of_getElem? (i := 115) (by rfl))) (by rfl)
theorem tw_540 : Cond.code yX2_ifOpen cX2_ifOpen 2 (some .int) ∈ lw_tg := tg_of (mt_2 _ (List.mem_of_getElem? (i := 116) (by rfl))) (by rfl)
theorem tw_541 : Cond.methodLink RX2 117 yX0_workingLoadsAt ∈ lw_tg := tg_of (mt_2 _ (List.mem_of_getElem? (i := 117) (by rfl))) (by rfl)
theorem tw_542 : Cond.methodLink RL 75 yX3_ifOpen ∈ lw_tg := tg_of (mt_4 _ (List.mem_of_getElem? (i := 7) (by rfl))) (by rfl)
theorem tw_543 : Cond.instanceMethod yX3_ifOpen ∈ lw_tg := tg_of (mt_4 _ (List.mem_of_getElem? (i := 8) (by rfl))) (by rfl)
theorem tw_544 : Cond.selects RX3 yX3_ifOpen yX3_ifOpen ∈ lw_tg := tg_of (mt_4 _ (List.mem_of_getElem? (i := 9) (by rfl))) (by rfl)
theorem tw_545 : Cond.code yX3_ifOpen cX3_ifOpen 4 (some .int) ∈ lw_tg := tg_of (mt_4 _ (List.mem_of_getElem? (i := 10) (by rfl))) (by rfl)
theorem tw_546 : Cond.methodLink RL 78 yX2_put ∈ lw_tg := tg_of (mt_2 _ (List.mem_of_getElem? (i := 118) (by rfl))) (by rfl)
theorem tw_547 : Cond.instanceMethod yX2_put ∈ lw_tg := tg_of (mt_2 _ (List.mem_of_getElem? (i := 119) (by rfl))) (by rfl)
theorem tw_548 : Cond.selects RX2 yX2_put yX2_put ∈ lw_tg := tg_of (mt_2 _ (List.mem_of_getElem? (i := 120) (by rfl))) (by rfl)
theorem tw_549 : Cond.code yX2_put cX2_put 3 (some .int) ∈ lw_tg := tg_of (mt_2 _ (List.mem_of_getElem? (i := 121) (by rfl))) (by rfl)
theorem tw_550 : Cond.methodLink RX2 120 yX1_append ∈ lw_tg := tg_of (mt_2 _ (List.mem_of_getElem? (i := 122) (by rfl))) (by rfl)
theorem tw_551 : Cond.instanceMethod yX1_append ∈ lw_tg := tg_of (mt_2 _ (List.mem_of_getElem? (i := 123) (by rfl))) (by rfl)
theorem tw_552 : Cond.selects RX1 yX1_append yX1_append ∈ lw_tg := tg_of (mt_2 _ (List.mem_of_getElem? (i := 124) (by rfl))) (by rfl)
theorem tw_553 : Cond.code yX1_append cX1_append 5 (some .int) ∈ lw_tg := tg_of (mt_2 _ (List.mem_of_getElem? (i := 125) (by rfl))) (by rfl)
theorem tw_554 : Cond.methodLink RX1 34 yX1_countCharacters ∈ lw_tg := tg_of (mt_2 _ (List.mem_of_getElem? (i := 126) (by rfl))) (by rfl)
theorem tw_555 : Cond.static yX1_countCharacters ∈ lw_tg := tg_of (mt_2 _ (List.mem_of_getElem? (i := 127) (by rfl))) (by rfl)
theorem tw_556 : Cond.code yX1_countCharacters cX1_countCharacters 4 (some .int) ∈ lw_tg := tg_of (mt_2 _ (List.mem_of_getElem? (i := 128) (by rfl))) (by rfl)
theorem tw_557 : Cond.methodLink RX1 38 yX1_codeIn ∈ lw_tg := tg_of (mt_2 _ (List.mem_of_getElem? (i := 129) (by rfl))) (by rfl)
theorem tw_558 : Cond.static yX1_codeIn ∈ lw_tg := tg_of (mt_2 _ (List.mem_of_getElem? (i := 130) (by rfl))) (by rfl)
theorem tw_559 : Cond.code yX1_codeIn cX1_codeIn 3 (some .int) ∈ lw_tg := tg_of (mt_2 _ (List.mem_of_getElem? (i := 131) (by rfl))) (by rfl)
theorem tw_560 : Cond.methodLink RL 82 yX3_put ∈ lw_tg := tg_of (mt_4 _ (List.mem_of_getElem? (i := 11) (by rfl))) (by rfl)
theorem tw_561 : Cond.instanceMethod yX3_put ∈ lw_tg := tg_of (mt_4 _ (List.mem_of_getElem? (i := 12) (by rfl))) (by rfl)
theorem tw_562 : Cond.selects RX3 yX3_put yX3_put ∈ lw_tg := tg_of (mt_4 _ (List.mem_of_getElem? (i := 13) (by rfl))) (by rfl)
theorem tw_563 : Cond.code yX3_put cX3_put 5 (some .int) ∈ lw_tg := tg_of (mt_4 _ (List.mem_of_getElem? (i := 14) (by rfl))) (by rfl)
theorem tw_564 : Cond.constantLong RX3 181 (255) ∈ lw_tg := tg_of (mt_4 _ (List.mem_of_getElem? (i := 18) (by rfl))) (by rfl)
theorem tw_565 : Cond.methodLink RX3 187 yX3_charactersOf ∈ lw_tg := tg_of (mt_4 _ (List.mem_of_getElem? (i := 15) (by rfl))) (by rfl)
theorem tw_566 : Cond.static yX3_charactersOf ∈ lw_tg := tg_of (mt_4 _ (List.mem_of_getElem? (i := 16) (by rfl))) (by rfl)
theorem tw_567 : Cond.code yX3_charactersOf cX3_charactersOf 5 (some .int) ∈ lw_tg := tg_of (mt_4 _ (List.mem_of_getElem? (i := 17) (by rfl))) (by rfl)
theorem tw_568 : Cond.constantLong RX3 183 (33) ∈ lw_tg := tg_of (mt_4 _ (List.mem_of_getElem? (i := 19) (by rfl))) (by rfl)
theorem tw_569 : Cond.constantLong RX3 185 (126) ∈ lw_tg := tg_of (mt_4 _ (List.mem_of_getElem? (i := 20) (by rfl))) (by rfl)
theorem tw_570 : Cond.methodLink RL 83 yX2_wipe ∈ lw_tg := tg_of (mt_2 _ (List.mem_of_getElem? (i := 132) (by rfl))) (by rfl)
theorem tw_571 : Cond.instanceMethod yX2_wipe ∈ lw_tg := tg_of (mt_2 _ (List.mem_of_getElem? (i := 133) (by rfl))) (by rfl)
theorem tw_572 : Cond.selects RX2 yX2_wipe yX2_wipe ∈ lw_tg := tg_of (mt_2 _ (List.mem_of_getElem? (i := 134) (by rfl))) (by rfl)
theorem tw_573 : Cond.code yX2_wipe cX2_wipe 1 (some .int) ∈ lw_tg := tg_of (mt_2 _ (List.mem_of_getElem? (i := 135) (by rfl))) (by rfl)
theorem tw_574 : Cond.methodLink RX2 124 yX1_clear ∈ lw_tg := tg_of (mt_2 _ (List.mem_of_getElem? (i := 136) (by rfl))) (by rfl)
theorem tw_575 : Cond.instanceMethod yX1_clear ∈ lw_tg := tg_of (mt_2 _ (List.mem_of_getElem? (i := 137) (by rfl))) (by rfl)
theorem tw_576 : Cond.selects RX1 yX1_clear yX1_clear ∈ lw_tg := tg_of (mt_2 _ (List.mem_of_getElem? (i := 138) (by rfl))) (by rfl)
theorem tw_577 : Cond.code yX1_clear cX1_clear 2 (some .int) ∈ lw_tg := tg_of (mt_2 _ (List.mem_of_getElem? (i := 139) (by rfl))) (by rfl)
theorem tw_578 : Cond.methodLink RL 87 yX3_wipe ∈ lw_tg := tg_of (mt_4 _ (List.mem_of_getElem? (i := 21) (by rfl))) (by rfl)
theorem tw_579 : Cond.instanceMethod yX3_wipe ∈ lw_tg := tg_of (mt_4 _ (List.mem_of_getElem? (i := 22) (by rfl))) (by rfl)
theorem tw_580 : Cond.selects RX3 yX3_wipe yX3_wipe ∈ lw_tg := tg_of (mt_4 _ (List.mem_of_getElem? (i := 23) (by rfl))) (by rfl)
theorem tw_581 : Cond.code yX3_wipe cX3_wipe 2 (some .int) ∈ lw_tg := tg_of (mt_4 _ (List.mem_of_getElem? (i := 24) (by rfl))) (by rfl)
theorem tw_582 : Cond.methodLink RL 88 yX2_fault ∈ lw_tg := tg_of (mt_2 _ (List.mem_of_getElem? (i := 140) (by rfl))) (by rfl)
theorem tw_583 : Cond.instanceMethod yX2_fault ∈ lw_tg := tg_of (mt_2 _ (List.mem_of_getElem? (i := 141) (by rfl))) (by rfl)
theorem tw_584 : Cond.selects RX2 yX2_fault yX2_fault ∈ lw_tg := tg_of (mt_2 _ (List.mem_of_getElem? (i := 142) (by rfl))) (by rfl)
theorem tw_585 : Cond.code yX2_fault cX2_fault 1 (some .int) ∈ lw_tg := tg_of (mt_2 _ (List.mem_of_getElem? (i := 143) (by rfl))) (by rfl)
theorem tw_586 : Cond.methodLink RX2 127 yX1_findFault ∈ lw_tg := tg_of (mt_2 _ (List.mem_of_getElem? (i := 144) (by rfl))) (by rfl)
theorem tw_587 : Cond.instanceMethod yX1_findFault ∈ lw_tg := tg_of (mt_2 _ (List.mem_of_getElem? (i := 145) (by rfl))) (by rfl)
theorem tw_588 : Cond.selects RX1 yX1_findFault yX1_findFault ∈ lw_tg := tg_of (mt_2 _ (List.mem_of_getElem? (i := 146) (by rfl))) (by rfl)
theorem tw_589 : Cond.code yX1_findFault cX1_findFault 3 (some .int) ∈ lw_tg := tg_of (mt_2 _ (List.mem_of_getElem? (i := 147) (by rfl))) (by rfl)
theorem tw_590 : Cond.methodLink RX1 42 yX1_readFirstOrder ∈ lw_tg := tg_of (mt_2 _ (List.mem_of_getElem? (i := 148) (by rfl))) (by rfl)
theorem tw_591 : Cond.instanceMethod yX1_readFirstOrder ∈ lw_tg := tg_of (mt_2 _ (List.mem_of_getElem? (i := 149) (by rfl))) (by rfl)
theorem tw_592 : Cond.selects RX1 yX1_readFirstOrder yX1_readFirstOrder ∈ lw_tg := tg_of (mt_2 _ (List.mem_of_getElem? (i := 150) (by rfl))) (by rfl)
theorem tw_593 : Cond.code yX1_readFirstOrder cX1_readFirstOrder 1 (some .boolean) ∈ lw_tg := tg_of (mt_2 _ (List.mem_of_getElem? (i := 151) (by rfl))) (by rfl)
theorem tw_594 : Cond.methodLink RX1 49 yX1_readOrder ∈ lw_tg := tg_of (mt_2 _ (List.mem_of_getElem? (i := 152) (by rfl))) (by rfl)
theorem tw_595 : Cond.instanceMethod yX1_readOrder ∈ lw_tg := tg_of (mt_2 _ (List.mem_of_getElem? (i := 154) (by rfl))) (by rfl)
theorem tw_596 : Cond.selects RX1 yX1_readOrder yX1_readOrder ∈ lw_tg := tg_of (mp_2 _ (List.mem_of_getElem? (l := lw_privs_2) (i := 4) (by rfl))) (by rfl)
theorem tw_597 : Cond.code yX1_readOrder cX1_readOrder 1 (some .boolean) ∈ lw_tg := tg_of (mt_2 _ (List.mem_of_getElem? (i := 155) (by rfl))) (by rfl)
theorem tw_598 : Cond.methodLink RX1 56 yX1_codeHere ∈ lw_tg := tg_of (mt_2 _ (List.mem_of_getElem? (i := 156) (by rfl))) (by rfl)
theorem tw_599 : Cond.instanceMethod yX1_codeHere ∈ lw_tg := tg_of (mt_2 _ (List.mem_of_getElem? (i := 158) (by rfl))) (by rfl)
theorem tw_600 : Cond.selects RX1 yX1_codeHere yX1_codeHere ∈ lw_tg := tg_of (mp_2 _ (List.mem_of_getElem? (l := lw_privs_2) (i := 5) (by rfl))) (by rfl)
theorem tw_601 : Cond.code yX1_codeHere cX1_codeHere 1 (some .int) ∈ lw_tg := tg_of (mt_2 _ (List.mem_of_getElem? (i := 159) (by rfl))) (by rfl)
theorem tw_602 : Cond.methodLink RX1 52 yX1_skip ∈ lw_tg := tg_of (mt_2 _ (List.mem_of_getElem? (i := 160) (by rfl))) (by rfl)
theorem tw_603 : Cond.instanceMethod yX1_skip ∈ lw_tg := tg_of (mt_2 _ (List.mem_of_getElem? (i := 162) (by rfl))) (by rfl)
theorem tw_604 : Cond.selects RX1 yX1_skip yX1_skip ∈ lw_tg := tg_of (mp_2 _ (List.mem_of_getElem? (l := lw_privs_2) (i := 6) (by rfl))) (by rfl)
theorem tw_605 : Cond.code yX1_skip cX1_skip 2 (some .boolean) ∈ lw_tg := tg_of (mt_2 _ (List.mem_of_getElem? (i := 163) (by rfl))) (by rfl)
theorem tw_606 : Cond.methodLink RX1 60 yX1_readDigit ∈ lw_tg := tg_of (mt_2 _ (List.mem_of_getElem? (i := 164) (by rfl))) (by rfl)
theorem tw_607 : Cond.instanceMethod yX1_readDigit ∈ lw_tg := tg_of (mt_2 _ (List.mem_of_getElem? (i := 166) (by rfl))) (by rfl)
theorem tw_608 : Cond.selects RX1 yX1_readDigit yX1_readDigit ∈ lw_tg := tg_of (mp_2 _ (List.mem_of_getElem? (l := lw_privs_2) (i := 7) (by rfl))) (by rfl)
theorem tw_609 : Cond.code yX1_readDigit cX1_readDigit 1 (some .boolean) ∈ lw_tg := tg_of (mt_2 _ (List.mem_of_getElem? (i := 167) (by rfl))) (by rfl)
theorem tw_610 : Cond.methodLink RX1 69 yX1_isDigitHere ∈ lw_tg := tg_of (mt_2 _ (List.mem_of_getElem? (i := 168) (by rfl))) (by rfl)
theorem tw_611 : Cond.instanceMethod yX1_isDigitHere ∈ lw_tg := tg_of (mt_2 _ (List.mem_of_getElem? (i := 170) (by rfl))) (by rfl)
theorem tw_612 : Cond.selects RX1 yX1_isDigitHere yX1_isDigitHere ∈ lw_tg := tg_of (mp_2 _ (List.mem_of_getElem? (l := lw_privs_2) (i := 8) (by rfl))) (by rfl)
theorem tw_613 : Cond.code yX1_isDigitHere cX1_isDigitHere 1 (some .boolean) ∈ lw_tg := tg_of (mt_2 _ (List.mem_of_getElem? (i := 171) (by rfl))) (by rfl)
theorem tw_614 : Cond.methodLink RX1 63 yX1_readNumber ∈ lw_tg := tg_of (mt_2 _ (List.mem_of_getElem? (i := 172) (by rfl))) (by rfl)
theorem tw_615 : Cond.instanceMethod yX1_readNumber ∈ lw_tg := tg_of (mt_2 _ (List.mem_of_getElem? (i := 174) (by rfl))) (by rfl)
theorem tw_616 : Cond.selects RX1 yX1_readNumber yX1_readNumber ∈ lw_tg := tg_of (mp_2 _ (List.mem_of_getElem? (l := lw_privs_2) (i := 9) (by rfl))) (by rfl)
theorem tw_617 : Cond.code yX1_readNumber cX1_readNumber 2 (some .boolean) ∈ lw_tg := tg_of (mt_2 _ (List.mem_of_getElem? (i := 175) (by rfl))) (by rfl)
theorem tw_618 : Cond.methodLink RX1 66 yX1_readKind ∈ lw_tg := tg_of (mt_2 _ (List.mem_of_getElem? (i := 176) (by rfl))) (by rfl)
theorem tw_619 : Cond.instanceMethod yX1_readKind ∈ lw_tg := tg_of (mt_2 _ (List.mem_of_getElem? (i := 178) (by rfl))) (by rfl)
theorem tw_620 : Cond.selects RX1 yX1_readKind yX1_readKind ∈ lw_tg := tg_of (mp_2 _ (List.mem_of_getElem? (l := lw_privs_2) (i := 10) (by rfl))) (by rfl)
theorem tw_621 : Cond.code yX1_readKind cX1_readKind 1 (some .boolean) ∈ lw_tg := tg_of (mt_2 _ (List.mem_of_getElem? (i := 179) (by rfl))) (by rfl)
theorem tw_622 : Cond.methodLink RX1 46 yX1_readNextOrder ∈ lw_tg := tg_of (mt_2 _ (List.mem_of_getElem? (i := 180) (by rfl))) (by rfl)
theorem tw_623 : Cond.instanceMethod yX1_readNextOrder ∈ lw_tg := tg_of (mt_2 _ (List.mem_of_getElem? (i := 181) (by rfl))) (by rfl)
theorem tw_624 : Cond.selects RX1 yX1_readNextOrder yX1_readNextOrder ∈ lw_tg := tg_of (mt_2 _ (List.mem_of_getElem? (i := 182) (by rfl))) (by rfl)
theorem tw_625 : Cond.code yX1_readNextOrder cX1_readNextOrder 1 (some .boolean) ∈ lw_tg := tg_of (mt_2 _ (List.mem_of_getElem? (i := 183) (by rfl))) (by rfl)
theorem tw_626 : Cond.methodLink RL 91 yX3_fault ∈ lw_tg := tg_of (mt_4 _ (List.mem_of_getElem? (i := 25) (by rfl))) (by rfl)
theorem tw_627 : Cond.instanceMethod yX3_fault ∈ lw_tg := tg_of (mt_4 _ (List.mem_of_getElem? (i := 26) (by rfl))) (by rfl)
theorem tw_628 : Cond.selects RX3 yX3_fault yX3_fault ∈ lw_tg := tg_of (mt_4 _ (List.mem_of_getElem? (i := 27) (by rfl))) (by rfl)
theorem tw_629 : Cond.code yX3_fault cX3_fault 2 (some .int) ∈ lw_tg := tg_of (mt_4 _ (List.mem_of_getElem? (i := 28) (by rfl))) (by rfl)
theorem tw_630 : Cond.fieldLink RX3 191 "FuseBoardsModel" "spot" "I" ∈ lw_tg := tg_of (mt_3 _ (List.mem_of_getElem? (i := 4) (by rfl))) (by rfl)
theorem tw_631 : Cond.methodLink RX3 228 yX3_readsOrder ∈ lw_tg := tg_of (mt_4 _ (List.mem_of_getElem? (i := 29) (by rfl))) (by rfl)
theorem tw_632 : Cond.instanceMethod yX3_readsOrder ∈ lw_tg := tg_of (mt_4 _ (List.mem_of_getElem? (i := 31) (by rfl))) (by rfl)
theorem tw_633 : Cond.selects RX3 yX3_readsOrder yX3_readsOrder ∈ lw_tg := tg_of (mp_4 _ (List.mem_of_getElem? (l := lw_privs_4) (i := 10) (by rfl))) (by rfl)
theorem tw_634 : Cond.code yX3_readsOrder cX3_readsOrder 1 (some .boolean) ∈ lw_tg := tg_of (mt_4 _ (List.mem_of_getElem? (i := 32) (by rfl))) (by rfl)
theorem tw_635 : Cond.fieldLink RX3 219 "FuseBoardsModel" "letter" "I" ∈ lw_tg := tg_of (mt_3 _ (List.mem_of_getElem? (i := 5) (by rfl))) (by rfl)
theorem tw_636 : Cond.fieldLink RX3 212 "FuseBoardsModel" "two" "I" ∈ lw_tg := tg_of (mt_3 _ (List.mem_of_getElem? (i := 7) (by rfl))) (by rfl)
theorem tw_637 : Cond.methodLink RX3 222 yX3_readsFuse ∈ lw_tg := tg_of (mt_4 _ (List.mem_of_getElem? (i := 33) (by rfl))) (by rfl)
theorem tw_638 : Cond.instanceMethod yX3_readsFuse ∈ lw_tg := tg_of (mt_4 _ (List.mem_of_getElem? (i := 35) (by rfl))) (by rfl)
theorem tw_639 : Cond.selects RX3 yX3_readsFuse yX3_readsFuse ∈ lw_tg := tg_of (mp_4 _ (List.mem_of_getElem? (l := lw_privs_4) (i := 11) (by rfl))) (by rfl)
theorem tw_640 : Cond.code yX3_readsFuse cX3_readsFuse 1 (some .boolean) ∈ lw_tg := tg_of (mt_4 _ (List.mem_of_getElem? (i := 36) (by rfl))) (by rfl)
theorem tw_641 : Cond.fieldLink RX3 206 "FuseBoardsModel" "one" "I" ∈ lw_tg := tg_of (mt_3 _ (List.mem_of_getElem? (i := 6) (by rfl))) (by rfl)
theorem tw_642 : Cond.methodLink RX3 197 yX3_digit ∈ lw_tg := tg_of (mt_4 _ (List.mem_of_getElem? (i := 37) (by rfl))) (by rfl)
theorem tw_643 : Cond.instanceMethod yX3_digit ∈ lw_tg := tg_of (mt_4 _ (List.mem_of_getElem? (i := 39) (by rfl))) (by rfl)
theorem tw_644 : Cond.selects RX3 yX3_digit yX3_digit ∈ lw_tg := tg_of (mp_4 _ (List.mem_of_getElem? (l := lw_privs_4) (i := 12) (by rfl))) (by rfl)
theorem tw_645 : Cond.code yX3_digit cX3_digit 2 (some .int) ∈ lw_tg := tg_of (mt_4 _ (List.mem_of_getElem? (i := 40) (by rfl))) (by rfl)
theorem tw_646 : Cond.methodLink RX3 194 yX3_isHere ∈ lw_tg := tg_of (mt_4 _ (List.mem_of_getElem? (i := 41) (by rfl))) (by rfl)
theorem tw_647 : Cond.instanceMethod yX3_isHere ∈ lw_tg := tg_of (mt_4 _ (List.mem_of_getElem? (i := 43) (by rfl))) (by rfl)
theorem tw_648 : Cond.selects RX3 yX3_isHere yX3_isHere ∈ lw_tg := tg_of (mp_4 _ (List.mem_of_getElem? (l := lw_privs_4) (i := 13) (by rfl))) (by rfl)
theorem tw_649 : Cond.code yX3_isHere cX3_isHere 3 (some .boolean) ∈ lw_tg := tg_of (mt_4 _ (List.mem_of_getElem? (i := 44) (by rfl))) (by rfl)
theorem tw_650 : Cond.methodLink RX3 200 yX3_takes ∈ lw_tg := tg_of (mt_4 _ (List.mem_of_getElem? (i := 45) (by rfl))) (by rfl)
theorem tw_651 : Cond.instanceMethod yX3_takes ∈ lw_tg := tg_of (mt_4 _ (List.mem_of_getElem? (i := 47) (by rfl))) (by rfl)
theorem tw_652 : Cond.selects RX3 yX3_takes yX3_takes ∈ lw_tg := tg_of (mp_4 _ (List.mem_of_getElem? (l := lw_privs_4) (i := 14) (by rfl))) (by rfl)
theorem tw_653 : Cond.code yX3_takes cX3_takes 3 (some .boolean) ∈ lw_tg := tg_of (mt_4 _ (List.mem_of_getElem? (i := 48) (by rfl))) (by rfl)
theorem tw_654 : Cond.methodLink RX3 209 yX3_number ∈ lw_tg := tg_of (mt_4 _ (List.mem_of_getElem? (i := 49) (by rfl))) (by rfl)
theorem tw_655 : Cond.instanceMethod yX3_number ∈ lw_tg := tg_of (mt_4 _ (List.mem_of_getElem? (i := 51) (by rfl))) (by rfl)
theorem tw_656 : Cond.selects RX3 yX3_number yX3_number ∈ lw_tg := tg_of (mp_4 _ (List.mem_of_getElem? (l := lw_privs_4) (i := 15) (by rfl))) (by rfl)
theorem tw_657 : Cond.code yX3_number cX3_number 2 (some .int) ∈ lw_tg := tg_of (mt_4 _ (List.mem_of_getElem? (i := 52) (by rfl))) (by rfl)
theorem tw_658 : Cond.methodLink RX3 215 yX3_readsKind ∈ lw_tg := tg_of (mt_4 _ (List.mem_of_getElem? (i := 53) (by rfl))) (by rfl)
theorem tw_659 : Cond.instanceMethod yX3_readsKind ∈ lw_tg := tg_of (mt_4 _ (List.mem_of_getElem? (i := 55) (by rfl))) (by rfl)
theorem tw_660 : Cond.selects RX3 yX3_readsKind yX3_readsKind ∈ lw_tg := tg_of (mp_5 _ (List.mem_of_getElem? (l := lw_privs_5) (i := 0) (by rfl))) (by rfl)
theorem tw_661 : Cond.code yX3_readsKind cX3_readsKind 1 (some .boolean) ∈ lw_tg := tg_of (mt_4 _ (List.mem_of_getElem? (i := 56) (by rfl))) (by rfl)
theorem tw_662 : Cond.fieldLink RX3 203 "FuseBoardsModel" "three" "I" ∈ lw_tg := tg_of (mt_3 _ (List.mem_of_getElem? (i := 8) (by rfl))) (by rfl)
theorem tw_663 : Cond.methodLink RX3 225 yX3_readsLoad ∈ lw_tg := tg_of (mt_4 _ (List.mem_of_getElem? (i := 57) (by rfl))) (by rfl)
theorem tw_664 : Cond.instanceMethod yX3_readsLoad ∈ lw_tg := tg_of (mt_4 _ (List.mem_of_getElem? (i := 59) (by rfl))) (by rfl)
theorem tw_665 : Cond.selects RX3 yX3_readsLoad yX3_readsLoad ∈ lw_tg := tg_of (mp_5 _ (List.mem_of_getElem? (l := lw_privs_5) (i := 1) (by rfl))) (by rfl)
theorem tw_666 : Cond.code yX3_readsLoad cX3_readsLoad 1 (some .boolean) ∈ lw_tg := tg_of (mt_4 _ (List.mem_of_getElem? (i := 60) (by rfl))) (by rfl)
theorem tw_667 : Cond.methodLink RL 92 yX2_carryOut ∈ lw_tg := tg_of (mt_2 _ (List.mem_of_getElem? (i := 184) (by rfl))) (by rfl)
theorem tw_668 : Cond.instanceMethod yX2_carryOut ∈ lw_tg := tg_of (mt_2 _ (List.mem_of_getElem? (i := 185) (by rfl))) (by rfl)
theorem tw_669 : Cond.selects RX2 yX2_carryOut yX2_carryOut ∈ lw_tg := tg_of (mt_2 _ (List.mem_of_getElem? (i := 186) (by rfl))) (by rfl)
theorem tw_670 : Cond.code yX2_carryOut cX2_carryOut 3 (some .int) ∈ lw_tg := tg_of (mt_2 _ (List.mem_of_getElem? (i := 187) (by rfl))) (by rfl)
theorem tw_671 : Cond.methodLink RX2 130 yX1_readFirstOrder ∈ lw_tg := tg_of (mt_2 _ (List.mem_of_getElem? (i := 188) (by rfl))) (by rfl)
theorem tw_672 : Cond.methodLink RX2 134 yX2_obeyOrder ∈ lw_tg := tg_of (mt_2 _ (List.mem_of_getElem? (i := 189) (by rfl))) (by rfl)
theorem tw_673 : Cond.instanceMethod yX2_obeyOrder ∈ lw_tg := tg_of (mt_2 _ (List.mem_of_getElem? (i := 191) (by rfl))) (by rfl)
theorem tw_674 : Cond.selects RX2 yX2_obeyOrder yX2_obeyOrder ∈ lw_tg := tg_of (mp_2 _ (List.mem_of_getElem? (l := lw_privs_2) (i := 11) (by rfl))) (by rfl)
theorem tw_675 : Cond.code yX2_obeyOrder cX2_obeyOrder 1 (some .int) ∈ lw_tg := tg_of (mt_2 _ (List.mem_of_getElem? (i := 192) (by rfl))) (by rfl)
theorem tw_676 : Cond.methodLink RX2 165 yX1_letter ∈ lw_tg := tg_of (mt_2 _ (List.mem_of_getElem? (i := 193) (by rfl))) (by rfl)
theorem tw_677 : Cond.instanceMethod yX1_letter ∈ lw_tg := tg_of (mt_2 _ (List.mem_of_getElem? (i := 194) (by rfl))) (by rfl)
theorem tw_678 : Cond.selects RX1 yX1_letter yX1_letter ∈ lw_tg := tg_of (mt_2 _ (List.mem_of_getElem? (i := 195) (by rfl))) (by rfl)
theorem tw_679 : Cond.code yX1_letter cX1_letter 1 (some .int) ∈ lw_tg := tg_of (mt_2 _ (List.mem_of_getElem? (i := 196) (by rfl))) (by rfl)
theorem tw_680 : Cond.methodLink RX2 168 yX1_digit ∈ lw_tg := tg_of (mt_2 _ (List.mem_of_getElem? (i := 197) (by rfl))) (by rfl)
theorem tw_681 : Cond.instanceMethod yX1_digit ∈ lw_tg := tg_of (mt_2 _ (List.mem_of_getElem? (i := 198) (by rfl))) (by rfl)
theorem tw_682 : Cond.selects RX1 yX1_digit yX1_digit ∈ lw_tg := tg_of (mt_2 _ (List.mem_of_getElem? (i := 199) (by rfl))) (by rfl)
theorem tw_683 : Cond.code yX1_digit cX1_digit 1 (some .int) ∈ lw_tg := tg_of (mt_2 _ (List.mem_of_getElem? (i := 200) (by rfl))) (by rfl)
theorem tw_684 : Cond.methodLink RX2 171 yX1_number ∈ lw_tg := tg_of (mt_2 _ (List.mem_of_getElem? (i := 201) (by rfl))) (by rfl)
theorem tw_685 : Cond.instanceMethod yX1_number ∈ lw_tg := tg_of (mt_2 _ (List.mem_of_getElem? (i := 202) (by rfl))) (by rfl)
theorem tw_686 : Cond.selects RX1 yX1_number yX1_number ∈ lw_tg := tg_of (mt_2 _ (List.mem_of_getElem? (i := 203) (by rfl))) (by rfl)
theorem tw_687 : Cond.code yX1_number cX1_number 1 (some .int) ∈ lw_tg := tg_of (mt_2 _ (List.mem_of_getElem? (i := 204) (by rfl))) (by rfl)
theorem tw_688 : Cond.methodLink RX2 174 yX1_kind ∈ lw_tg := tg_of (mt_2 _ (List.mem_of_getElem? (i := 205) (by rfl))) (by rfl)
theorem tw_689 : Cond.instanceMethod yX1_kind ∈ lw_tg := tg_of (mt_2 _ (List.mem_of_getElem? (i := 206) (by rfl))) (by rfl)
theorem tw_690 : Cond.selects RX1 yX1_kind yX1_kind ∈ lw_tg := tg_of (mt_2 _ (List.mem_of_getElem? (i := 207) (by rfl))) (by rfl)
theorem tw_691 : Cond.code yX1_kind cX1_kind 1 (some .int) ∈ lw_tg := tg_of (mt_2 _ (List.mem_of_getElem? (i := 208) (by rfl))) (by rfl)
theorem tw_692 : Cond.methodLink RX2 137 yX1_readNextOrder ∈ lw_tg := tg_of (mt_2 _ (List.mem_of_getElem? (i := 209) (by rfl))) (by rfl)
theorem tw_693 : Cond.methodLink RL 95 yX3_carryOut ∈ lw_tg := tg_of (mt_4 _ (List.mem_of_getElem? (i := 61) (by rfl))) (by rfl)
theorem tw_694 : Cond.instanceMethod yX3_carryOut ∈ lw_tg := tg_of (mt_4 _ (List.mem_of_getElem? (i := 62) (by rfl))) (by rfl)
theorem tw_695 : Cond.selects RX3 yX3_carryOut yX3_carryOut ∈ lw_tg := tg_of (mt_4 _ (List.mem_of_getElem? (i := 63) (by rfl))) (by rfl)
theorem tw_696 : Cond.code yX3_carryOut cX3_carryOut 5 (some .int) ∈ lw_tg := tg_of (mt_4 _ (List.mem_of_getElem? (i := 64) (by rfl))) (by rfl)
theorem tw_697 : Cond.methodLink RX3 231 yX3_fault ∈ lw_tg := tg_of (mt_4 _ (List.mem_of_getElem? (i := 65) (by rfl))) (by rfl)
theorem tw_698 : Cond.methodLink RX3 234 yX3_orderError ∈ lw_tg := tg_of (mt_4 _ (List.mem_of_getElem? (i := 66) (by rfl))) (by rfl)
theorem tw_699 : Cond.instanceMethod yX3_orderError ∈ lw_tg := tg_of (mt_4 _ (List.mem_of_getElem? (i := 68) (by rfl))) (by rfl)
theorem tw_700 : Cond.selects RX3 yX3_orderError yX3_orderError ∈ lw_tg := tg_of (mp_5 _ (List.mem_of_getElem? (l := lw_privs_5) (i := 2) (by rfl))) (by rfl)
theorem tw_701 : Cond.code yX3_orderError cX3_orderError 1 (some .int) ∈ lw_tg := tg_of (mt_4 _ (List.mem_of_getElem? (i := 69) (by rfl))) (by rfl)
theorem tw_702 : Cond.methodLink RX3 237 yX3_does ∈ lw_tg := tg_of (mt_4 _ (List.mem_of_getElem? (i := 70) (by rfl))) (by rfl)
theorem tw_703 : Cond.instanceMethod yX3_does ∈ lw_tg := tg_of (mt_4 _ (List.mem_of_getElem? (i := 72) (by rfl))) (by rfl)
theorem tw_704 : Cond.selects RX3 yX3_does yX3_does ∈ lw_tg := tg_of (mp_5 _ (List.mem_of_getElem? (l := lw_privs_5) (i := 3) (by rfl))) (by rfl)
theorem tw_705 : Cond.code yX3_does cX3_does 1 (some .int) ∈ lw_tg := tg_of (mt_4 _ (List.mem_of_getElem? (i := 73) (by rfl))) (by rfl)
theorem tw_706 : Cond.methodLink RL 96 yX2_undo ∈ lw_tg := tg_of (mt_2 _ (List.mem_of_getElem? (i := 210) (by rfl))) (by rfl)
theorem tw_707 : Cond.instanceMethod yX2_undo ∈ lw_tg := tg_of (mt_2 _ (List.mem_of_getElem? (i := 211) (by rfl))) (by rfl)
theorem tw_708 : Cond.selects RX2 yX2_undo yX2_undo ∈ lw_tg := tg_of (mt_2 _ (List.mem_of_getElem? (i := 212) (by rfl))) (by rfl)
theorem tw_709 : Cond.code yX2_undo cX2_undo 1 (some .int) ∈ lw_tg := tg_of (mt_2 _ (List.mem_of_getElem? (i := 213) (by rfl))) (by rfl)
theorem tw_710 : Cond.methodLink RX2 140 yX0_readFrom ∈ lw_tg := tg_of (mt_2 _ (List.mem_of_getElem? (i := 214) (by rfl))) (by rfl)
theorem tw_711 : Cond.instanceMethod yX0_readFrom ∈ lw_tg := tg_of (mt_2 _ (List.mem_of_getElem? (i := 215) (by rfl))) (by rfl)
theorem tw_712 : Cond.selects RX0 yX0_readFrom yX0_readFrom ∈ lw_tg := tg_of (mt_2 _ (List.mem_of_getElem? (i := 216) (by rfl))) (by rfl)
theorem tw_713 : Cond.code yX0_readFrom cX0_readFrom 2 none ∈ lw_tg := tg_of (mt_2 _ (List.mem_of_getElem? (i := 217) (by rfl))) (by rfl)
theorem tw_714 : Cond.methodLink RL 99 yX3_undo ∈ lw_tg := tg_of (mt_4 _ (List.mem_of_getElem? (i := 74) (by rfl))) (by rfl)
theorem tw_715 : Cond.instanceMethod yX3_undo ∈ lw_tg := tg_of (mt_4 _ (List.mem_of_getElem? (i := 75) (by rfl))) (by rfl)
theorem tw_716 : Cond.selects RX3 yX3_undo yX3_undo ∈ lw_tg := tg_of (mt_4 _ (List.mem_of_getElem? (i := 76) (by rfl))) (by rfl)
theorem tw_717 : Cond.code yX3_undo cX3_undo 1 (some .int) ∈ lw_tg := tg_of (mt_4 _ (List.mem_of_getElem? (i := 77) (by rfl))) (by rfl)
theorem tw_718 : Cond.methodLink RL 100 yX2_save ∈ lw_tg := tg_of (mt_2 _ (List.mem_of_getElem? (i := 218) (by rfl))) (by rfl)
theorem tw_719 : Cond.instanceMethod yX2_save ∈ lw_tg := tg_of (mt_2 _ (List.mem_of_getElem? (i := 219) (by rfl))) (by rfl)
theorem tw_720 : Cond.selects RX2 yX2_save yX2_save ∈ lw_tg := tg_of (mt_2 _ (List.mem_of_getElem? (i := 220) (by rfl))) (by rfl)
theorem tw_721 : Cond.code yX2_save cX2_save 2 (some .int) ∈ lw_tg := tg_of (mt_2 _ (List.mem_of_getElem? (i := 221) (by rfl))) (by rfl)
theorem tw_722 : Cond.methodLink RX2 144 yX2_isSlot ∈ lw_tg := tg_of (mt_2 _ (List.mem_of_getElem? (i := 222) (by rfl))) (by rfl)
theorem tw_723 : Cond.static yX2_isSlot ∈ lw_tg := tg_of (mt_2 _ (List.mem_of_getElem? (i := 223) (by rfl))) (by rfl)
theorem tw_724 : Cond.code yX2_isSlot cX2_isSlot 1 (some .boolean) ∈ lw_tg := tg_of (mt_2 _ (List.mem_of_getElem? (i := 224) (by rfl))) (by rfl)
theorem tw_725 : Cond.methodLink RL 103 yX3_save ∈ lw_tg := tg_of (mt_4 _ (List.mem_of_getElem? (i := 78) (by rfl))) (by rfl)
theorem tw_726 : Cond.instanceMethod yX3_save ∈ lw_tg := tg_of (mt_4 _ (List.mem_of_getElem? (i := 79) (by rfl))) (by rfl)
theorem tw_727 : Cond.selects RX3 yX3_save yX3_save ∈ lw_tg := tg_of (mt_4 _ (List.mem_of_getElem? (i := 80) (by rfl))) (by rfl)
theorem tw_728 : Cond.code yX3_save cX3_save 2 (some .int) ∈ lw_tg := tg_of (mt_4 _ (List.mem_of_getElem? (i := 81) (by rfl))) (by rfl)
theorem tw_729 : Cond.methodLink RX3 240 yX3_isSlot ∈ lw_tg := tg_of (mt_4 _ (List.mem_of_getElem? (i := 82) (by rfl))) (by rfl)
theorem tw_730 : Cond.static yX3_isSlot ∈ lw_tg := tg_of (mt_4 _ (List.mem_of_getElem? (i := 83) (by rfl))) (by rfl)
theorem tw_731 : Cond.code yX3_isSlot cX3_isSlot 1 (some .boolean) ∈ lw_tg := tg_of (mt_4 _ (List.mem_of_getElem? (i := 84) (by rfl))) (by rfl)
theorem tw_732 : Cond.methodLink RL 104 yX2_restore ∈ lw_tg := tg_of (mt_2 _ (List.mem_of_getElem? (i := 225) (by rfl))) (by rfl)
theorem tw_733 : Cond.instanceMethod yX2_restore ∈ lw_tg := tg_of (mt_2 _ (List.mem_of_getElem? (i := 226) (by rfl))) (by rfl)
theorem tw_734 : Cond.selects RX2 yX2_restore yX2_restore ∈ lw_tg := tg_of (mt_2 _ (List.mem_of_getElem? (i := 227) (by rfl))) (by rfl)
theorem tw_735 : Cond.code yX2_restore cX2_restore 2 (some .int) ∈ lw_tg := tg_of (mt_2 _ (List.mem_of_getElem? (i := 228) (by rfl))) (by rfl)
theorem tw_736 : Cond.methodLink RL 107 yX3_restore ∈ lw_tg := tg_of (mt_4 _ (List.mem_of_getElem? (i := 85) (by rfl))) (by rfl)
theorem tw_737 : Cond.instanceMethod yX3_restore ∈ lw_tg := tg_of (mt_4 _ (List.mem_of_getElem? (i := 86) (by rfl))) (by rfl)
theorem tw_738 : Cond.selects RX3 yX3_restore yX3_restore ∈ lw_tg := tg_of (mt_4 _ (List.mem_of_getElem? (i := 87) (by rfl))) (by rfl)
theorem tw_739 : Cond.code yX3_restore cX3_restore 2 (some .int) ∈ lw_tg := tg_of (mt_4 _ (List.mem_of_getElem? (i := 88) (by rfl))) (by rfl)
end
section
/-! A judgement of its own over the kit's W: all that a walk carries is bundled in one tuple G. -/
abbrev GT : Type := Program × Launch × Env × Room × State × MethodId × Array Value × List Frame × Method × Code × va_G × (ClassId × ClassId × ClassId) × (Nat → Prop) × (Array Value → State → Outcome → State → Prop)
abbrev gp (G : GT) : Program := G.1
abbrev gl (G : GT) : Launch := G.2.1
abbrev ge (G : GT) : Env := G.2.2.1
abbrev gR (G : GT) : Room := G.2.2.2.1
abbrev gs (G : GT) : State := G.2.2.2.2.1
abbrev gm (G : GT) : MethodId := G.2.2.2.2.2.1
abbrev ga (G : GT) : Array Value := G.2.2.2.2.2.2.1
abbrev gb (G : GT) : List Frame := G.2.2.2.2.2.2.2.1
abbrev gt (G : GT) : Method := G.2.2.2.2.2.2.2.2.1
abbrev gc (G : GT) : Code := G.2.2.2.2.2.2.2.2.2.1
abbrev gD (G : GT) : va_G := G.2.2.2.2.2.2.2.2.2.2.1
abbrev gk (G : GT) : ClassId × ClassId × ClassId := G.2.2.2.2.2.2.2.2.2.2.2.1
abbrev gA (G : GT) : Nat → Prop := G.2.2.2.2.2.2.2.2.2.2.2.2.1
abbrev gQ (G : GT) : Array Value → State → Outcome → State → Prop := G.2.2.2.2.2.2.2.2.2.2.2.2.2
abbrev TYs (cs : ClassId × ClassId × ClassId) : List (ClassId × FieldType) := [(cs.1, .int), (cs.2.1, .boolean), (cs.2.2, .array .int)]
def Rmd (d : Nat) : Room := { frames := d, cells := 0, slots := 0, locals := 30 * d }
def aI (cs : ClassId × ClassId × ClassId) (n : Nat) (f : Nat → Int32) : va_E := .inl (cs.1, n, .inl f)
def aZ (cs : ClassId × ClassId × ClassId) (n : Nat) (f : Nat → Int32) : va_E := .inl (cs.2.1, n, .inl f)
def aQ (cs : ClassId × ClassId × ClassId) (n : Nat) (f : Nat → Option Nat) : va_E := .inl (cs.2.2, n, .inr (.inr (.inr (.inr f))))
def zV (G : GT) (nL pc : Nat) (ls : List (Nat × Value)) (st : List Value) (ws : va_W) : Prop :=
  ∀ (H : Heap) (locs : List Loc) (la : Array Slot), va_P (gD G) vwCl ws H → va_D (gA G) ws → va_S (gA G) (gs G).heap H locs → lv_has la nL ls →
    W (gp G) (gl G) (ge G) (gR G) (gs G) (gm G) (ga G) (gb G) (gt G) (gc G) H locs 0 0 (MQ (gb G) (gQ G) (ga G) (gs G) 0 0 (gA G)) (F0 (gm G) pc la st)
def zC (G : GT) (cc : ByteArray) (nL : Nat) (own : String) (ret : Option FieldType) (d : Nat) : Prop :=
  ((gp G).tables.exec = Jvm.exec ∧ (gc G).code = cc ∧ (gc G).maxLocals = nL ∧ (gs G).vm.findClass own = some (gm G).cls ∧ ∀ w ∈ lw_tg, w.before (ga G) (gs G) = true) ∧
  va_K (gD G) vwCl (TYs (gk G)) (gs G) ∧ gR G = Rmd d ∧ (gt G).locks = false ∧ (gt G).sig.returnType = ret ∧ (∀ q : Nat, (gs G).heap.size ≤ q → gA G q)
/-- the end of a method: what is owed at it -/
def zF (G : GT) (rv : Option Value) (ws : va_W) : Prop :=
  ∀ (H : Heap) (locs : List Loc) (t : State), va_P (gD G) vwCl ws H → va_S (gA G) (gs G).heap H locs → t.heap = H → gQ G (ga G) (gs G) (.returned rv) t
section ZROWS
variable {G : GT} {cc : ByteArray} {nL : Nat} {own : String} {ret : Option FieldType} {d pc : Nat} {ls : List (Nat × Value)} {st : List Value} {ws : va_W}
theorem z_iconst {n : Int} {v : Int32} (C : zC G cc nL own ret d) (hd : decode cc pc = .ok (.iconst n, 1)) (hv : Int32.ofInt n = v) (k : zV G nL (pc + 1) ls (.int v :: st) ws) : zV G nL pc ls st ws := fun H locs la hP hD hS hl => lv_iconst C.1.1 C.1.2.1 hd hv (k H locs la hP hD hS hl)
theorem z_bipush {n : Int} {v : Int32} (C : zC G cc nL own ret d) (hd : decode cc pc = .ok (.bipush n, 2)) (hv : (Int8.ofInt n).toInt32 = v) (k : zV G nL (pc + 2) ls (.int v :: st) ws) : zV G nL pc ls st ws := fun H locs la hP hD hS hl => lv_bipush C.1.1 C.1.2.1 hd hv (k H locs la hP hD hS hl)
theorem z_sipush {n : Int} {v : Int32} (C : zC G cc nL own ret d) (hd : decode cc pc = .ok (.sipush n, 3)) (hv : (Int16.ofInt n).toInt32 = v) (k : zV G nL (pc + 3) ls (.int v :: st) ws) : zV G nL pc ls st ws := fun H locs la hP hD hS hl => lv_sipush C.1.1 C.1.2.1 hd hv (k H locs la hP hD hS hl)
theorem z_lconst {n : Fin 2} {v : Int64} (C : zC G cc nL own ret d) (hd : decode cc pc = .ok (.lconst n, 1)) (hv : Int64.ofNat (n : Nat) = v) (k : zV G nL (pc + 1) ls (.long v :: st) ws) : zV G nL pc ls st ws := fun H locs la hP hD hS hl => lv_lconst C.1.1 C.1.2.1 hd hv (k H locs la hP hD hS hl)
theorem z_iload_n {n : Fin 4} {x : Int32} (j : Nat) (C : zC G cc nL own ret d) (hd : decode cc pc = .ok (.iload_n n, 1)) (hj : ls[j]? = some ((n : Nat), .int x)) (k : zV G nL (pc + 1) ls (.int x :: st) ws) : zV G nL pc ls st ws := fun H locs la hP hD hS hl => lv_iload_n C.1.1 C.1.2.1 hd rfl (lv_at hl j hj) (k H locs la hP hD hS hl)
theorem z_iload {n : Nat} {x : Int32} (j : Nat) (C : zC G cc nL own ret d) (hd : decode cc pc = .ok (.iload n, 2)) (hj : ls[j]? = some (n, .int x)) (k : zV G nL (pc + 2) ls (.int x :: st) ws) : zV G nL pc ls st ws := fun H locs la hP hD hS hl => lv_iload C.1.1 C.1.2.1 hd (lv_at hl j hj) (k H locs la hP hD hS hl)
theorem z_lload_n {n : Fin 4} {x : Int64} (j : Nat) (C : zC G cc nL own ret d) (hd : decode cc pc = .ok (.lload_n n, 1)) (hj : ls[j]? = some ((n : Nat), .long x)) (k : zV G nL (pc + 1) ls (.long x :: st) ws) : zV G nL pc ls st ws := fun H locs la hP hD hS hl => lv_lload_n C.1.1 C.1.2.1 hd rfl (lv_at hl j hj) (k H locs la hP hD hS hl)
theorem z_lload {n : Nat} {x : Int64} (j : Nat) (C : zC G cc nL own ret d) (hd : decode cc pc = .ok (.lload n, 2)) (hj : ls[j]? = some (n, .long x)) (k : zV G nL (pc + 2) ls (.long x :: st) ws) : zV G nL pc ls st ws := fun H locs la hP hD hS hl => lv_lload C.1.1 C.1.2.1 hd (lv_at hl j hj) (k H locs la hP hD hS hl)
theorem z_aload_n {n : Fin 4} {a : Nat} (j : Nat) (C : zC G cc nL own ret d) (hd : decode cc pc = .ok (.aload_n n, 1)) (hj : ls[j]? = some ((n : Nat), .ref a)) (k : zV G nL (pc + 1) ls (.ref a :: st) ws) : zV G nL pc ls st ws := fun H locs la hP hD hS hl => lv_aload_n C.1.1 C.1.2.1 hd rfl (lv_at hl j hj) (k H locs la hP hD hS hl)
theorem z_istore_n {n : Fin 4} {x : Int32} {ls' : List (Nat × Value)} (C : zC G cc nL own ret d) (hd : decode cc pc = .ok (.istore_n n, 1)) (hn : (n : Nat) < nL) (hl' : ((n : Nat), Value.int x) :: ls.filter (fun q => !(q.1 == (n : Nat)) && !(q.1 + 1 == (n : Nat) && q.2.category == 2)) = ls') (k : zV G nL (pc + 1) ls' st ws) : zV G nL pc ls (.int x :: st) ws := fun H locs _ hP hD hS hl => lv_istore_n C.1.1 C.1.2.1 hd rfl hl hn hl' (fun la' h' => k H locs la' hP hD hS h')
theorem z_istore {n : Nat} {x : Int32} {ls' : List (Nat × Value)} (C : zC G cc nL own ret d) (hd : decode cc pc = .ok (.istore n, 2)) (hn : n < nL) (hl' : (n, Value.int x) :: ls.filter (fun q => !(q.1 == n) && !(q.1 + 1 == n && q.2.category == 2)) = ls') (k : zV G nL (pc + 2) ls' st ws) : zV G nL pc ls (.int x :: st) ws := fun H locs _ hP hD hS hl => lv_istore C.1.1 C.1.2.1 hd hl hn hl' (fun la' h' => k H locs la' hP hD hS h')
theorem z_lstore_n {n : Fin 4} {x : Int64} {ls' : List (Nat × Value)} (C : zC G cc nL own ret d) (hd : decode cc pc = .ok (.lstore_n n, 1)) (hn : (n : Nat) + 1 < nL) (hl' : ((n : Nat), Value.long x) :: ls.filter (fun q => !(q.1 == (n : Nat)) && (!(q.1 == (n : Nat) + 1) && !(q.1 + 1 == (n : Nat) && q.2.category == 2))) = ls') (k : zV G nL (pc + 1) ls' st ws) : zV G nL pc ls (.long x :: st) ws := fun H locs _ hP hD hS hl => lv_lstore_n C.1.1 C.1.2.1 hd rfl hl hn hl' (fun la' h' => k H locs la' hP hD hS h')
theorem z_iinc {i : Nat} {n : Int} {x n' v : Int32} {ls' : List (Nat × Value)} (j : Nat) (C : zC G cc nL own ret d) (hd : decode cc pc = .ok (.iinc i n, 3)) (hj : ls[j]? = some (i, .int x)) (hn' : Int32.ofInt n = n') (hv : x + n' = v) (hn : i < nL) (hl' : (i, Value.int v) :: ls.filter (fun q => !(q.1 == i) && !(q.1 + 1 == i && q.2.category == 2)) = ls') (k : zV G nL (pc + 3) ls' st ws) : zV G nL pc ls st ws := fun H locs _ hP hD hS hl => lv_iinc C.1.1 C.1.2.1 hd hl hj (by rw [hn']; exact hv) hn hl' (fun la' h' => k H locs la' hP hD hS h')
/-- a name for the top -/
theorem z_top {x x' : Int32} (he : x = x') (k : zV G nL pc ls (.int x' :: st) ws) : zV G nL pc ls (.int x :: st) ws := he ▸ k
theorem z_topl {x x' : Int64} (he : x = x') (k : zV G nL pc ls (.long x' :: st) ws) : zV G nL pc ls (.long x :: st) ws := he ▸ k
theorem z_sub {ls' : List (Nat × Value)} (ks : List Nat) (h : lv_pick ls ks = ls') (k : zV G nL pc ls' st ws) : zV G nL pc ls st ws := fun H locs la hP hD hS hl => k H locs la hP hD hS (lv_sub hl ks h)
theorem z_iadd {x y : Int32} (C : zC G cc nL own ret d) (hd : decode cc pc = .ok (.iadd, 1)) (k : zV G nL (pc + 1) ls (.int (x + y) :: st) ws) : zV G nL pc ls (.int y :: .int x :: st) ws := fun H locs la hP hD hS hl => lv_iadd C.1.1 C.1.2.1 hd (k H locs la hP hD hS hl)
theorem z_isub {x y : Int32} (C : zC G cc nL own ret d) (hd : decode cc pc = .ok (.isub, 1)) (k : zV G nL (pc + 1) ls (.int (x - y) :: st) ws) : zV G nL pc ls (.int y :: .int x :: st) ws := fun H locs la hP hD hS hl => lv_isub C.1.1 C.1.2.1 hd (k H locs la hP hD hS hl)
theorem z_imul {x y : Int32} (C : zC G cc nL own ret d) (hd : decode cc pc = .ok (.imul, 1)) (k : zV G nL (pc + 1) ls (.int (x * y) :: st) ws) : zV G nL pc ls (.int y :: .int x :: st) ws := fun H locs la hP hD hS hl => lv_imul C.1.1 C.1.2.1 hd (k H locs la hP hD hS hl)
theorem z_iand {x y : Int32} (C : zC G cc nL own ret d) (hd : decode cc pc = .ok (.iand, 1)) (k : zV G nL (pc + 1) ls (.int (x &&& y) :: st) ws) : zV G nL pc ls (.int y :: .int x :: st) ws := fun H locs la hP hD hS hl => lv_iand C.1.1 C.1.2.1 hd (k H locs la hP hD hS hl)
theorem z_ior {x y : Int32} (C : zC G cc nL own ret d) (hd : decode cc pc = .ok (.ior, 1)) (k : zV G nL (pc + 1) ls (.int (x ||| y) :: st) ws) : zV G nL pc ls (.int y :: .int x :: st) ws := fun H locs la hP hD hS hl => lv_ior C.1.1 C.1.2.1 hd (k H locs la hP hD hS hl)
theorem z_ixor {x y : Int32} (C : zC G cc nL own ret d) (hd : decode cc pc = .ok (.ixor, 1)) (k : zV G nL (pc + 1) ls (.int (x ^^^ y) :: st) ws) : zV G nL pc ls (.int y :: .int x :: st) ws := fun H locs la hP hD hS hl => lv_ixor C.1.1 C.1.2.1 hd (k H locs la hP hD hS hl)
theorem z_ineg {x : Int32} (C : zC G cc nL own ret d) (hd : decode cc pc = .ok (.ineg, 1)) (k : zV G nL (pc + 1) ls (.int (-x) :: st) ws) : zV G nL pc ls (.int x :: st) ws := fun H locs la hP hD hS hl => lv_ineg C.1.1 C.1.2.1 hd (k H locs la hP hD hS hl)
theorem z_idiv {x y : Int32} (C : zC G cc nL own ret d) (hd : decode cc pc = .ok (.idiv, 1)) (hne : ¬ y = 0) (k : zV G nL (pc + 1) ls (.int (x / y) :: st) ws) : zV G nL pc ls (.int y :: .int x :: st) ws := fun H locs la hP hD hS hl => lv_idiv C.1.1 C.1.2.1 hd hne (k H locs la hP hD hS hl)
theorem z_irem {x y : Int32} (C : zC G cc nL own ret d) (hd : decode cc pc = .ok (.irem, 1)) (hne : ¬ y = 0) (k : zV G nL (pc + 1) ls (.int (x - x / y * y) :: st) ws) : zV G nL pc ls (.int y :: .int x :: st) ws := fun H locs la hP hD hS hl => lv_irem C.1.1 C.1.2.1 hd hne (k H locs la hP hD hS hl)
theorem z_ishl {x y : Int32} (C : zC G cc nL own ret d) (hd : decode cc pc = .ok (.ishl, 1)) (k : zV G nL (pc + 1) ls (.int (x <<< (y &&& 31)) :: st) ws) : zV G nL pc ls (.int y :: .int x :: st) ws := fun H locs la hP hD hS hl => lv_ishl C.1.1 C.1.2.1 hd (k H locs la hP hD hS hl)
theorem z_ishr {x y : Int32} (C : zC G cc nL own ret d) (hd : decode cc pc = .ok (.ishr, 1)) (k : zV G nL (pc + 1) ls (.int (x >>> (y &&& 31)) :: st) ws) : zV G nL pc ls (.int y :: .int x :: st) ws := fun H locs la hP hD hS hl => lv_ishr C.1.1 C.1.2.1 hd (k H locs la hP hD hS hl)
def zushr (x y : Int32) : Int32 := (x.toUInt32 >>> (y.toUInt32 &&& Int32.toUInt32 31)).toInt32
def zlushr (x : Int64) (y : Int32) : Int64 := (x.toUInt64 >>> (y.toInt64.toUInt64 &&& Int64.toUInt64 63)).toInt64
def zlshl (x : Int64) (y : Int32) : Int64 := x <<< (y.toInt64 &&& 63)
theorem z_iushr {x y : Int32} (C : zC G cc nL own ret d) (hd : decode cc pc = .ok (.iushr, 1)) (k : zV G nL (pc + 1) ls (.int (zushr x y) :: st) ws) : zV G nL pc ls (.int y :: .int x :: st) ws := fun H locs la hP hD hS hl => lv_iushr C.1.1 C.1.2.1 hd rfl (k H locs la hP hD hS hl)
theorem z_lushr {x : Int64} {y : Int32} (C : zC G cc nL own ret d) (hd : decode cc pc = .ok (.lushr, 1)) (k : zV G nL (pc + 1) ls (.long (zlushr x y) :: st) ws) : zV G nL pc ls (.int y :: .long x :: st) ws := fun H locs la hP hD hS hl => lv_lushr C.1.1 C.1.2.1 hd rfl (k H locs la hP hD hS hl)
theorem z_lshl {x : Int64} {y : Int32} (C : zC G cc nL own ret d) (hd : decode cc pc = .ok (.lshl, 1)) (k : zV G nL (pc + 1) ls (.long (zlshl x y) :: st) ws) : zV G nL pc ls (.int y :: .long x :: st) ws := fun H locs la hP hD hS hl => lv_lshl C.1.1 C.1.2.1 hd rfl (k H locs la hP hD hS hl)
theorem z_land {x y : Int64} (C : zC G cc nL own ret d) (hd : decode cc pc = .ok (.land, 1)) (k : zV G nL (pc + 1) ls (.long (x &&& y) :: st) ws) : zV G nL pc ls (.long y :: .long x :: st) ws := fun H locs la hP hD hS hl => lv_land C.1.1 C.1.2.1 hd (k H locs la hP hD hS hl)
theorem z_lor {x y : Int64} (C : zC G cc nL own ret d) (hd : decode cc pc = .ok (.lor, 1)) (k : zV G nL (pc + 1) ls (.long (x ||| y) :: st) ws) : zV G nL pc ls (.long y :: .long x :: st) ws := fun H locs la hP hD hS hl => lv_lor C.1.1 C.1.2.1 hd (k H locs la hP hD hS hl)
theorem z_l2i {x : Int64} (C : zC G cc nL own ret d) (hd : decode cc pc = .ok (.l2i, 1)) (k : zV G nL (pc + 1) ls (.int x.toInt32 :: st) ws) : zV G nL pc ls (.long x :: st) ws := fun H locs la hP hD hS hl => lv_l2i C.1.1 C.1.2.1 hd rfl (k H locs la hP hD hS hl)
theorem z_i2l {x : Int32} (C : zC G cc nL own ret d) (hd : decode cc pc = .ok (.i2l, 1)) (k : zV G nL (pc + 1) ls (.long x.toInt64 :: st) ws) : zV G nL pc ls (.int x :: st) ws := fun H locs la hP hD hS hl => lv_i2l C.1.1 C.1.2.1 hd rfl (k H locs la hP hD hS hl)
theorem z_lcmp {x y : Int64} (C : zC G cc nL own ret d) (hd : decode cc pc = .ok (.lcmp, 1)) (k : zV G nL (pc + 1) ls (.int (lg_cmp x y) :: st) ws) : zV G nL pc ls (.long y :: .long x :: st) ws := fun H locs la hP hD hS hl => W.lcmp C.1.1 C.1.2.1 hd (k H locs la hP hD hS hl)
theorem z_dup {v : Value} (C : zC G cc nL own ret d) (hd : decode cc pc = .ok (.dup, 1)) (hv : v.category = 1) (k : zV G nL (pc + 1) ls (v :: v :: st) ws) : zV G nL pc ls (v :: st) ws := fun H locs la hP hD hS hl => lv_dup C.1.1 C.1.2.1 hd hv (k H locs la hP hD hS hl)
theorem z_dup2 {u v : Value} (C : zC G cc nL own ret d) (hd : decode cc pc = .ok (.dup2, 1)) (hu : u.category = 1) (hv : v.category = 1) (k : zV G nL (pc + 1) ls (u :: v :: u :: v :: st) ws) : zV G nL pc ls (u :: v :: st) ws := fun H locs la hP hD hS hl => lv_dup2_11 C.1.1 C.1.2.1 hd hu hv (k H locs la hP hD hS hl)
theorem z_pop {v : Value} (C : zC G cc nL own ret d) (hd : decode cc pc = .ok (.pop, 1)) (hv : v.category = 1) (k : zV G nL (pc + 1) ls st ws) : zV G nL pc ls (v :: st) ws := fun H locs la hP hD hS hl => lv_pop C.1.1 C.1.2.1 hd hv (k H locs la hP hD hS hl)
theorem z_goto {off : Int} {tgt : Nat} (C : zC G cc nL own ret d) (hd : decode cc pc = .ok (.goto off, 3)) (ht : (pc : Int) + off = (tgt : Int)) (k : zV G nL tgt ls st ws) : zV G nL pc ls st ws := fun H locs la hP hD hS hl => lv_goto C.1.1 C.1.2.1 hd ht (k H locs la hP hD hS hl)
theorem z_icmp_eq {x y : Int32} {off : Int} {tgt : Nat} (C : zC G cc nL own ret d) (hd : decode cc pc = .ok (.if_icmp .eq off, 3)) (ht : (pc : Int) + off = (tgt : Int)) (kt : x = y → zV G nL tgt ls st ws) (kf : ¬ x = y → zV G nL (pc + 3) ls st ws) : zV G nL pc ls (.int y :: .int x :: st) ws := fun H locs la hP hD hS hl => lv_icmp_eq C.1.1 C.1.2.1 hd ht (fun h => kt h H locs la hP hD hS hl) (fun h => kf h H locs la hP hD hS hl)
theorem z_icmp_ne {x y : Int32} {off : Int} {tgt : Nat} (C : zC G cc nL own ret d) (hd : decode cc pc = .ok (.if_icmp .ne off, 3)) (ht : (pc : Int) + off = (tgt : Int)) (kt : ¬ x = y → zV G nL tgt ls st ws) (kf : x = y → zV G nL (pc + 3) ls st ws) : zV G nL pc ls (.int y :: .int x :: st) ws := fun H locs la hP hD hS hl => lv_icmp_ne C.1.1 C.1.2.1 hd ht (fun h => kt h H locs la hP hD hS hl) (fun h => kf h H locs la hP hD hS hl)
theorem z_icmp_lt {x y : Int32} {off : Int} {tgt : Nat} (C : zC G cc nL own ret d) (hd : decode cc pc = .ok (.if_icmp .lt off, 3)) (ht : (pc : Int) + off = (tgt : Int)) (kt : x < y → zV G nL tgt ls st ws) (kf : ¬ x < y → zV G nL (pc + 3) ls st ws) : zV G nL pc ls (.int y :: .int x :: st) ws := fun H locs la hP hD hS hl => lv_icmp_lt C.1.1 C.1.2.1 hd ht (fun h => kt h H locs la hP hD hS hl) (fun h => kf h H locs la hP hD hS hl)
theorem z_icmp_ge {x y : Int32} {off : Int} {tgt : Nat} (C : zC G cc nL own ret d) (hd : decode cc pc = .ok (.if_icmp .ge off, 3)) (ht : (pc : Int) + off = (tgt : Int)) (kt : y ≤ x → zV G nL tgt ls st ws) (kf : ¬ y ≤ x → zV G nL (pc + 3) ls st ws) : zV G nL pc ls (.int y :: .int x :: st) ws := fun H locs la hP hD hS hl => lv_icmp_ge C.1.1 C.1.2.1 hd ht (fun h => kt h H locs la hP hD hS hl) (fun h => kf h H locs la hP hD hS hl)
theorem z_icmp_gt {x y : Int32} {off : Int} {tgt : Nat} (C : zC G cc nL own ret d) (hd : decode cc pc = .ok (.if_icmp .gt off, 3)) (ht : (pc : Int) + off = (tgt : Int)) (kt : y < x → zV G nL tgt ls st ws) (kf : ¬ y < x → zV G nL (pc + 3) ls st ws) : zV G nL pc ls (.int y :: .int x :: st) ws := fun H locs la hP hD hS hl => lv_icmp_gt C.1.1 C.1.2.1 hd ht (fun h => kt h H locs la hP hD hS hl) (fun h => kf h H locs la hP hD hS hl)
theorem z_icmp_le {x y : Int32} {off : Int} {tgt : Nat} (C : zC G cc nL own ret d) (hd : decode cc pc = .ok (.if_icmp .le off, 3)) (ht : (pc : Int) + off = (tgt : Int)) (kt : x ≤ y → zV G nL tgt ls st ws) (kf : ¬ x ≤ y → zV G nL (pc + 3) ls st ws) : zV G nL pc ls (.int y :: .int x :: st) ws := fun H locs la hP hD hS hl => lv_icmp_le C.1.1 C.1.2.1 hd ht (fun h => kt h H locs la hP hD hS hl) (fun h => kf h H locs la hP hD hS hl)
theorem z_if_eq {x : Int32} {off : Int} {tgt : Nat} (C : zC G cc nL own ret d) (hd : decode cc pc = .ok (.ifCond .eq off, 3)) (ht : (pc : Int) + off = (tgt : Int)) (kt : x = 0 → zV G nL tgt ls st ws) (kf : ¬ x = 0 → zV G nL (pc + 3) ls st ws) : zV G nL pc ls (.int x :: st) ws := fun H locs la hP hD hS hl => lv_if_eq C.1.1 C.1.2.1 hd ht (fun h => kt h H locs la hP hD hS hl) (fun h => kf h H locs la hP hD hS hl)
theorem z_if_ne {x : Int32} {off : Int} {tgt : Nat} (C : zC G cc nL own ret d) (hd : decode cc pc = .ok (.ifCond .ne off, 3)) (ht : (pc : Int) + off = (tgt : Int)) (kt : ¬ x = 0 → zV G nL tgt ls st ws) (kf : x = 0 → zV G nL (pc + 3) ls st ws) : zV G nL pc ls (.int x :: st) ws := fun H locs la hP hD hS hl => lv_if_ne C.1.1 C.1.2.1 hd ht (fun h => kt h H locs la hP hD hS hl) (fun h => kf h H locs la hP hD hS hl)
theorem z_if_lt {x : Int32} {off : Int} {tgt : Nat} (C : zC G cc nL own ret d) (hd : decode cc pc = .ok (.ifCond .lt off, 3)) (ht : (pc : Int) + off = (tgt : Int)) (kt : x < 0 → zV G nL tgt ls st ws) (kf : ¬ x < 0 → zV G nL (pc + 3) ls st ws) : zV G nL pc ls (.int x :: st) ws := fun H locs la hP hD hS hl => lv_if_lt C.1.1 C.1.2.1 hd ht (fun h => kt h H locs la hP hD hS hl) (fun h => kf h H locs la hP hD hS hl)
theorem z_if_ge {x : Int32} {off : Int} {tgt : Nat} (C : zC G cc nL own ret d) (hd : decode cc pc = .ok (.ifCond .ge off, 3)) (ht : (pc : Int) + off = (tgt : Int)) (kt : 0 ≤ x → zV G nL tgt ls st ws) (kf : ¬ 0 ≤ x → zV G nL (pc + 3) ls st ws) : zV G nL pc ls (.int x :: st) ws := fun H locs la hP hD hS hl => lv_if_ge C.1.1 C.1.2.1 hd ht (fun h => kt h H locs la hP hD hS hl) (fun h => kf h H locs la hP hD hS hl)
theorem z_if_gt {x : Int32} {off : Int} {tgt : Nat} (C : zC G cc nL own ret d) (hd : decode cc pc = .ok (.ifCond .gt off, 3)) (ht : (pc : Int) + off = (tgt : Int)) (kt : 0 < x → zV G nL tgt ls st ws) (kf : ¬ 0 < x → zV G nL (pc + 3) ls st ws) : zV G nL pc ls (.int x :: st) ws := fun H locs la hP hD hS hl => lv_if_gt C.1.1 C.1.2.1 hd ht (fun h => kt h H locs la hP hD hS hl) (fun h => kf h H locs la hP hD hS hl)
theorem z_if_le {x : Int32} {off : Int} {tgt : Nat} (C : zC G cc nL own ret d) (hd : decode cc pc = .ok (.ifCond .le off, 3)) (ht : (pc : Int) + off = (tgt : Int)) (kt : x ≤ 0 → zV G nL tgt ls st ws) (kf : ¬ x ≤ 0 → zV G nL (pc + 3) ls st ws) : zV G nL pc ls (.int x :: st) ws := fun H locs la hP hD hS hl => lv_if_le C.1.1 C.1.2.1 hd ht (fun h => kt h H locs la hP hD hS hl) (fun h => kf h H locs la hP hD hS hl)
theorem z_tabIn {dflt lo hi : Int} {offs : Array Int} {len : Nat} {x x0 : Int32} {off : Int} {tgt : Nat} (C : zC G cc nL own ret d) (hd : decode cc pc = .ok (.tableswitch dflt lo hi offs, len)) (hx : x = x0) (h1 : ¬ x0.toInt < lo) (h2 : ¬ hi < x0.toInt) (ho : offs[(x0.toInt - lo).toNat]? = some off) (ht : (pc : Int) + off = (tgt : Int)) (k : zV G nL tgt ls st ws) : zV G nL pc ls (.int x :: st) ws := by
  subst hx
  exact fun H locs la hP hD hS hl => lv_tableIn C.1.1 C.1.2.1 hd h1 h2 ho ht (k H locs la hP hD hS hl)
theorem z_tabOut {dflt lo hi : Int} {offs : Array Int} {len : Nat} {x : Int32} {tgt : Nat} (C : zC G cc nL own ret d) (hd : decode cc pc = .ok (.tableswitch dflt lo hi offs, len)) (h : x.toInt < lo ∨ hi < x.toInt) (ht : (pc : Int) + dflt = (tgt : Int)) (k : zV G nL tgt ls st ws) : zV G nL pc ls (.int x :: st) ws := fun H locs la hP hD hS hl => lv_tableOut C.1.1 C.1.2.1 hd h ht (k H locs la hP hD hS hl)
theorem z_look {dflt : Int} {ps : Array (Int × Int)} {len : Nat} {x : Int32} {off : Int} {tgt : Nat} (C : zC G cc nL own ret d) (hd : decode cc pc = .ok (.lookupswitch dflt ps, len)) (hp : (ps.toList.zip (ps.toList.drop 1)).all (fun (a, next) => a.1 < next.1) = true) (ho : Op.lookupswitch.offset ps.toList dflt x.toInt = off) (ht : (pc : Int) + off = (tgt : Int)) (k : zV G nL tgt ls st ws) : zV G nL pc ls (.int x :: st) ws := fun H locs la hP hD hS hl => lv_lookup C.1.1 C.1.2.1 hd hp ho ht (k H locs la hP hD hS hl)
theorem z_ldc {index : Nat} {v : Int32} (C : zC G cc nL own ret d) (hd : decode cc pc = .ok (.ldc index, 2)) (hw : Cond.constant own index v ∈ lw_tg) (k : zV G nL (pc + 2) ls (.int v :: st) ws) : zV G nL pc ls st ws := fun H locs la hP hD hS hl => lv_ldc C.1.1 C.1.2.1 C.1.2.2.2.1 (C.1.2.2.2.2 _ hw) hd (k H locs la hP hD hS hl)
theorem z_ldcw {index : Nat} {v : Int32} (C : zC G cc nL own ret d) (hd : decode cc pc = .ok (.ldc_w index, 3)) (hw : Cond.constant own index v ∈ lw_tg) (k : zV G nL (pc + 3) ls (.int v :: st) ws) : zV G nL pc ls st ws := fun H locs la hP hD hS hl => lv_ldcw C.1.1 C.1.2.1 C.1.2.2.2.1 (C.1.2.2.2.2 _ hw) hd (k H locs la hP hD hS hl)
theorem z_ldc2 {index : Nat} {v : Int64} (C : zC G cc nL own ret d) (hd : decode cc pc = .ok (.ldc2_w index, 3)) (hw : Cond.constantLong own index v ∈ lw_tg) (k : zV G nL (pc + 3) ls (.long v :: st) ws) : zV G nL pc ls st ws := fun H locs la hP hD hS hl => lv_ldc2 C.1.1 C.1.2.1 C.1.2.2.2.1 (C.1.2.2.2.2 _ hw) hd (k H locs la hP hD hS hl)
/-- an index in its row, and its place -/
def zin (i : Int32) (n k : Nat) : Prop := vp_in i n ∧ i.toNatClampNeg = k
theorem z_iald (q0 : Nat) {n : Nat} {f : Nat → Int32} {a k : Nat} {i : Int32} (C : zC G cc nL own ret d) (hd : decode cc pc = .ok (.iaload, 1)) (hi : zin i n k) (ha : ws[q0]? = some (a, aI (gk G) n f)) (kk : zV G nL (pc + 1) ls (.int (f k) :: st) ws) : zV G nL pc ls (.int i :: .ref a :: st) ws := by
  obtain ⟨h1, rfl⟩ := hi
  exact fun H locs la hP hD hS hl => va_iald C.1.1 C.1.2.1 C.2.1 hP q0 0 ha rfl h1 hd (kk H locs la hP hD hS hl)
theorem z_zald (q0 : Nat) {n : Nat} {f : Nat → Int32} {a k : Nat} {i : Int32} (C : zC G cc nL own ret d) (hd : decode cc pc = .ok (.baload, 1)) (hi : zin i n k) (ha : ws[q0]? = some (a, aZ (gk G) n f)) (kk : zV G nL (pc + 1) ls (.int (f k) :: st) ws) : zV G nL pc ls (.int i :: .ref a :: st) ws := by
  obtain ⟨h1, rfl⟩ := hi
  exact fun H locs la hP hD hS hl => va_zald C.1.1 C.1.2.1 C.2.1 hP q0 1 ha rfl h1 hd (kk H locs la hP hD hS hl)
theorem z_aald (q0 : Nat) {n : Nat} {f : Nat → Option Nat} {a k : Nat} {i : Int32} (C : zC G cc nL own ret d) (hd : decode cc pc = .ok (.aaload, 1)) (hi : zin i n k) (ha : ws[q0]? = some (a, aQ (gk G) n f)) (kk : zV G nL (pc + 1) ls (va_rf (f k) :: st) ws) : zV G nL pc ls (.int i :: .ref a :: st) ws := by
  obtain ⟨h1, rfl⟩ := hi
  intro H locs la hP hD hS hl
  have hlt : i.toNatClampNeg < n := Nat.not_le.mp fun q => h1 (Or.inr q)
  exact W.aald (v := va_rf (f i.toNatClampNeg)) (ty := .array .int) C.1.1 C.1.2.1 (hP q0 _ ha) ((C.2.1.2 2 _ rfl).1 n (fun j => va_rf (f j))) rfl (fun q => by cases q) (by show ¬ (i < 0 ∨ (arrV _ _ _).slots.size ≤ _); rw [arrV_size]; exact h1) (by show (arrV _ _ _).slots[_]? = _; rw [arrV_read _ _ hlt]) rfl rfl hd (kk H locs la hP hD hS hl)
theorem z_iast (q0 : Nat) {n : Nat} {f f' : Nat → Int32} {a k : Nat} {i x : Int32} {ws' : va_W} (C : zC G cc nL own ret d) (hd : decode cc pc = .ok (.iastore, 1)) (hi : zin i n k) (ha : ws[q0]? = some (a, aI (gk G) n f)) (he : upd f k x = f') (hw : ws.set q0 (a, aI (gk G) n f') = ws') (kk : zV G nL (pc + 1) ls st ws') : zV G nL pc ls (.int x :: .int i :: .ref a :: st) ws := by
  obtain ⟨h1, rfl⟩ := hi
  subst he
  subst hw
  exact fun H locs la hP hD hS hl => va_iast C.1.1 C.1.2.1 C.2.1 hP hD hS q0 0 ha rfl h1 hd (fun H1 locs1 hP1 hD1 hS1 => kk H1 locs1 la hP1 hD1 hS1 hl)
theorem z_zast (q0 : Nat) {n : Nat} {f f' : Nat → Int32} {a k : Nat} {i x : Int32} {ws' : va_W} (C : zC G cc nL own ret d) (hd : decode cc pc = .ok (.bastore, 1)) (hi : zin i n k) (ha : ws[q0]? = some (a, aZ (gk G) n f)) (he : upd f k (vp_nar .boolean x) = f') (hw : ws.set q0 (a, aZ (gk G) n f') = ws') (kk : zV G nL (pc + 1) ls st ws') : zV G nL pc ls (.int x :: .int i :: .ref a :: st) ws := by
  obtain ⟨h1, rfl⟩ := hi
  subst he
  subst hw
  exact fun H locs la hP hD hS hl => va_zast C.1.1 C.1.2.1 C.2.1 hP hD hS q0 1 ha rfl h1 hd (fun H1 locs1 hP1 hD1 hS1 => kk H1 locs1 la hP1 hD1 hS1 hl)
theorem z_alen (q0 : Nat) {n : Nat} {f : Nat → Int32} {a : Nat} {v : Int32} (C : zC G cc nL own ret d) (hd : decode cc pc = .ok (.arraylength, 1)) (ha : ws[q0]? = some (a, aI (gk G) n f)) (hv : Int32.ofNat n = v) (kk : zV G nL (pc + 1) ls (.int v :: st) ws) : zV G nL pc ls (.ref a :: st) ws := fun H locs la hP hD hS hl => va_alen C.1.1 C.1.2.1 C.2.1 hP q0 0 ha rfl hv hd (kk H locs la hP hD hS hl)
theorem z_get {index ci N a : Nat} {Cn : String} {T : u_T} {fs : List Value} {v : Value} (q0 k : Nat) (C : zC G cc nL own ret d) (hd : decode cc pc = .ok (.getfield index, 3)) (hc : vwCl[ci]? = some (Cn, T, N)) (hin : ∀ w ∈ u_ws Cn T N, w ∈ lw_tg) (hk : k < N) (hlink : Cond.fieldLink own index (T k).1 (T k).2.1 (T k).2.2.1 ∈ lw_tg) (he : ws[q0]? = some (a, .inr (ci, fs))) (hv : fs[k]? = some v) (kk : zV G nL (pc + 3) ls (v :: st) ws) : zV G nL pc ls (.ref a :: st) ws :=
  fun H locs la hP hD hS hl => va_get C.1.1 C.1.2.1 C.1.2.2.2.2 hin C.1.2.2.2.1 C.2.1 hP q0 he hc k hk (C.1.2.2.2.2 _ hlink) (fun _ h => h) hv hd (kk H locs la hP hD hS hl)
theorem z_put {index ci N a : Nat} {Cn : String} {T : u_T} {fs : List Value} {x : Int32} {ws' : va_W} (q0 k : Nat) (C : zC G cc nL own ret d) (hd : decode cc pc = .ok (.putfield index, 3)) (hc : vwCl[ci]? = some (Cn, T, N)) (hin : ∀ w ∈ u_ws Cn T N, w ∈ lw_tg) (ty0 : Nat → FieldType) (hty : ∀ k, k < N → parseFieldDescriptor (T k).2.2.1 = some (ty0 k)) (hnm : ∀ a, a < N → ∀ b, b < N → a ≠ b → (T a).2.1 ≠ (T b).2.1) (hk : k < N) (hlink : Cond.fieldLink own index (T k).1 (T k).2.1 (T k).2.2.1 ∈ lw_tg) (hfin : (T k).2.2.2 = false) (hti : ty0 k = .int) (he : ws[q0]? = some (a, .inr (ci, fs))) (hlen : k < fs.length) (hw : ws.set q0 (a, .inr (ci, fs.set k (.int x))) = ws') (kk : zV G nL (pc + 3) ls st ws') : zV G nL pc ls (.int x :: .ref a :: st) ws := by
  subst hw
  exact fun H locs la hP hD hS hl => va_put C.1.1 C.1.2.1 C.1.2.2.2.2 hin ty0 hty hnm C.1.2.2.2.1 C.2.1 hP hD hS q0 he hc k hk (C.1.2.2.2.2 _ hlink) (fun _ h => h) hfin (hty k hk) (by rw [hti]; rfl) (by rw [hti]; rfl) hlen hd (fun H1 locs1 hP1 hD1 hS1 => kk H1 locs1 la hP1 hD1 hS1 hl)
/-- the ends -/
theorem z_iret {v : Int32} (C : zC G cc nL own (some .int) d) (hd : decode cc pc = .ok (.ireturn, 1)) (F : zF G (some (.int v)) ws) : zV G nL pc ls [.int v] ws := fun H locs la hP hD hS hl => W.iret C.1.1 C.1.2.1 C.2.2.2.2.1 (fun t ht _ => F H locs t hP hS ht) hS.2.2 hd C.2.2.2.1
theorem z_zret {v : Int32} (C : zC G cc nL own (some .boolean) d) (hd : decode cc pc = .ok (.ireturn, 1)) (hn : narrow .boolean (.int v) = .int v) (F : zF G (some (.int v)) ws) : zV G nL pc ls [.int v] ws := fun H locs la hP hD hS hl => W.zret C.1.1 C.1.2.1 C.2.2.2.2.1 hn (fun t ht _ => F H locs t hP hS ht) hS.2.2 hd C.2.2.2.1
theorem z_vret (C : zC G cc nL own none d) (hd : decode cc pc = .ok (.return_, 1)) (F : zF G none ws) : zV G nL pc ls [] ws := fun H locs la hP hD hS hl => W.vret C.1.1 C.1.2.1 C.2.2.2.2.1 (fun t ht _ => F H locs t hP hS ht) hS.2.2 hd C.2.2.2.1
end ZROWS
/-- the pure side's words: a guarded place, names, answers of callees -/
def gd {γ : Type} (i : Int32) (n : Nat) (K : Nat → Option γ) : Option γ := if i < 0 ∨ n ≤ i.toNatClampNeg then none else K i.toNatClampNeg
def nmI {α γ : Type} (x : α) (K : α → Option γ) : Option γ := K x
def b1 {α γ : Type} (o : Option α) (K : α → Option γ) : Option γ := match o with
  | none => none
  | some a => K a
def b2 {α β γ : Type} (o : Option (α × β)) (K : α → β → Option γ) : Option γ := match o with
  | none => none
  | some (a, b) => K a b
def b3 {α β δ γ : Type} (o : Option (α × β × δ)) (K : α → β → δ → Option γ) : Option γ := match o with
  | none => none
  | some (a, b, c) => K a b c
def b4 {α β δ ε γ : Type} (o : Option (α × β × δ × ε)) (K : α → β → δ → ε → Option γ) : Option γ := match o with
  | none => none
  | some (a, b, c, d) => K a b c d
def b5 {α β δ ε ζ γ : Type} (o : Option (α × β × δ × ε × ζ)) (K : α → β → δ → ε → ζ → Option γ) : Option γ := match o with
  | none => none
  | some (a, b, c, d, e) => K a b c d e
def b6 {α β δ ε ζ η γ : Type} (o : Option (α × β × δ × ε × ζ × η)) (K : α → β → δ → ε → ζ → η → Option γ) : Option γ := match o with
  | none => none
  | some (a, b, c, d, e, f) => K a b c d e f
def b7 {α β δ ε ζ η θ γ : Type} (o : Option (α × β × δ × ε × ζ × η × θ)) (K : α → β → δ → ε → ζ → η → θ → Option γ) : Option γ := match o with
  | none => none
  | some (a, b, c, d, e, f, g) => K a b c d e f g
theorem gd_e {γ : Type} {i : Int32} {n : Nat} {K : Nat → Option γ} {r : γ} (h : gd i n K = some r) : ∃ k, zin i n k ∧ K k = some r := by
  unfold gd at h
  split at h
  · cases h
  · exact ⟨_, ⟨by assumption, rfl⟩, h⟩
theorem nm_g {α γ : Type} {x : α} {K : α → Option γ} {r : γ} (h : nmI x K = some r) : ∃ y, x = y ∧ K y = some r := ⟨x, rfl, h⟩
theorem b1_e {α γ : Type} {o : Option α} {K : α → Option γ} {r : γ} (h : b1 o K = some r) : ∃ a, o = some a ∧ K a = some r := by
  cases o with
  | none => cases h
  | some a => exact ⟨a, rfl, h⟩
theorem b2_e {α β γ : Type} {o : Option (α × β)} {K : α → β → Option γ} {r : γ} (h : b2 o K = some r) : ∃ a b, o = some (a, b) ∧ K a b = some r := by
  cases o with
  | none => cases h
  | some a => exact ⟨_, _, rfl, h⟩
theorem b3_e {α β δ γ : Type} {o : Option (α × β × δ)} {K : α → β → δ → Option γ} {r : γ} (h : b3 o K = some r) : ∃ a b c, o = some (a, b, c) ∧ K a b c = some r := by
  cases o with
  | none => cases h
  | some a => exact ⟨_, _, _, rfl, h⟩
theorem b4_e {α β δ ε γ : Type} {o : Option (α × β × δ × ε)} {K : α → β → δ → ε → Option γ} {r : γ} (h : b4 o K = some r) : ∃ a b c d, o = some (a, b, c, d) ∧ K a b c d = some r := by
  cases o with
  | none => cases h
  | some a => exact ⟨_, _, _, _, rfl, h⟩
theorem b5_e {α β δ ε ζ γ : Type} {o : Option (α × β × δ × ε × ζ)} {K : α → β → δ → ε → ζ → Option γ} {r : γ} (h : b5 o K = some r) : ∃ a b c d e, o = some (a, b, c, d, e) ∧ K a b c d e = some r := by
  cases o with
  | none => cases h
  | some a => exact ⟨_, _, _, _, _, rfl, h⟩
theorem b6_e {α β δ ε ζ η γ : Type} {o : Option (α × β × δ × ε × ζ × η)} {K : α → β → δ → ε → ζ → η → Option γ} {r : γ} (h : b6 o K = some r) : ∃ a b c d e f, o = some (a, b, c, d, e, f) ∧ K a b c d e f = some r := by
  cases o with
  | none => cases h
  | some a => exact ⟨_, _, _, _, _, _, rfl, h⟩
theorem b7_e {α β δ ε ζ η θ γ : Type} {o : Option (α × β × δ × ε × ζ × η × θ)} {K : α → β → δ → ε → ζ → η → θ → Option γ} {r : γ} (h : b7 o K = some r) : ∃ a b c d e f g, o = some (a, b, c, d, e, f, g) ∧ K a b c d e f g = some r := by
  cases o with
  | none => cases h
  | some a => exact ⟨_, _, _, _, _, _, _, rfl, h⟩
theorem ifp {γ : Type} {c : Prop} [Decidable c] {a b : Option γ} {r : γ} (hc : c) (h : (if c then a else b) = some r) : a = some r := by
  rw [if_pos hc] at h
  exact h
theorem ifn {γ : Type} {c : Prop} [Decidable c] {a b : Option γ} {r : γ} (hc : ¬ c) (h : (if c then a else b) = some r) : b = some r := by
  rw [if_neg hc] at h
  exact h
/-- the places 'is' of a list, set to the cells of another -/
def zput (ws : va_W) : List Nat → va_W → va_W
  | i :: is, c :: cs => zput (ws.set i c) is cs
  | _, _ => ws
theorem zput_get : ∀ (is : List Nat) (cs ws : va_W), (∀ i ∈ is, i < ws.length) → is.length = cs.length → ∀ (k : Nat) (q : Nat × va_E), (zput ws is cs)[k]? = some q → (∃ j : Nat, is[j]? = some k ∧ cs[j]? = some q) ∨ (k ∉ is ∧ ws[k]? = some q)
  | [], cs, ws, _, _, k, q, h => Or.inr ⟨List.not_mem_nil, by simpa [zput] using h⟩
  | _ :: _, [], _, _, hl, _, _, _ => by cases hl
  | i :: is, c :: cs, ws, hi, hl, k, q, h => by
    have h0 : i < ws.length := hi i List.mem_cons_self
    rcases zput_get is cs (ws.set i c) (fun j hj => by rw [List.length_set]; exact hi j (List.mem_cons_of_mem _ hj)) (Nat.succ.inj hl) k q h with ⟨j, h1, h2⟩ | ⟨h1, h2⟩
    · exact Or.inl ⟨j + 1, by simpa using h1, by simpa using h2⟩
    · by_cases hk : k = i
      · subst hk
        rw [List.getElem?_set_self h0] at h2
        exact Or.inl ⟨0, rfl, h2⟩
      · rw [List.getElem?_set_ne (Ne.symm hk)] at h2
        exact Or.inr ⟨fun hm => (List.mem_cons.mp hm).elim hk h1, h2⟩
theorem zfm : ∀ {is : List Nat} {ws w : va_W}, is.map (fun i => ws[i]?) = w.map some → is.filterMap (fun i => ws[i]?) = w := by
  intro is ws w h
  have h1 : is.filterMap (fun i => ws[i]?) = (is.map (fun i => ws[i]?)).filterMap id := by rw [List.filterMap_map]; rfl
  rw [h1, h, List.filterMap_map]
  simp
theorem zat {is : List Nat} {ws w : va_W} (hs : is.map (fun i => ws[i]?) = w.map some) (j : Nat) : (is[j]?).bind (fun i => ws[i]?) = w[j]? := by
  have h1 : (is.map (fun i => ws[i]?))[j]? = (w.map some)[j]? := by rw [hs]
  rw [List.getElem?_map, List.getElem?_map] at h1
  cases hi : is[j]? with
  | none => rw [hi] at h1; cases hw : w[j]? with
    | none => rfl
    | some q => rw [hw] at h1; cases h1
  | some i => rw [hi] at h1; cases hw : w[j]? with
    | none => rw [hw] at h1; cases h1
    | some q => rw [hw] at h1; exact Option.some.inj h1
theorem zput_P {D : va_G} {cl : List vw_C} {A0 : Nat → Prop} {ws wc w1 : va_W} {H H1 : Heap} {is : List Nat} (hP : va_P D cl ws H) (hD : va_D A0 ws) (hC : is.map (fun i => ws[i]?) = wc.map some) (hf : w1.map Prod.fst = wc.map Prod.fst)
    (hk : ∀ q : Nat, q < H.size → ¬ va_A wc H.size q → H1[q]? = H[q]?) (hP1 : va_P D cl w1 H1) : va_P D cl (zput ws is w1) H1 ∧ va_D A0 (zput ws is w1) := by
  have hlen : is.length = wc.length := by have := congrArg List.length hC; simpa using this
  have hlen1 : w1.length = wc.length := by have := congrArg List.length hf; simpa using this
  have hlt : ∀ i ∈ is, i < ws.length := by
    intro i hi
    obtain ⟨j, hj⟩ := List.getElem?_of_mem hi
    have h1 := zat hC j
    rw [hj] at h1
    have hjl : j < wc.length := by rw [← hlen]; exact (List.getElem?_eq_some_iff.mp hj).1
    rw [List.getElem?_eq_getElem hjl] at h1
    exact (List.getElem?_eq_some_iff.mp (show ws[i]? = some _ from h1)).1
  have hadr : ∀ (k : Nat) (q : Nat × va_E), (zput ws is w1)[k]? = some q → (∃ q0, ws[k]? = some q0 ∧ q0.1 = q.1) ∧ va_at D cl q H1 := by
    intro k q hq
    rcases zput_get is w1 ws hlt (hlen.trans hlen1.symm) k q hq with ⟨j, h1, h2⟩ | ⟨h1, h2⟩
    · refine ⟨?_, hP1 j q h2⟩
      have h3 := zat hC j
      rw [h1] at h3
      have h4 : (w1.map Prod.fst)[j]? = (wc.map Prod.fst)[j]? := by rw [hf]
      rw [List.getElem?_map, List.getElem?_map, h2, ← h3] at h4
      cases hw : ws[k]? with
      | none => rw [show ((some k).bind fun i => ws[i]?) = ws[k]? from rfl, hw] at h4; cases h4
      | some q0 => rw [show ((some k).bind fun i => ws[i]?) = ws[k]? from rfl, hw] at h4; exact ⟨q0, rfl, (Option.some.inj h4).symm⟩
    · refine ⟨⟨q, h2, rfl⟩, (hP k q h2).kept (hk q.1 (hP k q h2).lt ?_)⟩
      rintro (⟨j, e, h3⟩ | h3)
      · have h4 := zat hC j
        rw [h3] at h4
        cases hi : is[j]? with
        | none => rw [hi] at h4; cases h4
        | some i =>
          rw [hi] at h4
          have h5 : ws[i]? = some (q.1, e) := h4
          have := hD.1 k i q (q.1, e) h2 h5 rfl
          subst this
          exact h1 (List.mem_of_getElem? hi)
      · exact absurd (hP k q h2).lt (Nat.not_lt.mpr h3)
  refine ⟨fun k q hq => (hadr k q hq).2, fun i j x y hi hj hxy => ?_, fun k q hq => ?_⟩
  · obtain ⟨⟨x0, h1, h2⟩, -⟩ := hadr i x hi
    obtain ⟨⟨y0, h3, h4⟩, -⟩ := hadr j y hj
    exact hD.1 i j x0 y0 h1 h3 (h2.trans (hxy.trans h4.symm))
  · obtain ⟨⟨q0, h1, h2⟩, -⟩ := hadr k q hq
    rw [← h2]
    exact hD.2 k q0 h1
/-- a contract: from the world ws to the world ws2, with an answer -/
def zB (D : va_G) (cs : ClassId × ClassId × ClassId) (ws : va_W) (sz : Nat) (U : State) : Prop := U.heap.size = sz ∧ va_P D vwCl ws U.heap ∧ va_K D vwCl (TYs cs) U ∧ va_D (fun _ => True) ws
def zM (l : Launch) (D : va_G) (cs : ClassId × ClassId × ClassId) (y : MethodName) (bytes : ByteArray) (maxL : Nat) (ret : Option FieldType) (d : Nat) (As : List Value) (ws : va_W) (rv : Int32) (ws2 : va_W) : Prop :=
  ∀ sz : Nat, Met l y (.code y bytes maxL ret :: lw_tg) (Rmd d) (va_Pc As (zB D cs ws sz)) (va_Qi (fun v (_ : Unit) => v = rv) (fun _ t => va_P D vwCl ws2 t.heap) (va_A ws sz)) 0 0 (va_A ws sz)
def zMv (l : Launch) (D : va_G) (cs : ClassId × ClassId × ClassId) (y : MethodName) (bytes : ByteArray) (maxL : Nat) (ret : Option FieldType) (d : Nat) (As : List Value) (ws : va_W) (ws2 : va_W) : Prop :=
  ∀ sz : Nat, Met l y (.code y bytes maxL ret :: lw_tg) (Rmd d) (va_Pc As (zB D cs ws sz)) (va_Qv (fun (_ : Unit) => True) (fun _ t => va_P D vwCl ws2 t.heap) (va_A ws sz)) 0 0 (va_A ws sz)
theorem zB_blind {D : va_G} {cs : ClassId × ClassId × ClassId} {ws : va_W} {sz : Nat} {As : List Value} : FrameBlind (va_Pc As (zB D cs ws sz)) := fun a U g mk q => by
  obtain ⟨q0, q1, q2, q3, q4⟩ := q
  exact ⟨q0, q1, q2, va_K.moved (u := U) (U := U.calling g mk a) (Vm.Alike.refl U.vm) q3, q4⟩
def zW (own : String) (index : Nat) (y : MethodName) (bytes : ByteArray) (maxL : Nat) (ret : Option FieldType) (n : Nat) : Prop :=
  (Cond.methodLink own index y ∈ lw_tg ∧ Cond.initialized y.cls ∈ lw_tg ∧ Cond.code y bytes maxL ret ∈ lw_tg) ∧ (y.cls ≠ "java/lang/invoke/MethodHandle" ∧ y.cls ≠ "java/lang/invoke/VarHandle" ∧ (parseMethodDescriptor y.desc).map (fun d => d.parameters.length) = some n) ∧ maxL ≤ 11
def zWI (own : String) (index : Nat) (y : MethodName) (bytes : ByteArray) (maxL : Nat) (ret : Option FieldType) (n : Nat) : Prop := zW own index y bytes maxL ret n ∧ Cond.instanceMethod y ∈ lw_tg ∧ Cond.selects y.cls y y ∈ lw_tg
def zWS (own : String) (index : Nat) (y : MethodName) (bytes : ByteArray) (maxL : Nat) (ret : Option FieldType) (n : Nat) : Prop := zW own index y bytes maxL ret n ∧ Cond.static y ∈ lw_tg
theorem zGood {y : MethodName} {bytes : ByteArray} {maxL : Nat} {ret : Option FieldType} (h : Cond.code y bytes maxL ret ∈ lw_tg) : GoodIn lw_tg (.code y bytes maxL ret :: lw_tg) := by
  intro w hw
  rcases List.mem_cons.mp hw with rfl | hw
  · exact ⟨h, (lw_good _ h).2⟩
  · exact ⟨hw, (lw_good _ hw).2⟩
section ZCALL
variable {G : GT} {cc : ByteArray} {nL : Nat} {own : String} {ret : Option FieldType} {d pc : Nat} {ls : List (Nat × Value)} {st stk : List Value} {ws ws2 : va_W}
variable {index n maxL d2 a ci N : Nat} {y : MethodName} {bytes : ByteArray} {ret2 : Option FieldType} {As : List Value} {wc w1 : va_W} {rv : Int32} {fs : List Value} {T : u_T}
theorem zCB {R : Room} {s : State} {args : Array Value} (hR : R = Rmd d) (hts : ∀ w ∈ lw_tg, w.before args s = true) (w : zW own index y bytes maxL ret2 n) (hlt : d2 < d) : CallB R s args own index y bytes maxL ret2 (.code y bytes maxL ret2 :: lw_tg) (Rmd d2) 0 0 n :=
  callB_of n hts (zGood w.1.2.2) rfl rfl rfl (hts _ w.1.2.1) (hts _ w.1.1) w.2.1 (by rw [hR]; have := w.2.2; simp only [Rmd]; omega)
theorem z_callV (is : List Nat) (C : zC G cc nL own ret d) (hd : decode cc pc = .ok (.invokevirtual index, 3)) (w : zWI own index y bytes maxL ret2 n) (hM : zM (gl G) (gD G) (gk G) y bytes maxL ret2 d2 (.ref a :: As) wc rv w1) (hlt : d2 < d) (hC : is.map (fun i => ws[i]?) = wc.map some) (hnd : va_nd is = true) (hf : w1.map Prod.fst = wc.map Prod.fst) (hr0 : wc[0]? = some (a, .inr (ci, fs))) (hr1 : vwCl[ci]? = some (y.cls, T, N)) (hn : As.length = n) (hst : stk = As.reverse ++ .ref a :: st) (hcat : (st.map fun v => v.category).sum ≤ 8) (hws : zput ws is w1 = ws2)
    (kk : zV G nL (pc + 3) ls (.int rv :: st) ws2) : zV G nL pc ls stk ws := by
  intro H locs la hP hD hS hl
  subst hst
  subst hws
  have hPc := hP.sub is (zfm hC)
  have hDc := hD.sub is hnd hC
  have hFc := va_free hD hS C.2.2.2.2.2 is hC
  refine va_calli (va_runV (As := As) (rest := st) C.1 (hM H.size) ⟨zCB C.2.2.1 C.1.2.2.2.2 w.1 hlt, C.1.2.2.2.2 _ w.2.1, C.1.2.2.2.2 _ w.2.2⟩ ⟨zB_blind, va_recv C.2.1 hPc hr1 hr0, fun U hU hW => ⟨rfl, by rw [hU], by rw [hU]; exact hPc, va_K.moved hW.alike C.2.1, hDc.weaken (fun _ _ _ _ => trivial)⟩⟩ rfl hn hl.1 rfl (lv_room hcat) hd ⟨Nat.zero_le _, Nat.zero_le _⟩) hS (fun q _ h => hFc q h) hFc (fun r u t H1 locs1 ht hvm hw hB hz1 hk1 hS1 => ?_)
  rw [ht] at hB
  obtain ⟨hP1, hD1⟩ := zput_P hP hD hC hf hk1 hB
  cases hw
  exact kk H1 locs1 la hP1 hD1 hS1 hl
theorem z_callVv (is : List Nat) (C : zC G cc nL own ret d) (hd : decode cc pc = .ok (.invokevirtual index, 3)) (w : zWI own index y bytes maxL ret2 n) (hM : zMv (gl G) (gD G) (gk G) y bytes maxL ret2 d2 (.ref a :: As) wc w1) (hlt : d2 < d) (hC : is.map (fun i => ws[i]?) = wc.map some) (hnd : va_nd is = true) (hf : w1.map Prod.fst = wc.map Prod.fst) (hr0 : wc[0]? = some (a, .inr (ci, fs))) (hr1 : vwCl[ci]? = some (y.cls, T, N)) (hn : As.length = n) (hst : stk = As.reverse ++ .ref a :: st) (hcat : (st.map fun v => v.category).sum ≤ 8) (hws : zput ws is w1 = ws2)
    (kk : zV G nL (pc + 3) ls st ws2) : zV G nL pc ls stk ws := by
  intro H locs la hP hD hS hl
  subst hst
  subst hws
  have hPc := hP.sub is (zfm hC)
  have hDc := hD.sub is hnd hC
  have hFc := va_free hD hS C.2.2.2.2.2 is hC
  refine va_callv (va_runV (As := As) (rest := st) C.1 (hM H.size) ⟨zCB C.2.2.1 C.1.2.2.2.2 w.1 hlt, C.1.2.2.2.2 _ w.2.1, C.1.2.2.2.2 _ w.2.2⟩ ⟨zB_blind, va_recv C.2.1 hPc hr1 hr0, fun U hU hW => ⟨rfl, by rw [hU], by rw [hU]; exact hPc, va_K.moved hW.alike C.2.1, hDc.weaken (fun _ _ _ _ => trivial)⟩⟩ rfl hn hl.1 rfl (lv_room hcat) hd ⟨Nat.zero_le _, Nat.zero_le _⟩) hS (fun q _ h => hFc q h) hFc (fun u t H1 locs1 ht hvm hw hB hz1 hk1 hS1 => ?_)
  rw [ht] at hB
  obtain ⟨hP1, hD1⟩ := zput_P hP hD hC hf hk1 hB
  exact kk H1 locs1 la hP1 hD1 hS1 hl
theorem z_callS (is : List Nat) (C : zC G cc nL own ret d) (hd : decode cc pc = .ok (.invokestatic index, 3)) (w : zWS own index y bytes maxL ret2 n) (hM : zM (gl G) (gD G) (gk G) y bytes maxL ret2 d2 As wc rv w1) (hlt : d2 < d) (hC : is.map (fun i => ws[i]?) = wc.map some) (hnd : va_nd is = true) (hf : w1.map Prod.fst = wc.map Prod.fst) (hn : As.length = n) (hst : stk = As.reverse ++ st) (hcat : (st.map fun v => v.category).sum ≤ 8) (hws : zput ws is w1 = ws2)
    (kk : zV G nL (pc + 3) ls (.int rv :: st) ws2) : zV G nL pc ls stk ws := by
  intro H locs la hP hD hS hl
  subst hst
  subst hws
  have hPc := hP.sub is (zfm hC)
  have hDc := hD.sub is hnd hC
  have hFc := va_free hD hS C.2.2.2.2.2 is hC
  refine va_calli (va_runS (As := As) (rest := st) C.1 (hM H.size) ⟨zCB C.2.2.1 C.1.2.2.2.2 w.1 hlt, C.1.2.2.2.2 _ w.2⟩ ⟨zB_blind, fun U hU hW => ⟨rfl, by rw [hU], by rw [hU]; exact hPc, va_K.moved hW.alike C.2.1, hDc.weaken (fun _ _ _ _ => trivial)⟩⟩ rfl hn hl.1 rfl (lv_room hcat) hd ⟨Nat.zero_le _, Nat.zero_le _⟩) hS (fun q _ h => hFc q h) hFc (fun r u t H1 locs1 ht hvm hw hB hz1 hk1 hS1 => ?_)
  rw [ht] at hB
  obtain ⟨hP1, hD1⟩ := zput_P hP hD hC hf hk1 hB
  cases hw
  exact kk H1 locs1 la hP1 hD1 hS1 hl
theorem z_callSv (is : List Nat) (C : zC G cc nL own ret d) (hd : decode cc pc = .ok (.invokestatic index, 3)) (w : zWS own index y bytes maxL ret2 n) (hM : zMv (gl G) (gD G) (gk G) y bytes maxL ret2 d2 As wc w1) (hlt : d2 < d) (hC : is.map (fun i => ws[i]?) = wc.map some) (hnd : va_nd is = true) (hf : w1.map Prod.fst = wc.map Prod.fst) (hn : As.length = n) (hst : stk = As.reverse ++ st) (hcat : (st.map fun v => v.category).sum ≤ 8) (hws : zput ws is w1 = ws2)
    (kk : zV G nL (pc + 3) ls st ws2) : zV G nL pc ls stk ws := by
  intro H locs la hP hD hS hl
  subst hst
  subst hws
  have hPc := hP.sub is (zfm hC)
  have hDc := hD.sub is hnd hC
  have hFc := va_free hD hS C.2.2.2.2.2 is hC
  refine va_callv (va_runS (As := As) (rest := st) C.1 (hM H.size) ⟨zCB C.2.2.1 C.1.2.2.2.2 w.1 hlt, C.1.2.2.2.2 _ w.2⟩ ⟨zB_blind, fun U hU hW => ⟨rfl, by rw [hU], by rw [hU]; exact hPc, va_K.moved hW.alike C.2.1, hDc.weaken (fun _ _ _ _ => trivial)⟩⟩ rfl hn hl.1 rfl (lv_room hcat) hd ⟨Nat.zero_le _, Nat.zero_le _⟩) hS (fun q _ h => hFc q h) hFc (fun u t H1 locs1 ht hvm hw hB hz1 hk1 hS1 => ?_)
  rw [ht] at hB
  obtain ⟨hP1, hD1⟩ := zput_P hP hD hC hf hk1 hB
  exact kk H1 locs1 la hP1 hD1 hS1 hl
def zmx (x y : Int32) : Int32 := if x < y then y else x
def zmn (x y : Int32) : Int32 := if y < x then y else x
def zWM (own : String) (index : Nat) (y : MethodName) (bytes : ByteArray) : Prop := Cond.methodLink own index y ∈ lw_tg ∧ Cond.static y ∈ lw_tg ∧ Cond.initialized "java/lang/Math" ∈ lw_tg ∧ Cond.code y bytes 2 (some .int) ∈ lw_tg
theorem z_mmax {x z : Int32} (C : zC G cc nL own ret d) (hd : decode cc pc = .ok (.invokestatic index, 3)) (w : zWM own index Lib.Math.max.name Lib.Math.max.code) (hlt : 0 < d) (hcat : (st.map fun v => v.category).sum ≤ 8) (kk : zV G nL (pc + 3) ls (.int (zmx x z) :: st) ws) : zV G nL pc ls (.int z :: .int x :: st) ws := fun H locs la hP hD hS hl =>
  va_mmax C.1.1 C.1.2.1 (C.1.2.2.1.trans hl.1.symm) C.1.2.2.2.1 (C.1.2.2.2.2 _ w.1) (C.1.2.2.2.2 _ w.2.1) (C.1.2.2.2.2 _ w.2.2.1) (C.1.2.2.2.2 _ w.2.2.2) (by rw [C.2.2.1]; exact hlt) (by rw [C.2.2.1]; simp only [Rmd]; omega) (Nat.zero_le _) (Nat.zero_le _) hd (kk H locs la hP hD hS hl)
theorem z_mmin {x z : Int32} (C : zC G cc nL own ret d) (hd : decode cc pc = .ok (.invokestatic index, 3)) (w : zWM own index Lib.Math.min.name Lib.Math.min.code) (hlt : 0 < d) (hcat : (st.map fun v => v.category).sum ≤ 8) (kk : zV G nL (pc + 3) ls (.int (zmn x z) :: st) ws) : zV G nL pc ls (.int z :: .int x :: st) ws := fun H locs la hP hD hS hl =>
  va_mmin C.1.1 C.1.2.1 (C.1.2.2.1.trans hl.1.symm) C.1.2.2.2.1 (C.1.2.2.2.2 _ w.1) (C.1.2.2.2.2 _ w.2.1) (C.1.2.2.2.2 _ w.2.2.1) (C.1.2.2.2.2 _ w.2.2.2) (by rw [C.2.2.1]; exact hlt) (by rw [C.2.2.1]; simp only [Rmd]; omega) (Nat.zero_le _) (Nat.zero_le _) hd (kk H locs la hP hD hS hl)
def zWC (own : String) (index : Nat) : Prop := Cond.methodLink own index arraycopyName ∈ lw_tg ∧ Cond.native arraycopyName ∈ lw_tg ∧ Cond.static arraycopyName ∈ lw_tg ∧ Cond.initialized "java/lang/System" ∈ lw_tg
theorem z_copy (q0 q1 : Nat) {n0 n1 a0 a1 s0 d0 c0 : Nat} {f g g2 : Nat → Int32} {sp dp cn : Int32} (C : zC G cc nL own ret d) (hd : decode cc pc = .ok (.invokestatic index, 3)) (w : zWC own index) (hlt : 0 < d) (hcat : (st.map fun v => v.category).sum ≤ 8) (ha0 : ws[q0]? = some (a0, aI (gk G) n0 f)) (ha1 : ws[q1]? = some (a1, aI (gk G) n1 g)) (h1 : ¬ sp < 0 ∧ sp.toNatClampNeg = s0) (h2 : ¬ dp < 0 ∧ dp.toNatClampNeg = d0) (h3 : ¬ cn < 0 ∧ cn.toNatClampNeg = c0) (h4 : s0 + c0 ≤ n0) (h5 : d0 + c0 ≤ n1) (he : va_cpy f g s0 d0 c0 = g2) (hws : ws.set q1 (a1, aI (gk G) n1 g2) = ws2)
    (kk : zV G nL (pc + 3) ls st ws2) : zV G nL pc ls (.int cn :: .int dp :: .ref a1 :: .int sp :: .ref a0 :: st) ws := by
  intro H locs la hP hD hS hl
  obtain ⟨h1, rfl⟩ := h1
  obtain ⟨h2, rfl⟩ := h2
  obtain ⟨h3, rfl⟩ := h3
  subst he
  subst hws
  have hfr : 1 ≤ (gR G).frames := by rw [C.2.2.1]; exact hlt
  have hlo : (st.map fun v => v.category).sum + (nativeFrameWords "java/lang/System" "arraycopy" 5 + 11) ≤ (gR G).locals := by
    rw [C.2.2.1]
    have h9 : nativeFrameWords "java/lang/System" "arraycopy" 5 + 11 ≤ 22 := by decide +kernel
    simp only [Rmd]
    omega
  exact va_copyi C.1.1 C.1.2.1 (C.1.2.2.1.trans hl.1.symm) C.1.2.2.2.1 (C.1.2.2.2.2 _ w.1) (C.1.2.2.2.2 _ w.2.1) (C.1.2.2.2.2 _ w.2.2.1) (C.1.2.2.2.2 _ w.2.2.2) C.2.1 hP hD hS q0 q1 0 0 ha0 ha1 rfl rfl rfl h1 h2 h3 h4 h5 (fun _ _ => rfl) hfr hlo hd (fun H1 locs1 hP1 hD1 hS1 => kk H1 locs1 la hP1 hD1 hS1 hl)
end ZCALL
section ZOF
variable {l : Launch} {D : va_G} {cs : ClassId × ClassId × ClassId} {y : MethodName} {bytes : ByteArray} {maxL d : Nat} {ret : Option FieldType} {As : List Value} {ws ws2 : va_W} {rv : Int32}
theorem zM_of (hy : plainName y.cls = true) (ha : (lg_sl As).length ≤ maxL)
    (body : ∀ G : GT, gl G = l → gD G = D → gk G = cs → zC G bytes maxL y.cls ret d → zF G (some (.int rv)) ws2 → zV G maxL 0 (lv_args 0 As) [] ws) : zM l D cs y bytes maxL ret d As ws rv ws2 := by
  intro sz
  refine Met.ofW (cc := bytes) (maxL := maxL) (ret := ret) hy rfl ?_
  intro p e s m args below meth c s₁ B hml hv
  obtain ⟨rfl, hsz, hP, hK, hD0⟩ := hv
  subst hsz
  have hts := atoms_spec (ws := .code y bytes maxL ret :: lw_tg) B.pre
  have hl := lv_entry As (n := maxL) ha
  rw [lg_entry_eq]
  exact body (p, l, e, Rmd d, s, m, As.toArray, below, meth, c, D, cs, va_A ws s.heap.size, va_Qi (fun v (_ : Unit) => v = rv) (fun _ t => va_P D vwCl ws2 t.heap) (va_A ws s.heap.size)) rfl rfl rfl
    ⟨⟨B.exec, B.bytes, hml, findClass_of_methodNamed B.named, fun w hw => hts w (List.mem_cons_of_mem _ hw)⟩, hK, rfl, B.notSynchronized, B.returns, fun q h => Or.inr h⟩
    (fun H locs t hP2 hS2 ht => ⟨⟨rv, (), rfl, rfl, by show va_P D vwCl ws2 t.heap; rw [ht]; exact hP2⟩, va_S.F hS2 ht⟩) s.heap [] _ hP (hD0.self) va_S.rf hl
theorem zMv_of (hy : plainName y.cls = true) (ha : (lg_sl As).length ≤ maxL)
    (body : ∀ G : GT, gl G = l → gD G = D → gk G = cs → zC G bytes maxL y.cls ret d → zF G none ws2 → zV G maxL 0 (lv_args 0 As) [] ws) : zMv l D cs y bytes maxL ret d As ws ws2 := by
  intro sz
  refine Met.ofW (cc := bytes) (maxL := maxL) (ret := ret) hy rfl ?_
  intro p e s m args below meth c s₁ B hml hv
  obtain ⟨rfl, hsz, hP, hK, hD0⟩ := hv
  subst hsz
  have hts := atoms_spec (ws := .code y bytes maxL ret :: lw_tg) B.pre
  have hl := lv_entry As (n := maxL) ha
  rw [lg_entry_eq]
  exact body (p, l, e, Rmd d, s, m, As.toArray, below, meth, c, D, cs, va_A ws s.heap.size, va_Qv (fun (_ : Unit) => True) (fun _ t => va_P D vwCl ws2 t.heap) (va_A ws s.heap.size)) rfl rfl rfl
    ⟨⟨B.exec, B.bytes, hml, findClass_of_methodNamed B.named, fun w hw => hts w (List.mem_cons_of_mem _ hw)⟩, hK, rfl, B.notSynchronized, B.returns, fun q h => Or.inr h⟩
    (fun H locs t hP2 hS2 ht => ⟨⟨(), rfl, trivial, by show va_P D vwCl ws2 t.heap; rw [ht]; exact hP2⟩, va_S.F hS2 ht⟩) s.heap [] _ hP (hD0.self) va_S.rf hl
end ZOF
/-- the worlds -/
def HW (cs : ClassId × ClassId × ClassId) (h r fl : Nat) (row flow : Nat → Int32) : va_W := [(h, .inr (0, [.ref r, .ref fl])), (r, aI cs 125 row), (fl, aI cs 10 flow)]
def PW (cs : ClassId × ClassId × ClassId) (h q : Nat) (codes pf : Nat → Int32) : va_W := [(h, .inr (1, [.ref q, .int (pf 1), .int (pf 2), .int (pf 3), .int (pf 4), .int (pf 5), .int (pf 6)])), (q, aI cs 80 codes)]
def MW (cs : ClassId × ClassId × ClassId) (ad : Nat → Nat) (s sv tx cu ho mf : Nat → Int32) : va_W := [(ad 0, .inr (3, [.ref (ad 1), .int (mf 1), .ref (ad 2), .ref (ad 3), .int (mf 4), .int (mf 5), .int (mf 6), .ref (ad 4), .ref (ad 5), .int (mf 9), .int (mf 10), .int (mf 11), .int (mf 12), .int (mf 13)])), (ad 1, aI cs 1480 s), (ad 2, aZ cs 2 sv), (ad 3, aI cs 80 tx), (ad 4, aI cs 10 cu), (ad 5, aZ cs 10 ho)]
def FW (cs : ClassId × ClassId × ClassId) (ad : Nat → Nat) (nr nf tr tf co pf : Nat → Int32) (hi sl : Nat → Nat → Int32) (sv ff : Nat → Int32) : va_W := [(ad 0, .inr (2, [.ref (ad 1), .ref (ad 4), .ref (ad 7), .ref (ad 9), .ref (ad 17), .ref (ad 20), .int (ff 6), .int (ff 7)])), (ad 1, .inr (0, [.ref (ad 2), .ref (ad 3)])), (ad 2, aI cs 125 nr), (ad 3, aI cs 10 nf), (ad 4, .inr (0, [.ref (ad 5), .ref (ad 6)])), (ad 5, aI cs 125 tr), (ad 6, aI cs 10 tf), (ad 7, .inr (1, [.ref (ad 8), .int (pf 1), .int (pf 2), .int (pf 3), .int (pf 4), .int (pf 5), .int (pf 6)])), (ad 8, aI cs 80 co), (ad 9, aQ cs 7 (fun j => if j < 7 then some (ad (10 + j)) else none)), (ad 10, aI cs 125 (hi 0)), (ad 11, aI cs 125 (hi 1)), (ad 12, aI cs 125 (hi 2)), (ad 13, aI cs 125 (hi 3)), (ad 14, aI cs 125 (hi 4)), (ad 15, aI cs 125 (hi 5)), (ad 16, aI cs 125 (hi 6)), (ad 17, aQ cs 2 (fun j => if j < 2 then some (ad (18 + j)) else none)), (ad 18, aI cs 125 (sl 0)), (ad 19, aI cs 125 (sl 1)), (ad 20, aZ cs 2 sv)]
end
