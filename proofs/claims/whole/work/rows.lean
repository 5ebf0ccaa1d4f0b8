section
-- ===== PART A: goes FIRST, ahead of the names: the tables' words, and 'selects' of the private methods out of them =====
/-- a private method of a class that the tables say can be made, by its rows of tables_1 -/
def lw_okq (q : MethodName × Nat) : Prop := (q.1.cls ≠ "java/lang/invoke/MethodHandle" ∧ q.1.cls ≠ "java/lang/invoke/VarHandle") ∧ Cond.instantiable q.1.cls q.2 ∈ tables_1 ∧ Cond.privateMethod q.1 ∈ tables_1 ∧ Cond.instanceMethod q.1 ∈ tables_1
theorem lw_p0 : lw_okq (⟨"RepeatWays$Way", "go", "()I"⟩, 15) := ⟨⟨by decide +kernel, by decide +kernel⟩, List.mem_of_getElem? (i := 22) (by decide +kernel), List.mem_of_getElem? (i := 231) (by decide +kernel), List.mem_of_getElem? (i := 232) (by decide +kernel)⟩
theorem lw_p1 : lw_okq (⟨"RepeatWays$Way", "forget", "()V"⟩, 15) := ⟨⟨by decide +kernel, by decide +kernel⟩, List.mem_of_getElem? (i := 22) (by decide +kernel), List.mem_of_getElem? (i := 235) (by decide +kernel), List.mem_of_getElem? (i := 236) (by decide +kernel)⟩
theorem lw_p2 : lw_okq (⟨"RepeatWays$Way", "leaveAll", "()V"⟩, 15) := ⟨⟨by decide +kernel, by decide +kernel⟩, List.mem_of_getElem? (i := 22) (by decide +kernel), List.mem_of_getElem? (i := 240) (by decide +kernel), List.mem_of_getElem? (i := 241) (by decide +kernel)⟩
theorem lw_p3 : lw_okq (⟨"RepeatWays$Way", "setFault", "(II)V"⟩, 15) := ⟨⟨by decide +kernel, by decide +kernel⟩, List.mem_of_getElem? (i := 22) (by decide +kernel), List.mem_of_getElem? (i := 244) (by decide +kernel), List.mem_of_getElem? (i := 245) (by decide +kernel)⟩
theorem lw_p4 : lw_okq (⟨"RepeatWays$Way", "findFaultOfJumps", "()V"⟩, 15) := ⟨⟨by decide +kernel, by decide +kernel⟩, List.mem_of_getElem? (i := 22) (by decide +kernel), List.mem_of_getElem? (i := 248) (by decide +kernel), List.mem_of_getElem? (i := 249) (by decide +kernel)⟩
theorem lw_p5 : lw_okq (⟨"RepeatWays$Score", "hasJump", "(I)Z"⟩, 19) := ⟨⟨by decide +kernel, by decide +kernel⟩, List.mem_of_getElem? (i := 28) (by decide +kernel), List.mem_of_getElem? (i := 252) (by decide +kernel), List.mem_of_getElem? (i := 253) (by decide +kernel)⟩
theorem lw_p6 : lw_okq (⟨"RepeatWays$Score", "faultOfJump", "(I)I"⟩, 19) := ⟨⟨by decide +kernel, by decide +kernel⟩, List.mem_of_getElem? (i := 28) (by decide +kernel), List.mem_of_getElem? (i := 256) (by decide +kernel), List.mem_of_getElem? (i := 257) (by decide +kernel)⟩
theorem lw_p7 : lw_okq (⟨"RepeatWays$Score", "lacksSign", "(I)Z"⟩, 19) := ⟨⟨by decide +kernel, by decide +kernel⟩, List.mem_of_getElem? (i := 28) (by decide +kernel), List.mem_of_getElem? (i := 260) (by decide +kernel), List.mem_of_getElem? (i := 261) (by decide +kernel)⟩
theorem lw_p8 : lw_okq (⟨"RepeatWays$Way", "playFromFirstBar", "()V"⟩, 15) := ⟨⟨by decide +kernel, by decide +kernel⟩, List.mem_of_getElem? (i := 22) (by decide +kernel), List.mem_of_getElem? (i := 264) (by decide +kernel), List.mem_of_getElem? (i := 265) (by decide +kernel)⟩
theorem lw_p9 : lw_okq (⟨"RepeatWays$Way", "comeTo", "(I)I"⟩, 15) := ⟨⟨by decide +kernel, by decide +kernel⟩, List.mem_of_getElem? (i := 22) (by decide +kernel), List.mem_of_getElem? (i := 269) (by decide +kernel), List.mem_of_getElem? (i := 270) (by decide +kernel)⟩
theorem lw_p10 : lw_okq (⟨"RepeatWays$Way", "openAround", "(I)V"⟩, 15) := ⟨⟨by decide +kernel, by decide +kernel⟩, List.mem_of_getElem? (i := 22) (by decide +kernel), List.mem_of_getElem? (i := 273) (by decide +kernel), List.mem_of_getElem? (i := 274) (by decide +kernel)⟩
theorem lw_p11 : lw_okq (⟨"RepeatWays$Score", "repeatAround", "(II)I"⟩, 19) := ⟨⟨by decide +kernel, by decide +kernel⟩, List.mem_of_getElem? (i := 28) (by decide +kernel), List.mem_of_getElem? (i := 277) (by decide +kernel), List.mem_of_getElem? (i := 278) (by decide +kernel)⟩
theorem lw_p12 : lw_okq (⟨"RepeatWays$Way", "isLeftOut", "(I)Z"⟩, 15) := ⟨⟨by decide +kernel, by decide +kernel⟩, List.mem_of_getElem? (i := 22) (by decide +kernel), List.mem_of_getElem? (i := 281) (by decide +kernel), List.mem_of_getElem? (i := 282) (by decide +kernel)⟩
theorem lw_p13 : lw_okq (⟨"RepeatWays$Way", "leaveWithin", "(I)V"⟩, 15) := ⟨⟨by decide +kernel, by decide +kernel⟩, List.mem_of_getElem? (i := 22) (by decide +kernel), List.mem_of_getElem? (i := 285) (by decide +kernel), List.mem_of_getElem? (i := 286) (by decide +kernel)⟩
theorem lw_p14 : lw_okq (⟨"RepeatWays$Score", "isRepeatWithinEnding", "(II)Z"⟩, 19) := ⟨⟨by decide +kernel, by decide +kernel⟩, List.mem_of_getElem? (i := 28) (by decide +kernel), List.mem_of_getElem? (i := 289) (by decide +kernel), List.mem_of_getElem? (i := 290) (by decide +kernel)⟩
theorem lw_p15 : lw_okq (⟨"RepeatWays$Way", "endOf", "(I)I"⟩, 15) := ⟨⟨by decide +kernel, by decide +kernel⟩, List.mem_of_getElem? (i := 22) (by decide +kernel), List.mem_of_getElem? (i := 296) (by decide +kernel), List.mem_of_getElem? (i := 297) (by decide +kernel)⟩
def lw_privs_1 : List (MethodName × Nat) := [(⟨"RepeatWays$Way", "go", "()I"⟩, 15), (⟨"RepeatWays$Way", "forget", "()V"⟩, 15), (⟨"RepeatWays$Way", "leaveAll", "()V"⟩, 15), (⟨"RepeatWays$Way", "setFault", "(II)V"⟩, 15), (⟨"RepeatWays$Way", "findFaultOfJumps", "()V"⟩, 15), (⟨"RepeatWays$Score", "hasJump", "(I)Z"⟩, 19), (⟨"RepeatWays$Score", "faultOfJump", "(I)I"⟩, 19), (⟨"RepeatWays$Score", "lacksSign", "(I)Z"⟩, 19), (⟨"RepeatWays$Way", "playFromFirstBar", "()V"⟩, 15), (⟨"RepeatWays$Way", "comeTo", "(I)I"⟩, 15), (⟨"RepeatWays$Way", "openAround", "(I)V"⟩, 15), (⟨"RepeatWays$Score", "repeatAround", "(II)I"⟩, 19), (⟨"RepeatWays$Way", "isLeftOut", "(I)Z"⟩, 15), (⟨"RepeatWays$Way", "leaveWithin", "(I)V"⟩, 15), (⟨"RepeatWays$Score", "isRepeatWithinEnding", "(II)Z"⟩, 19), (⟨"RepeatWays$Way", "endOf", "(I)I"⟩, 15)]
theorem lw_r1 : ∀ q ∈ lw_privs_1, lw_okq q := List.forall_mem_cons.mpr ⟨lw_p0, List.forall_mem_cons.mpr ⟨lw_p1, List.forall_mem_cons.mpr ⟨lw_p2, List.forall_mem_cons.mpr ⟨lw_p3, List.forall_mem_cons.mpr ⟨lw_p4, List.forall_mem_cons.mpr ⟨lw_p5, List.forall_mem_cons.mpr ⟨lw_p6, List.forall_mem_cons.mpr ⟨lw_p7, List.forall_mem_cons.mpr ⟨lw_p8, List.forall_mem_cons.mpr ⟨lw_p9, List.forall_mem_cons.mpr ⟨lw_p10, List.forall_mem_cons.mpr ⟨lw_p11, List.forall_mem_cons.mpr ⟨lw_p12, List.forall_mem_cons.mpr ⟨lw_p13, List.forall_mem_cons.mpr ⟨lw_p14, List.forall_mem_cons.mpr ⟨lw_p15, fun _ h => absurd h List.not_mem_nil⟩⟩⟩⟩⟩⟩⟩⟩⟩⟩⟩⟩⟩⟩⟩⟩
theorem lw_p16 : lw_okq (⟨"RepeatWays$Way", "play", "(I)V"⟩, 15) := ⟨⟨by decide +kernel, by decide +kernel⟩, List.mem_of_getElem? (i := 22) (by decide +kernel), List.mem_of_getElem? (i := 300) (by decide +kernel), List.mem_of_getElem? (i := 301) (by decide +kernel)⟩
theorem lw_p17 : lw_okq (⟨"RepeatWays$Way", "behind", "(I)I"⟩, 15) := ⟨⟨by decide +kernel, by decide +kernel⟩, List.mem_of_getElem? (i := 22) (by decide +kernel), List.mem_of_getElem? (i := 304) (by decide +kernel), List.mem_of_getElem? (i := 305) (by decide +kernel)⟩
theorem lw_p18 : lw_okq (⟨"RepeatWays$Way", "isInLastPasses", "(I)Z"⟩, 15) := ⟨⟨by decide +kernel, by decide +kernel⟩, List.mem_of_getElem? (i := 22) (by decide +kernel), List.mem_of_getElem? (i := 308) (by decide +kernel), List.mem_of_getElem? (i := 309) (by decide +kernel)⟩
theorem lw_p19 : lw_okq (⟨"RepeatWays$Way", "isLatestJumpTill", "(I)Z"⟩, 15) := ⟨⟨by decide +kernel, by decide +kernel⟩, List.mem_of_getElem? (i := 22) (by decide +kernel), List.mem_of_getElem? (i := 312) (by decide +kernel), List.mem_of_getElem? (i := 313) (by decide +kernel)⟩
theorem lw_p20 : lw_okq (⟨"RepeatWays$Way", "act", "(I)I"⟩, 15) := ⟨⟨by decide +kernel, by decide +kernel⟩, List.mem_of_getElem? (i := 22) (by decide +kernel), List.mem_of_getElem? (i := 316) (by decide +kernel), List.mem_of_getElem? (i := 317) (by decide +kernel)⟩
theorem lw_p21 : lw_okq (⟨"java/lang/Throwable", "fillInStackTrace", "(I)Ljava/lang/Throwable;"⟩, 6) := ⟨⟨by decide +kernel, by decide +kernel⟩, List.mem_of_getElem? (i := 370) (by decide +kernel), List.mem_of_getElem? (i := 368) (by decide +kernel), List.mem_of_getElem? (i := 369) (by decide +kernel)⟩
theorem lw_p22 : lw_okq (⟨"RepeatWays$Score", "addBar", "(I)I"⟩, 19) := ⟨⟨by decide +kernel, by decide +kernel⟩, List.mem_of_getElem? (i := 28) (by decide +kernel), List.mem_of_getElem? (i := 400) (by decide +kernel), List.mem_of_getElem? (i := 401) (by decide +kernel)⟩
theorem lw_p23 : lw_okq (⟨"RepeatWays$Score", "hasBar", "(I)Z"⟩, 19) := ⟨⟨by decide +kernel, by decide +kernel⟩, List.mem_of_getElem? (i := 28) (by decide +kernel), List.mem_of_getElem? (i := 413) (by decide +kernel), List.mem_of_getElem? (i := 414) (by decide +kernel)⟩
theorem lw_p24 : lw_okq (⟨"RepeatWays$Score", "takesRepeat", "(II)Z"⟩, 19) := ⟨⟨by decide +kernel, by decide +kernel⟩, List.mem_of_getElem? (i := 28) (by decide +kernel), List.mem_of_getElem? (i := 449) (by decide +kernel), List.mem_of_getElem? (i := 450) (by decide +kernel)⟩
theorem lw_p25 : lw_okq (⟨"RepeatWays$Score", "liesWellByRepeats", "(II)Z"⟩, 19) := ⟨⟨by decide +kernel, by decide +kernel⟩, List.mem_of_getElem? (i := 28) (by decide +kernel), List.mem_of_getElem? (i := 453) (by decide +kernel), List.mem_of_getElem? (i := 454) (by decide +kernel)⟩
theorem lw_p26 : lw_okq (⟨"RepeatWays$Score", "hasSameRepeat", "(II)Z"⟩, 19) := ⟨⟨by decide +kernel, by decide +kernel⟩, List.mem_of_getElem? (i := 28) (by decide +kernel), List.mem_of_getElem? (i := 460) (by decide +kernel), List.mem_of_getElem? (i := 461) (by decide +kernel)⟩
theorem lw_p27 : lw_okq (⟨"RepeatWays$Score", "liesWellByEndings", "(II)Z"⟩, 19) := ⟨⟨by decide +kernel, by decide +kernel⟩, List.mem_of_getElem? (i := 28) (by decide +kernel), List.mem_of_getElem? (i := 464) (by decide +kernel), List.mem_of_getElem? (i := 465) (by decide +kernel)⟩
theorem lw_p28 : lw_okq (⟨"RepeatWays$Score", "isDepthLeft", "(II)Z"⟩, 19) := ⟨⟨by decide +kernel, by decide +kernel⟩, List.mem_of_getElem? (i := 28) (by decide +kernel), List.mem_of_getElem? (i := 468) (by decide +kernel), List.mem_of_getElem? (i := 469) (by decide +kernel)⟩
theorem lw_p29 : lw_okq (⟨"RepeatWays$Score", "addRepeat", "(III)I"⟩, 19) := ⟨⟨by decide +kernel, by decide +kernel⟩, List.mem_of_getElem? (i := 28) (by decide +kernel), List.mem_of_getElem? (i := 473) (by decide +kernel), List.mem_of_getElem? (i := 474) (by decide +kernel)⟩
theorem lw_p30 : lw_okq (⟨"RepeatWays$Score", "putAround", "(II)V"⟩, 19) := ⟨⟨by decide +kernel, by decide +kernel⟩, List.mem_of_getElem? (i := 28) (by decide +kernel), List.mem_of_getElem? (i := 477) (by decide +kernel), List.mem_of_getElem? (i := 478) (by decide +kernel)⟩
theorem lw_p31 : lw_okq (⟨"RepeatWays$Score", "isRepeatWithin", "(II)Z"⟩, 19) := ⟨⟨by decide +kernel, by decide +kernel⟩, List.mem_of_getElem? (i := 28) (by decide +kernel), List.mem_of_getElem? (i := 481) (by decide +kernel), List.mem_of_getElem? (i := 482) (by decide +kernel)⟩
def lw_privs_2 : List (MethodName × Nat) := [(⟨"RepeatWays$Way", "play", "(I)V"⟩, 15), (⟨"RepeatWays$Way", "behind", "(I)I"⟩, 15), (⟨"RepeatWays$Way", "isInLastPasses", "(I)Z"⟩, 15), (⟨"RepeatWays$Way", "isLatestJumpTill", "(I)Z"⟩, 15), (⟨"RepeatWays$Way", "act", "(I)I"⟩, 15), (⟨"java/lang/Throwable", "fillInStackTrace", "(I)Ljava/lang/Throwable;"⟩, 6), (⟨"RepeatWays$Score", "addBar", "(I)I"⟩, 19), (⟨"RepeatWays$Score", "hasBar", "(I)Z"⟩, 19), (⟨"RepeatWays$Score", "takesRepeat", "(II)Z"⟩, 19), (⟨"RepeatWays$Score", "liesWellByRepeats", "(II)Z"⟩, 19), (⟨"RepeatWays$Score", "hasSameRepeat", "(II)Z"⟩, 19), (⟨"RepeatWays$Score", "liesWellByEndings", "(II)Z"⟩, 19), (⟨"RepeatWays$Score", "isDepthLeft", "(II)Z"⟩, 19), (⟨"RepeatWays$Score", "addRepeat", "(III)I"⟩, 19), (⟨"RepeatWays$Score", "putAround", "(II)V"⟩, 19), (⟨"RepeatWays$Score", "isRepeatWithin", "(II)Z"⟩, 19)]
theorem lw_r2 : ∀ q ∈ lw_privs_2, lw_okq q := List.forall_mem_cons.mpr ⟨lw_p16, List.forall_mem_cons.mpr ⟨lw_p17, List.forall_mem_cons.mpr ⟨lw_p18, List.forall_mem_cons.mpr ⟨lw_p19, List.forall_mem_cons.mpr ⟨lw_p20, List.forall_mem_cons.mpr ⟨lw_p21, List.forall_mem_cons.mpr ⟨lw_p22, List.forall_mem_cons.mpr ⟨lw_p23, List.forall_mem_cons.mpr ⟨lw_p24, List.forall_mem_cons.mpr ⟨lw_p25, List.forall_mem_cons.mpr ⟨lw_p26, List.forall_mem_cons.mpr ⟨lw_p27, List.forall_mem_cons.mpr ⟨lw_p28, List.forall_mem_cons.mpr ⟨lw_p29, List.forall_mem_cons.mpr ⟨lw_p30, List.forall_mem_cons.mpr ⟨lw_p31, fun _ h => absurd h List.not_mem_nil⟩⟩⟩⟩⟩⟩⟩⟩⟩⟩⟩⟩⟩⟩⟩⟩
theorem lw_p32 : lw_okq (⟨"RepeatWays$Score", "hasRepeat", "(I)Z"⟩, 19) := ⟨⟨by decide +kernel, by decide +kernel⟩, List.mem_of_getElem? (i := 28) (by decide +kernel), List.mem_of_getElem? (i := 492) (by decide +kernel), List.mem_of_getElem? (i := 493) (by decide +kernel)⟩
theorem lw_p33 : lw_okq (⟨"RepeatWays$Score", "hasPasses", "(II)Z"⟩, 19) := ⟨⟨by decide +kernel, by decide +kernel⟩, List.mem_of_getElem? (i := 28) (by decide +kernel), List.mem_of_getElem? (i := 497) (by decide +kernel), List.mem_of_getElem? (i := 498) (by decide +kernel)⟩
theorem lw_p34 : lw_okq (⟨"RepeatWays$Score", "takesEnding", "(III)Z"⟩, 19) := ⟨⟨by decide +kernel, by decide +kernel⟩, List.mem_of_getElem? (i := 28) (by decide +kernel), List.mem_of_getElem? (i := 502) (by decide +kernel), List.mem_of_getElem? (i := 503) (by decide +kernel)⟩
theorem lw_p35 : lw_okq (⟨"RepeatWays$Score", "isApartFromEndings", "(II)Z"⟩, 19) := ⟨⟨by decide +kernel, by decide +kernel⟩, List.mem_of_getElem? (i := 28) (by decide +kernel), List.mem_of_getElem? (i := 506) (by decide +kernel), List.mem_of_getElem? (i := 507) (by decide +kernel)⟩
theorem lw_p36 : lw_okq (⟨"RepeatWays$Score", "addEnding", "(IIII)I"⟩, 19) := ⟨⟨by decide +kernel, by decide +kernel⟩, List.mem_of_getElem? (i := 28) (by decide +kernel), List.mem_of_getElem? (i := 511) (by decide +kernel), List.mem_of_getElem? (i := 512) (by decide +kernel)⟩
theorem lw_p37 : lw_okq (⟨"RepeatWays$Score", "moveSign", "(II)I"⟩, 19) := ⟨⟨by decide +kernel, by decide +kernel⟩, List.mem_of_getElem? (i := 28) (by decide +kernel), List.mem_of_getElem? (i := 523) (by decide +kernel), List.mem_of_getElem? (i := 524) (by decide +kernel)⟩
theorem lw_p38 : lw_okq (⟨"RepeatWays$Score", "putJump", "(IIIZ)V"⟩, 19) := ⟨⟨by decide +kernel, by decide +kernel⟩, List.mem_of_getElem? (i := 28) (by decide +kernel), List.mem_of_getElem? (i := 535) (by decide +kernel), List.mem_of_getElem? (i := 536) (by decide +kernel)⟩
theorem lw_p39 : lw_okq (⟨"RepeatWays$Score", "takeJump", "(I)V"⟩, 19) := ⟨⟨by decide +kernel, by decide +kernel⟩, List.mem_of_getElem? (i := 28) (by decide +kernel), List.mem_of_getElem? (i := 549) (by decide +kernel), List.mem_of_getElem? (i := 550) (by decide +kernel)⟩
theorem lw_p40 : lw_okq (⟨"RepeatWays$Writing", "writeRow", "(I)I"⟩, 11) := ⟨⟨by decide +kernel, by decide +kernel⟩, List.mem_of_getElem? (i := 172) (by decide +kernel), List.mem_of_getElem? (i := 585) (by decide +kernel), List.mem_of_getElem? (i := 586) (by decide +kernel)⟩
theorem lw_p41 : lw_okq (⟨"RepeatWays$Writing", "compareContents", "(I)V"⟩, 11) := ⟨⟨by decide +kernel, by decide +kernel⟩, List.mem_of_getElem? (i := 172) (by decide +kernel), List.mem_of_getElem? (i := 589) (by decide +kernel), List.mem_of_getElem? (i := 590) (by decide +kernel)⟩
theorem lw_p42 : lw_okq (⟨"RepeatWays$Writing", "choose", "(II)V"⟩, 11) := ⟨⟨by decide +kernel, by decide +kernel⟩, List.mem_of_getElem? (i := 172) (by decide +kernel), List.mem_of_getElem? (i := 596) (by decide +kernel), List.mem_of_getElem? (i := 597) (by decide +kernel)⟩
theorem lw_p43 : lw_okq (⟨"RepeatWays$Writing", "chooseBlock", "(II)V"⟩, 11) := ⟨⟨by decide +kernel, by decide +kernel⟩, List.mem_of_getElem? (i := 172) (by decide +kernel), List.mem_of_getElem? (i := 600) (by decide +kernel), List.mem_of_getElem? (i := 601) (by decide +kernel)⟩
theorem lw_p44 : lw_okq (⟨"RepeatWays$Writing", "chooseParts", "(II)V"⟩, 11) := ⟨⟨by decide +kernel, by decide +kernel⟩, List.mem_of_getElem? (i := 172) (by decide +kernel), List.mem_of_getElem? (i := 604) (by decide +kernel), List.mem_of_getElem? (i := 605) (by decide +kernel)⟩
theorem lw_p45 : lw_okq (⟨"RepeatWays$Writing", "writeItems", "(I)V"⟩, 11) := ⟨⟨by decide +kernel, by decide +kernel⟩, List.mem_of_getElem? (i := 172) (by decide +kernel), List.mem_of_getElem? (i := 608) (by decide +kernel), List.mem_of_getElem? (i := 609) (by decide +kernel)⟩
theorem lw_p46 : lw_okq (⟨"RepeatWays$Writing", "putAside", "(II)V"⟩, 11) := ⟨⟨by decide +kernel, by decide +kernel⟩, List.mem_of_getElem? (i := 172) (by decide +kernel), List.mem_of_getElem? (i := 612) (by decide +kernel), List.mem_of_getElem? (i := 613) (by decide +kernel)⟩
theorem lw_p47 : lw_okq (⟨"RepeatWays$Writing", "writePart", "(II)V"⟩, 11) := ⟨⟨by decide +kernel, by decide +kernel⟩, List.mem_of_getElem? (i := 172) (by decide +kernel), List.mem_of_getElem? (i := 616) (by decide +kernel), List.mem_of_getElem? (i := 617) (by decide +kernel)⟩
def lw_privs_3 : List (MethodName × Nat) := [(⟨"RepeatWays$Score", "hasRepeat", "(I)Z"⟩, 19), (⟨"RepeatWays$Score", "hasPasses", "(II)Z"⟩, 19), (⟨"RepeatWays$Score", "takesEnding", "(III)Z"⟩, 19), (⟨"RepeatWays$Score", "isApartFromEndings", "(II)Z"⟩, 19), (⟨"RepeatWays$Score", "addEnding", "(IIII)I"⟩, 19), (⟨"RepeatWays$Score", "moveSign", "(II)I"⟩, 19), (⟨"RepeatWays$Score", "putJump", "(IIIZ)V"⟩, 19), (⟨"RepeatWays$Score", "takeJump", "(I)V"⟩, 19), (⟨"RepeatWays$Writing", "writeRow", "(I)I"⟩, 11), (⟨"RepeatWays$Writing", "compareContents", "(I)V"⟩, 11), (⟨"RepeatWays$Writing", "choose", "(II)V"⟩, 11), (⟨"RepeatWays$Writing", "chooseBlock", "(II)V"⟩, 11), (⟨"RepeatWays$Writing", "chooseParts", "(II)V"⟩, 11), (⟨"RepeatWays$Writing", "writeItems", "(I)V"⟩, 11), (⟨"RepeatWays$Writing", "putAside", "(II)V"⟩, 11), (⟨"RepeatWays$Writing", "writePart", "(II)V"⟩, 11)]
theorem lw_r3 : ∀ q ∈ lw_privs_3, lw_okq q := List.forall_mem_cons.mpr ⟨lw_p32, List.forall_mem_cons.mpr ⟨lw_p33, List.forall_mem_cons.mpr ⟨lw_p34, List.forall_mem_cons.mpr ⟨lw_p35, List.forall_mem_cons.mpr ⟨lw_p36, List.forall_mem_cons.mpr ⟨lw_p37, List.forall_mem_cons.mpr ⟨lw_p38, List.forall_mem_cons.mpr ⟨lw_p39, List.forall_mem_cons.mpr ⟨lw_p40, List.forall_mem_cons.mpr ⟨lw_p41, List.forall_mem_cons.mpr ⟨lw_p42, List.forall_mem_cons.mpr ⟨lw_p43, List.forall_mem_cons.mpr ⟨lw_p44, List.forall_mem_cons.mpr ⟨lw_p45, List.forall_mem_cons.mpr ⟨lw_p46, List.forall_mem_cons.mpr ⟨lw_p47, fun _ h => absurd h List.not_mem_nil⟩⟩⟩⟩⟩⟩⟩⟩⟩⟩⟩⟩⟩⟩⟩⟩
theorem lw_p48 : lw_okq (⟨"RepeatWays$Writing", "addItem", "(II)V"⟩, 11) := ⟨⟨by decide +kernel, by decide +kernel⟩, List.mem_of_getElem? (i := 172) (by decide +kernel), List.mem_of_getElem? (i := 620) (by decide +kernel), List.mem_of_getElem? (i := 621) (by decide +kernel)⟩
theorem lw_p49 : lw_okq (⟨"RepeatWaysModel", "refuses", "(ZZZ)Z"⟩, 41) := ⟨⟨by decide +kernel, by decide +kernel⟩, List.mem_of_getElem? (i := 641) (by decide +kernel), List.mem_of_getElem? (i := 779) (by decide +kernel), List.mem_of_getElem? (i := 780) (by decide +kernel)⟩
theorem lw_p50 : lw_okq (⟨"RepeatWaysModel", "isBar", "(I)Z"⟩, 41) := ⟨⟨by decide +kernel, by decide +kernel⟩, List.mem_of_getElem? (i := 641) (by decide +kernel), List.mem_of_getElem? (i := 787) (by decide +kernel), List.mem_of_getElem? (i := 788) (by decide +kernel)⟩
theorem lw_p51 : lw_okq (⟨"RepeatWaysModel", "mayRepeat", "(II)Z"⟩, 41) := ⟨⟨by decide +kernel, by decide +kernel⟩, List.mem_of_getElem? (i := 641) (by decide +kernel), List.mem_of_getElem? (i := 791) (by decide +kernel), List.mem_of_getElem? (i := 792) (by decide +kernel)⟩
theorem lw_p52 : lw_okq (⟨"RepeatWaysModel", "isAround", "(II)Z"⟩, 41) := ⟨⟨by decide +kernel, by decide +kernel⟩, List.mem_of_getElem? (i := 641) (by decide +kernel), List.mem_of_getElem? (i := 804) (by decide +kernel), List.mem_of_getElem? (i := 805) (by decide +kernel)⟩
theorem lw_p53 : lw_okq (⟨"RepeatWaysModel", "mayEnd", "(III)Z"⟩, 41) := ⟨⟨by decide +kernel, by decide +kernel⟩, List.mem_of_getElem? (i := 641) (by decide +kernel), List.mem_of_getElem? (i := 812) (by decide +kernel), List.mem_of_getElem? (i := 813) (by decide +kernel)⟩
theorem lw_p54 : lw_okq (⟨"RepeatWaysModel", "forget", "()V"⟩, 41) := ⟨⟨by decide +kernel, by decide +kernel⟩, List.mem_of_getElem? (i := 641) (by decide +kernel), List.mem_of_getElem? (i := 832) (by decide +kernel), List.mem_of_getElem? (i := 833) (by decide +kernel)⟩
theorem lw_p55 : lw_okq (⟨"RepeatWaysModel", "leaveAll", "()V"⟩, 41) := ⟨⟨by decide +kernel, by decide +kernel⟩, List.mem_of_getElem? (i := 641) (by decide +kernel), List.mem_of_getElem? (i := 836) (by decide +kernel), List.mem_of_getElem? (i := 837) (by decide +kernel)⟩
theorem lw_p56 : lw_okq (⟨"RepeatWaysModel", "missing", "(I)I"⟩, 41) := ⟨⟨by decide +kernel, by decide +kernel⟩, List.mem_of_getElem? (i := 641) (by decide +kernel), List.mem_of_getElem? (i := 840) (by decide +kernel), List.mem_of_getElem? (i := 841) (by decide +kernel)⟩
theorem lw_p57 : lw_okq (⟨"RepeatWaysModel", "comeTo", "(I)V"⟩, 41) := ⟨⟨by decide +kernel, by decide +kernel⟩, List.mem_of_getElem? (i := 641) (by decide +kernel), List.mem_of_getElem? (i := 844) (by decide +kernel), List.mem_of_getElem? (i := 845) (by decide +kernel)⟩
theorem lw_p58 : lw_okq (⟨"RepeatWaysModel", "leaveWithin", "(III)V"⟩, 41) := ⟨⟨by decide +kernel, by decide +kernel⟩, List.mem_of_getElem? (i := 641) (by decide +kernel), List.mem_of_getElem? (i := 848) (by decide +kernel), List.mem_of_getElem? (i := 849) (by decide +kernel)⟩
theorem lw_p59 : lw_okq (⟨"RepeatWaysModel", "theEnd", "(I)V"⟩, 41) := ⟨⟨by decide +kernel, by decide +kernel⟩, List.mem_of_getElem? (i := 641) (by decide +kernel), List.mem_of_getElem? (i := 852) (by decide +kernel), List.mem_of_getElem? (i := 853) (by decide +kernel)⟩
theorem lw_p60 : lw_okq (⟨"RepeatWaysModel", "play", "(I)V"⟩, 41) := ⟨⟨by decide +kernel, by decide +kernel⟩, List.mem_of_getElem? (i := 641) (by decide +kernel), List.mem_of_getElem? (i := 856) (by decide +kernel), List.mem_of_getElem? (i := 857) (by decide +kernel)⟩
theorem lw_p61 : lw_okq (⟨"RepeatWaysModel", "aroundIt", "(IZ)I"⟩, 41) := ⟨⟨by decide +kernel, by decide +kernel⟩, List.mem_of_getElem? (i := 641) (by decide +kernel), List.mem_of_getElem? (i := 860) (by decide +kernel), List.mem_of_getElem? (i := 861) (by decide +kernel)⟩
theorem lw_p62 : lw_okq (⟨"RepeatWaysModel", "findWay", "(II)V"⟩, 41) := ⟨⟨by decide +kernel, by decide +kernel⟩, List.mem_of_getElem? (i := 641) (by decide +kernel), List.mem_of_getElem? (i := 884) (by decide +kernel), List.mem_of_getElem? (i := 885) (by decide +kernel)⟩
theorem lw_p63 : lw_okq (⟨"RepeatWaysModel", "isAgain", "(III)Z"⟩, 41) := ⟨⟨by decide +kernel, by decide +kernel⟩, List.mem_of_getElem? (i := 641) (by decide +kernel), List.mem_of_getElem? (i := 888) (by decide +kernel), List.mem_of_getElem? (i := 889) (by decide +kernel)⟩
def lw_privs_4 : List (MethodName × Nat) := [(⟨"RepeatWays$Writing", "addItem", "(II)V"⟩, 11), (⟨"RepeatWaysModel", "refuses", "(ZZZ)Z"⟩, 41), (⟨"RepeatWaysModel", "isBar", "(I)Z"⟩, 41), (⟨"RepeatWaysModel", "mayRepeat", "(II)Z"⟩, 41), (⟨"RepeatWaysModel", "isAround", "(II)Z"⟩, 41), (⟨"RepeatWaysModel", "mayEnd", "(III)Z"⟩, 41), (⟨"RepeatWaysModel", "forget", "()V"⟩, 41), (⟨"RepeatWaysModel", "leaveAll", "()V"⟩, 41), (⟨"RepeatWaysModel", "missing", "(I)I"⟩, 41), (⟨"RepeatWaysModel", "comeTo", "(I)V"⟩, 41), (⟨"RepeatWaysModel", "leaveWithin", "(III)V"⟩, 41), (⟨"RepeatWaysModel", "theEnd", "(I)V"⟩, 41), (⟨"RepeatWaysModel", "play", "(I)V"⟩, 41), (⟨"RepeatWaysModel", "aroundIt", "(IZ)I"⟩, 41), (⟨"RepeatWaysModel", "findWay", "(II)V"⟩, 41), (⟨"RepeatWaysModel", "isAgain", "(III)Z"⟩, 41)]
theorem lw_r4 : ∀ q ∈ lw_privs_4, lw_okq q := List.forall_mem_cons.mpr ⟨lw_p48, List.forall_mem_cons.mpr ⟨lw_p49, List.forall_mem_cons.mpr ⟨lw_p50, List.forall_mem_cons.mpr ⟨lw_p51, List.forall_mem_cons.mpr ⟨lw_p52, List.forall_mem_cons.mpr ⟨lw_p53, List.forall_mem_cons.mpr ⟨lw_p54, List.forall_mem_cons.mpr ⟨lw_p55, List.forall_mem_cons.mpr ⟨lw_p56, List.forall_mem_cons.mpr ⟨lw_p57, List.forall_mem_cons.mpr ⟨lw_p58, List.forall_mem_cons.mpr ⟨lw_p59, List.forall_mem_cons.mpr ⟨lw_p60, List.forall_mem_cons.mpr ⟨lw_p61, List.forall_mem_cons.mpr ⟨lw_p62, List.forall_mem_cons.mpr ⟨lw_p63, fun _ h => absurd h List.not_mem_nil⟩⟩⟩⟩⟩⟩⟩⟩⟩⟩⟩⟩⟩⟩⟩⟩
theorem lw_p64 : lw_okq (⟨"RepeatWaysModel", "write", "(I)V"⟩, 41) := ⟨⟨by decide +kernel, by decide +kernel⟩, List.mem_of_getElem? (i := 641) (by decide +kernel), List.mem_of_getElem? (i := 892) (by decide +kernel), List.mem_of_getElem? (i := 893) (by decide +kernel)⟩
theorem lw_p65 : lw_okq (⟨"RepeatWaysModel", "item", "(II)V"⟩, 41) := ⟨⟨by decide +kernel, by decide +kernel⟩, List.mem_of_getElem? (i := 641) (by decide +kernel), List.mem_of_getElem? (i := 896) (by decide +kernel), List.mem_of_getElem? (i := 897) (by decide +kernel)⟩
def lw_privs_5 : List (MethodName × Nat) := [(⟨"RepeatWaysModel", "write", "(I)V"⟩, 41), (⟨"RepeatWaysModel", "item", "(II)V"⟩, 41)]
theorem lw_r5 : ∀ q ∈ lw_privs_5, lw_okq q := List.forall_mem_cons.mpr ⟨lw_p64, List.forall_mem_cons.mpr ⟨lw_p65, fun _ h => absurd h List.not_mem_nil⟩⟩
def lw_privs : List (MethodName × Nat) := lw_privs_1 ++ (lw_privs_2 ++ (lw_privs_3 ++ (lw_privs_4 ++ (lw_privs_5))))
def lw_tbl : List Cond := k2_sels lw_privs ++ tables_1
theorem lw_privs_ok : ∀ q ∈ lw_privs, lw_okq q := by
  show ∀ q ∈ lw_privs_1 ++ (lw_privs_2 ++ (lw_privs_3 ++ (lw_privs_4 ++ (lw_privs_5)))), lw_okq q
  exact List.forall_mem_append.mpr ⟨lw_r1, List.forall_mem_append.mpr ⟨lw_r2, List.forall_mem_append.mpr ⟨lw_r3, List.forall_mem_append.mpr ⟨lw_r4, lw_r5⟩⟩⟩⟩
end
section
/-! ===== own names ===== -/
def rn_X0 : String := "RepeatWays"
def tn_X0 : u_T := fun k => match k with
  | 0 => ("RepeatWays", "way", "LRepeatWays$Way;", true)
  | 1 => ("RepeatWays", "score", "LRepeatWays$Score;", true)
  | _ => ("RepeatWays", "writing", "LRepeatWays$Writing;", true)
def ft_X0 : Nat → FieldType := fun k => match k with
  | 0 => .object "RepeatWays$Way"
  | 1 => .object "RepeatWays$Score"
  | _ => .object "RepeatWays$Writing"
theorem nm_X0 : ∀ a, a < 3 → ∀ b, b < 3 → a ≠ b → (tn_X0 a).2.1 ≠ (tn_X0 b).2.1 := by decide +kernel
theorem fk_X0 : ∀ k, k < 3 → parseFieldDescriptor (tn_X0 k).2.2.1 = some (ft_X0 k) := by decide +kernel
def rn_X1 : String := "RepeatWays$Score"
def tn_X1 : u_T := fun k => match k with
  | 0 => ("RepeatWays$Score", "contents", "[I", true)
  | 1 => ("RepeatWays$Score", "repeatFrom", "[I", true)
  | 2 => ("RepeatWays$Score", "repeatTo", "[I", true)
  | 3 => ("RepeatWays$Score", "repeatTimes", "[I", true)
  | 4 => ("RepeatWays$Score", "endingRepeat", "[I", true)
  | 5 => ("RepeatWays$Score", "endingFrom", "[I", true)
  | 6 => ("RepeatWays$Score", "endingTo", "[I", true)
  | 7 => ("RepeatWays$Score", "endingPasses", "[I", true)
  | 8 => ("RepeatWays$Score", "signBar", "[I", true)
  | 9 => ("RepeatWays$Score", "jumpTo", "[I", true)
  | 10 => ("RepeatWays$Score", "jumpTill", "[I", true)
  | 11 => ("RepeatWays$Score", "jumpRepeats", "[Z", true)
  | 12 => ("RepeatWays$Score", "around", "[I", true)
  | 13 => ("RepeatWays$Score", "depth", "[I", true)
  | 14 => ("RepeatWays$Score", "endingAt", "[I", true)
  | 15 => ("RepeatWays$Score", "bars", "I", false)
  | 16 => ("RepeatWays$Score", "repeats", "I", false)
  | 17 => ("RepeatWays$Score", "endings", "I", false)
  | _ => ("RepeatWays$Score", "jumps", "I", false)
def ft_X1 : Nat → FieldType := fun k => match k with
  | 0 => .array .int
  | 1 => .array .int
  | 2 => .array .int
  | 3 => .array .int
  | 4 => .array .int
  | 5 => .array .int
  | 6 => .array .int
  | 7 => .array .int
  | 8 => .array .int
  | 9 => .array .int
  | 10 => .array .int
  | 11 => .array .boolean
  | 12 => .array .int
  | 13 => .array .int
  | 14 => .array .int
  | 15 => .int
  | 16 => .int
  | 17 => .int
  | _ => .int
theorem nm_X1 : ∀ a, a < 19 → ∀ b, b < 19 → a ≠ b → (tn_X1 a).2.1 ≠ (tn_X1 b).2.1 := by decide +kernel
theorem fk_X1 : ∀ k, k < 19 → parseFieldDescriptor (tn_X1 k).2.2.1 = some (ft_X1 k) := by decide +kernel
def rn_X2 : String := "RepeatWays$Way"
def tn_X2 : u_T := fun k => match k with
  | 0 => ("RepeatWays$Way", "score", "LRepeatWays$Score;", true)
  | 1 => ("RepeatWays$Way", "barAt", "[I", true)
  | 2 => ("RepeatWays$Way", "jumpsBefore", "[I", true)
  | 3 => ("RepeatWays$Way", "innerPass", "[I", true)
  | 4 => ("RepeatWays$Way", "outerPass", "[I", true)
  | 5 => ("RepeatWays$Way", "playedOf", "[I", true)
  | 6 => ("RepeatWays$Way", "comeToOf", "[I", true)
  | 7 => ("RepeatWays$Way", "pass", "[I", true)
  | 8 => ("RepeatWays$Way", "acted", "[Z", true)
  | 9 => ("RepeatWays$Way", "count", "I", false)
  | 10 => ("RepeatWays$Way", "jumps", "I", false)
  | 11 => ("RepeatWays$Way", "latestJump", "I", false)
  | 12 => ("RepeatWays$Way", "wasAtCoda", "Z", false)
  | 13 => ("RepeatWays$Way", "faultKind", "I", false)
  | _ => ("RepeatWays$Way", "faultBar", "I", false)
def ft_X2 : Nat → FieldType := fun k => match k with
  | 0 => .object "RepeatWays$Score"
  | 1 => .array .int
  | 2 => .array .int
  | 3 => .array .int
  | 4 => .array .int
  | 5 => .array .int
  | 6 => .array .int
  | 7 => .array .int
  | 8 => .array .boolean
  | 9 => .int
  | 10 => .int
  | 11 => .int
  | 12 => .boolean
  | 13 => .int
  | _ => .int
theorem nm_X2 : ∀ a, a < 15 → ∀ b, b < 15 → a ≠ b → (tn_X2 a).2.1 ≠ (tn_X2 b).2.1 := by decide +kernel
theorem fk_X2 : ∀ k, k < 15 → parseFieldDescriptor (tn_X2 k).2.2.1 = some (ft_X2 k) := by decide +kernel
def rn_X3 : String := "RepeatWays$Writing"
def tn_X3 : u_T := fun k => match k with
  | 0 => ("RepeatWays$Writing", "row", "[I", true)
  | 1 => ("RepeatWays$Writing", "alike", "[I", true)
  | 2 => ("RepeatWays$Writing", "fewest", "[I", true)
  | 3 => ("RepeatWays$Writing", "chosen", "[I", true)
  | 4 => ("RepeatWays$Writing", "waitingStart", "[I", true)
  | 5 => ("RepeatWays$Writing", "waitingLength", "[I", true)
  | 6 => ("RepeatWays$Writing", "itemKind", "[I", true)
  | 7 => ("RepeatWays$Writing", "itemValue", "[I", true)
  | 8 => ("RepeatWays$Writing", "waiting", "I", false)
  | 9 => ("RepeatWays$Writing", "items", "I", false)
  | _ => ("RepeatWays$Writing", "bars", "I", false)
def ft_X3 : Nat → FieldType := fun k => match k with
  | 0 => .array .int
  | 1 => .array .int
  | 2 => .array .int
  | 3 => .array .int
  | 4 => .array .int
  | 5 => .array .int
  | 6 => .array .int
  | 7 => .array .int
  | 8 => .int
  | 9 => .int
  | _ => .int
theorem nm_X3 : ∀ a, a < 11 → ∀ b, b < 11 → a ≠ b → (tn_X3 a).2.1 ≠ (tn_X3 b).2.1 := by decide +kernel
theorem fk_X3 : ∀ k, k < 11 → parseFieldDescriptor (tn_X3 k).2.2.1 = some (ft_X3 k) := by decide +kernel
def rn_X4 : String := "RepeatWaysModel"
def tn_X4 : u_T := fun k => match k with
  | 0 => ("RepeatWaysModel", "thrown", "I", false)
  | 1 => ("RepeatWaysModel", "bars", "I", false)
  | 2 => ("RepeatWaysModel", "contents", "[I", true)
  | 3 => ("RepeatWaysModel", "repeats", "I", false)
  | 4 => ("RepeatWaysModel", "repeatFrom", "[I", true)
  | 5 => ("RepeatWaysModel", "repeatTo", "[I", true)
  | 6 => ("RepeatWaysModel", "repeatTimes", "[I", true)
  | 7 => ("RepeatWaysModel", "endings", "I", false)
  | 8 => ("RepeatWaysModel", "endingOf", "[I", true)
  | 9 => ("RepeatWaysModel", "endingFrom", "[I", true)
  | 10 => ("RepeatWaysModel", "endingTo", "[I", true)
  | 11 => ("RepeatWaysModel", "endingPasses", "[I", true)
  | 12 => ("RepeatWaysModel", "signAt", "[I", true)
  | 13 => ("RepeatWaysModel", "hasJump", "[Z", true)
  | 14 => ("RepeatWaysModel", "jumpTo", "[I", true)
  | 15 => ("RepeatWaysModel", "jumpTill", "[I", true)
  | 16 => ("RepeatWaysModel", "jumpRepeats", "[Z", true)
  | 17 => ("RepeatWaysModel", "faultBar", "I", false)
  | 18 => ("RepeatWaysModel", "many", "I", false)
  | 19 => ("RepeatWaysModel", "playedBar", "[I", true)
  | 20 => ("RepeatWaysModel", "playedJumps", "[I", true)
  | 21 => ("RepeatWaysModel", "playedInner", "[I", true)
  | 22 => ("RepeatWaysModel", "playedOuter", "[I", true)
  | 23 => ("RepeatWaysModel", "cameTo", "[I", true)
  | 24 => ("RepeatWaysModel", "acted", "I", false)
  | 25 => ("RepeatWaysModel", "pass", "[I", true)
  | 26 => ("RepeatWaysModel", "hasActed", "[Z", true)
  | 27 => ("RepeatWaysModel", "latest", "I", false)
  | 28 => ("RepeatWaysModel", "wasAtCoda", "Z", false)
  | 29 => ("RepeatWaysModel", "comes", "I", false)
  | 30 => ("RepeatWaysModel", "isTooLong", "Z", false)
  | 31 => ("RepeatWaysModel", "row", "[I", true)
  | 32 => ("RepeatWaysModel", "fewest", "[I", true)
  | 33 => ("RepeatWaysModel", "block", "[I", true)
  | 34 => ("RepeatWaysModel", "firstPart", "[I", true)
  | 35 => ("RepeatWaysModel", "items", "I", false)
  | 36 => ("RepeatWaysModel", "itemKind", "[I", true)
  | 37 => ("RepeatWaysModel", "itemValue", "[I", true)
  | 38 => ("RepeatWaysModel", "itemBars", "I", false)
  | 39 => ("RepeatWaysModel", "waitAt", "[I", true)
  | _ => ("RepeatWaysModel", "waitLong", "[I", true)
def ft_X4 : Nat → FieldType := fun k => match k with
  | 0 => .int
  | 1 => .int
  | 2 => .array .int
  | 3 => .int
  | 4 => .array .int
  | 5 => .array .int
  | 6 => .array .int
  | 7 => .int
  | 8 => .array .int
  | 9 => .array .int
  | 10 => .array .int
  | 11 => .array .int
  | 12 => .array .int
  | 13 => .array .boolean
  | 14 => .array .int
  | 15 => .array .int
  | 16 => .array .boolean
  | 17 => .int
  | 18 => .int
  | 19 => .array .int
  | 20 => .array .int
  | 21 => .array .int
  | 22 => .array .int
  | 23 => .array .int
  | 24 => .int
  | 25 => .array .int
  | 26 => .array .boolean
  | 27 => .int
  | 28 => .boolean
  | 29 => .int
  | 30 => .boolean
  | 31 => .array .int
  | 32 => .array .int
  | 33 => .array .int
  | 34 => .array .int
  | 35 => .int
  | 36 => .array .int
  | 37 => .array .int
  | 38 => .int
  | 39 => .array .int
  | _ => .array .int
theorem nm_X4 : ∀ a, a < 41 → ∀ b, b < 41 → a ≠ b → (tn_X4 a).2.1 ≠ (tn_X4 b).2.1 := by decide +kernel
theorem fk_X4 : ∀ k, k < 41 → parseFieldDescriptor (tn_X4 k).2.2.1 = some (ft_X4 k) := by decide +kernel
def rn_XL : String := "RepeatWaysLaw"
abbrev vw_Cl : List vw_C := [(rn_X0, tn_X0, 3), (rn_X1, tn_X1, 19), (rn_X2, tn_X2, 15), (rn_X3, tn_X3, 11), (rn_X4, tn_X4, 41)]
abbrev cn_X0_init : ByteArray := prog_1_method_1_code
def yn_X0_init : MethodName := ⟨rn_X0, "<init>", "()V"⟩
abbrev cn_X0_bar : ByteArray := prog_1_method_2_code
def yn_X0_bar : MethodName := ⟨rn_X0, "bar", "(I)I"⟩
abbrev cn_X0_repeat : ByteArray := prog_1_method_3_code
def yn_X0_repeat : MethodName := ⟨rn_X0, "repeat", "(III)I"⟩
abbrev cn_X0_ending : ByteArray := prog_1_method_4_code
def yn_X0_ending : MethodName := ⟨rn_X0, "ending", "(IIII)I"⟩
abbrev cn_X0_sign : ByteArray := prog_1_method_5_code
def yn_X0_sign : MethodName := ⟨rn_X0, "sign", "(II)I"⟩
abbrev cn_X0_jump : ByteArray := prog_1_method_6_code
def yn_X0_jump : MethodName := ⟨rn_X0, "jump", "(IIIZ)V"⟩
abbrev cn_X0_plain : ByteArray := prog_1_method_7_code
def yn_X0_plain : MethodName := ⟨rn_X0, "plain", "(I)V"⟩
abbrev cn_X0_unfold : ByteArray := prog_1_method_8_code
def yn_X0_unfold : MethodName := ⟨rn_X0, "unfold", "()I"⟩
abbrev cn_X0_fault : ByteArray := prog_1_method_9_code
def yn_X0_fault : MethodName := ⟨rn_X0, "fault", "()I"⟩
abbrev cn_X0_played : ByteArray := prog_1_method_10_code
def yn_X0_played : MethodName := ⟨rn_X0, "played", "(II)I"⟩
abbrev cn_X0_times : ByteArray := prog_1_method_11_code
def yn_X0_times : MethodName := ⟨rn_X0, "times", "(I)I"⟩
abbrev cn_X0_comes : ByteArray := prog_1_method_12_code
def yn_X0_comes : MethodName := ⟨rn_X0, "comes", "(I)I"⟩
abbrev cn_X0_fold : ByteArray := prog_1_method_13_code
def yn_X0_fold : MethodName := ⟨rn_X0, "fold", "(II)I"⟩
abbrev cn_X0_folded : ByteArray := prog_1_method_14_code
def yn_X0_folded : MethodName := ⟨rn_X0, "folded", "(II)I"⟩
abbrev cn_X0_told : ByteArray := prog_1_method_15_code
def yn_X0_told : MethodName := ⟨rn_X0, "told", "(I)I"⟩
abbrev cn_X1_init : ByteArray := prog_2_method_1_code
def yn_X1_init : MethodName := ⟨rn_X1, "<init>", "()V"⟩
abbrev cn_X1_hasBar : ByteArray := prog_2_method_2_code
def yn_X1_hasBar : MethodName := ⟨rn_X1, "hasBar", "(I)Z"⟩
abbrev cn_X1_hasRepeat : ByteArray := prog_2_method_3_code
def yn_X1_hasRepeat : MethodName := ⟨rn_X1, "hasRepeat", "(I)Z"⟩
abbrev cn_X1_hasJump : ByteArray := prog_2_method_4_code
def yn_X1_hasJump : MethodName := ⟨rn_X1, "hasJump", "(I)Z"⟩
abbrev cn_X1_hasPasses : ByteArray := prog_2_method_5_code
def yn_X1_hasPasses : MethodName := ⟨rn_X1, "hasPasses", "(II)Z"⟩
abbrev cn_X1_addBar : ByteArray := prog_2_method_6_code
def yn_X1_addBar : MethodName := ⟨rn_X1, "addBar", "(I)I"⟩
abbrev cn_X1_liesWithin : ByteArray := prog_2_method_7_code
def yn_X1_liesWithin : MethodName := ⟨rn_X1, "liesWithin", "(IIII)Z"⟩
abbrev cn_X1_liesWell : ByteArray := prog_2_method_8_code
def yn_X1_liesWell : MethodName := ⟨rn_X1, "liesWell", "(IIII)Z"⟩
abbrev cn_X1_takesRepeat : ByteArray := prog_2_method_9_code
def yn_X1_takesRepeat : MethodName := ⟨rn_X1, "takesRepeat", "(II)Z"⟩
abbrev cn_X1_takesEnding : ByteArray := prog_2_method_10_code
def yn_X1_takesEnding : MethodName := ⟨rn_X1, "takesEnding", "(III)Z"⟩
abbrev cn_X1_liesWellByRepeats : ByteArray := prog_2_method_11_code
def yn_X1_liesWellByRepeats : MethodName := ⟨rn_X1, "liesWellByRepeats", "(II)Z"⟩
abbrev cn_X1_hasSameRepeat : ByteArray := prog_2_method_12_code
def yn_X1_hasSameRepeat : MethodName := ⟨rn_X1, "hasSameRepeat", "(II)Z"⟩
abbrev cn_X1_liesWellByEndings : ByteArray := prog_2_method_13_code
def yn_X1_liesWellByEndings : MethodName := ⟨rn_X1, "liesWellByEndings", "(II)Z"⟩
abbrev cn_X1_isApartFromEndings : ByteArray := prog_2_method_14_code
def yn_X1_isApartFromEndings : MethodName := ⟨rn_X1, "isApartFromEndings", "(II)Z"⟩
abbrev cn_X1_isDepthLeft : ByteArray := prog_2_method_15_code
def yn_X1_isDepthLeft : MethodName := ⟨rn_X1, "isDepthLeft", "(II)Z"⟩
abbrev cn_X1_addRepeat : ByteArray := prog_2_method_16_code
def yn_X1_addRepeat : MethodName := ⟨rn_X1, "addRepeat", "(III)I"⟩
abbrev cn_X1_putAround : ByteArray := prog_2_method_17_code
def yn_X1_putAround : MethodName := ⟨rn_X1, "putAround", "(II)V"⟩
abbrev cn_X1_isRepeatWithin : ByteArray := prog_2_method_18_code
def yn_X1_isRepeatWithin : MethodName := ⟨rn_X1, "isRepeatWithin", "(II)Z"⟩
abbrev cn_X1_isRepeatWithinEnding : ByteArray := prog_2_method_19_code
def yn_X1_isRepeatWithinEnding : MethodName := ⟨rn_X1, "isRepeatWithinEnding", "(II)Z"⟩
abbrev cn_X1_repeatAround : ByteArray := prog_2_method_20_code
def yn_X1_repeatAround : MethodName := ⟨rn_X1, "repeatAround", "(II)I"⟩
abbrev cn_X1_addEnding : ByteArray := prog_2_method_21_code
def yn_X1_addEnding : MethodName := ⟨rn_X1, "addEnding", "(IIII)I"⟩
abbrev cn_X1_moveSign : ByteArray := prog_2_method_22_code
def yn_X1_moveSign : MethodName := ⟨rn_X1, "moveSign", "(II)I"⟩
abbrev cn_X1_putJump : ByteArray := prog_2_method_23_code
def yn_X1_putJump : MethodName := ⟨rn_X1, "putJump", "(IIIZ)V"⟩
abbrev cn_X1_takeJump : ByteArray := prog_2_method_24_code
def yn_X1_takeJump : MethodName := ⟨rn_X1, "takeJump", "(I)V"⟩
abbrev cn_X1_lacksSign : ByteArray := prog_2_method_25_code
def yn_X1_lacksSign : MethodName := ⟨rn_X1, "lacksSign", "(I)Z"⟩
abbrev cn_X1_faultOfJump : ByteArray := prog_2_method_26_code
def yn_X1_faultOfJump : MethodName := ⟨rn_X1, "faultOfJump", "(I)I"⟩
abbrev cn_X2_init : ByteArray := prog_3_method_1_code
def yn_X2_init : MethodName := ⟨rn_X2, "<init>", "()V"⟩
abbrev cn_X2_go : ByteArray := prog_3_method_2_code
def yn_X2_go : MethodName := ⟨rn_X2, "go", "()I"⟩
abbrev cn_X2_forget : ByteArray := prog_3_method_3_code
def yn_X2_forget : MethodName := ⟨rn_X2, "forget", "()V"⟩
abbrev cn_X2_setFault : ByteArray := prog_3_method_4_code
def yn_X2_setFault : MethodName := ⟨rn_X2, "setFault", "(II)V"⟩
abbrev cn_X2_findFaultOfJumps : ByteArray := prog_3_method_5_code
def yn_X2_findFaultOfJumps : MethodName := ⟨rn_X2, "findFaultOfJumps", "()V"⟩
abbrev cn_X2_playFromFirstBar : ByteArray := prog_3_method_6_code
def yn_X2_playFromFirstBar : MethodName := ⟨rn_X2, "playFromFirstBar", "()V"⟩
abbrev cn_X2_comeTo : ByteArray := prog_3_method_7_code
def yn_X2_comeTo : MethodName := ⟨rn_X2, "comeTo", "(I)I"⟩
abbrev cn_X2_openAround : ByteArray := prog_3_method_8_code
def yn_X2_openAround : MethodName := ⟨rn_X2, "openAround", "(I)V"⟩
abbrev cn_X2_isLeftOut : ByteArray := prog_3_method_9_code
def yn_X2_isLeftOut : MethodName := ⟨rn_X2, "isLeftOut", "(I)Z"⟩
abbrev cn_X2_leaveWithin : ByteArray := prog_3_method_10_code
def yn_X2_leaveWithin : MethodName := ⟨rn_X2, "leaveWithin", "(I)V"⟩
abbrev cn_X2_leaveAll : ByteArray := prog_3_method_11_code
def yn_X2_leaveAll : MethodName := ⟨rn_X2, "leaveAll", "()V"⟩
abbrev cn_X2_play : ByteArray := prog_3_method_12_code
def yn_X2_play : MethodName := ⟨rn_X2, "play", "(I)V"⟩
abbrev cn_X2_behind : ByteArray := prog_3_method_13_code
def yn_X2_behind : MethodName := ⟨rn_X2, "behind", "(I)I"⟩
abbrev cn_X2_isInLastPasses : ByteArray := prog_3_method_14_code
def yn_X2_isInLastPasses : MethodName := ⟨rn_X2, "isInLastPasses", "(I)Z"⟩
abbrev cn_X2_isLatestJumpTill : ByteArray := prog_3_method_15_code
def yn_X2_isLatestJumpTill : MethodName := ⟨rn_X2, "isLatestJumpTill", "(I)Z"⟩
abbrev cn_X2_act : ByteArray := prog_3_method_16_code
def yn_X2_act : MethodName := ⟨rn_X2, "act", "(I)I"⟩
abbrev cn_X2_endOf : ByteArray := prog_3_method_17_code
def yn_X2_endOf : MethodName := ⟨rn_X2, "endOf", "(I)I"⟩
abbrev cn_X3_init : ByteArray := prog_4_method_1_code
def yn_X3_init : MethodName := ⟨rn_X3, "<init>", "()V"⟩
abbrev cn_X3_cell : ByteArray := prog_4_method_2_code
def yn_X3_cell : MethodName := ⟨rn_X3, "cell", "(II)I"⟩
abbrev cn_X3_writeRow : ByteArray := prog_4_method_3_code
def yn_X3_writeRow : MethodName := ⟨rn_X3, "writeRow", "(I)I"⟩
abbrev cn_X3_compareContents : ByteArray := prog_4_method_4_code
def yn_X3_compareContents : MethodName := ⟨rn_X3, "compareContents", "(I)V"⟩
abbrev cn_X3_choose : ByteArray := prog_4_method_5_code
def yn_X3_choose : MethodName := ⟨rn_X3, "choose", "(II)V"⟩
abbrev cn_X3_chooseBlock : ByteArray := prog_4_method_6_code
def yn_X3_chooseBlock : MethodName := ⟨rn_X3, "chooseBlock", "(II)V"⟩
abbrev cn_X3_chooseParts : ByteArray := prog_4_method_7_code
def yn_X3_chooseParts : MethodName := ⟨rn_X3, "chooseParts", "(II)V"⟩
abbrev cn_X3_writeItems : ByteArray := prog_4_method_8_code
def yn_X3_writeItems : MethodName := ⟨rn_X3, "writeItems", "(I)V"⟩
abbrev cn_X3_writePart : ByteArray := prog_4_method_9_code
def yn_X3_writePart : MethodName := ⟨rn_X3, "writePart", "(II)V"⟩
abbrev cn_X3_putAside : ByteArray := prog_4_method_10_code
def yn_X3_putAside : MethodName := ⟨rn_X3, "putAside", "(II)V"⟩
abbrev cn_X3_addItem : ByteArray := prog_4_method_11_code
def yn_X3_addItem : MethodName := ⟨rn_X3, "addItem", "(II)V"⟩
abbrev cn_X4_init : ByteArray := prog_6_method_1_code
def yn_X4_init : MethodName := ⟨rn_X4, "<init>", "()V"⟩
abbrev cn_X4_thrown : ByteArray := prog_6_method_2_code
def yn_X4_thrown : MethodName := ⟨rn_X4, "thrown", "()I"⟩
abbrev cn_X4_refuses : ByteArray := prog_6_method_3_code
def yn_X4_refuses : MethodName := ⟨rn_X4, "refuses", "(ZZZ)Z"⟩
abbrev cn_X4_isBar : ByteArray := prog_6_method_4_code
def yn_X4_isBar : MethodName := ⟨rn_X4, "isBar", "(I)Z"⟩
abbrev cn_X4_bar : ByteArray := prog_6_method_5_code
def yn_X4_bar : MethodName := ⟨rn_X4, "bar", "(I)I"⟩
abbrev cn_X4_isApart : ByteArray := prog_6_method_6_code
def yn_X4_isApart : MethodName := ⟨rn_X4, "isApart", "(IIII)Z"⟩
abbrev cn_X4_isWithin : ByteArray := prog_6_method_7_code
def yn_X4_isWithin : MethodName := ⟨rn_X4, "isWithin", "(IIII)Z"⟩
abbrev cn_X4_liesWell : ByteArray := prog_6_method_8_code
def yn_X4_liesWell : MethodName := ⟨rn_X4, "liesWell", "(IIII)Z"⟩
abbrev cn_X4_isAround : ByteArray := prog_6_method_9_code
def yn_X4_isAround : MethodName := ⟨rn_X4, "isAround", "(II)Z"⟩
abbrev cn_X4_mayRepeat : ByteArray := prog_6_method_10_code
def yn_X4_mayRepeat : MethodName := ⟨rn_X4, "mayRepeat", "(II)Z"⟩
abbrev cn_X4_repeat : ByteArray := prog_6_method_11_code
def yn_X4_repeat : MethodName := ⟨rn_X4, "repeat", "(III)I"⟩
abbrev cn_X4_mayEnd : ByteArray := prog_6_method_12_code
def yn_X4_mayEnd : MethodName := ⟨rn_X4, "mayEnd", "(III)Z"⟩
abbrev cn_X4_ending : ByteArray := prog_6_method_13_code
def yn_X4_ending : MethodName := ⟨rn_X4, "ending", "(IIII)I"⟩
abbrev cn_X4_sign : ByteArray := prog_6_method_14_code
def yn_X4_sign : MethodName := ⟨rn_X4, "sign", "(II)I"⟩
abbrev cn_X4_jump : ByteArray := prog_6_method_15_code
def yn_X4_jump : MethodName := ⟨rn_X4, "jump", "(IIIZ)V"⟩
abbrev cn_X4_plain : ByteArray := prog_6_method_16_code
def yn_X4_plain : MethodName := ⟨rn_X4, "plain", "(I)V"⟩
abbrev cn_X4_missing : ByteArray := prog_6_method_17_code
def yn_X4_missing : MethodName := ⟨rn_X4, "missing", "(I)I"⟩
abbrev cn_X4_forget : ByteArray := prog_6_method_18_code
def yn_X4_forget : MethodName := ⟨rn_X4, "forget", "()V"⟩
abbrev cn_X4_leaveAll : ByteArray := prog_6_method_19_code
def yn_X4_leaveAll : MethodName := ⟨rn_X4, "leaveAll", "()V"⟩
abbrev cn_X4_unfold : ByteArray := prog_6_method_20_code
def yn_X4_unfold : MethodName := ⟨rn_X4, "unfold", "()I"⟩
abbrev cn_X4_comeTo : ByteArray := prog_6_method_21_code
def yn_X4_comeTo : MethodName := ⟨rn_X4, "comeTo", "(I)V"⟩
abbrev cn_X4_leaveWithin : ByteArray := prog_6_method_22_code
def yn_X4_leaveWithin : MethodName := ⟨rn_X4, "leaveWithin", "(III)V"⟩
abbrev cn_X4_aroundIt : ByteArray := prog_6_method_23_code
def yn_X4_aroundIt : MethodName := ⟨rn_X4, "aroundIt", "(IZ)I"⟩
abbrev cn_X4_play : ByteArray := prog_6_method_24_code
def yn_X4_play : MethodName := ⟨rn_X4, "play", "(I)V"⟩
abbrev cn_X4_theEnd : ByteArray := prog_6_method_25_code
def yn_X4_theEnd : MethodName := ⟨rn_X4, "theEnd", "(I)V"⟩
abbrev cn_X4_fault : ByteArray := prog_6_method_26_code
def yn_X4_fault : MethodName := ⟨rn_X4, "fault", "()I"⟩
abbrev cn_X4_played : ByteArray := prog_6_method_27_code
def yn_X4_played : MethodName := ⟨rn_X4, "played", "(II)I"⟩
abbrev cn_X4_times : ByteArray := prog_6_method_28_code
def yn_X4_times : MethodName := ⟨rn_X4, "times", "(I)I"⟩
abbrev cn_X4_comes : ByteArray := prog_6_method_29_code
def yn_X4_comes : MethodName := ⟨rn_X4, "comes", "(I)I"⟩
abbrev cn_X4_fold : ByteArray := prog_6_method_30_code
def yn_X4_fold : MethodName := ⟨rn_X4, "fold", "(II)I"⟩
abbrev cn_X4_isAgain : ByteArray := prog_6_method_31_code
def yn_X4_isAgain : MethodName := ⟨rn_X4, "isAgain", "(III)Z"⟩
abbrev cn_X4_findWay : ByteArray := prog_6_method_32_code
def yn_X4_findWay : MethodName := ⟨rn_X4, "findWay", "(II)V"⟩
abbrev cn_X4_item : ByteArray := prog_6_method_33_code
def yn_X4_item : MethodName := ⟨rn_X4, "item", "(II)V"⟩
abbrev cn_X4_write : ByteArray := prog_6_method_34_code
def yn_X4_write : MethodName := ⟨rn_X4, "write", "(I)V"⟩
abbrev cn_X4_folded : ByteArray := prog_6_method_35_code
def yn_X4_folded : MethodName := ⟨rn_X4, "folded", "(II)I"⟩
abbrev cn_X4_told : ByteArray := prog_6_method_36_code
def yn_X4_told : MethodName := ⟨rn_X4, "told", "(I)I"⟩
abbrev cn_XA_fill : ByteArray := prog_14_method_103_code
def yn_XA_fill : MethodName := ⟨"java/util/Arrays", "fill", "([II)V"⟩
abbrev cn_XL_bar : ByteArray := method_3_code
def yn_XL_bar : MethodName := ⟨rn_XL, "bar", "(LRepeatWays;I[J)I"⟩
abbrev cn_XL_repeat : ByteArray := method_4_code
def yn_XL_repeat : MethodName := ⟨rn_XL, "repeat", "(LRepeatWays;III[J)I"⟩
abbrev cn_XL_ending : ByteArray := method_5_code
def yn_XL_ending : MethodName := ⟨rn_XL, "ending", "(LRepeatWays;IIII[J)I"⟩
abbrev cn_XL_sign : ByteArray := method_6_code
def yn_XL_sign : MethodName := ⟨rn_XL, "sign", "(LRepeatWays;II[J)I"⟩
abbrev cn_XL_jump : ByteArray := method_7_code
def yn_XL_jump : MethodName := ⟨rn_XL, "jump", "(LRepeatWays;IIIZ)I"⟩
abbrev cn_XL_plain : ByteArray := method_8_code
def yn_XL_plain : MethodName := ⟨rn_XL, "plain", "(LRepeatWays;I)I"⟩
abbrev cn_XL_played : ByteArray := method_9_code
def yn_XL_played : MethodName := ⟨rn_XL, "played", "(LRepeatWays;II[J)I"⟩
abbrev cn_XL_times : ByteArray := method_10_code
def yn_XL_times : MethodName := ⟨rn_XL, "times", "(LRepeatWays;I[J)I"⟩
abbrev cn_XL_comes : ByteArray := method_11_code
def yn_XL_comes : MethodName := ⟨rn_XL, "comes", "(LRepeatWays;I[J)I"⟩
abbrev cn_XL_fold : ByteArray := method_12_code
def yn_XL_fold : MethodName := ⟨rn_XL, "fold", "(LRepeatWays;II[J)I"⟩
abbrev cn_XL_folded : ByteArray := method_13_code
def yn_XL_folded : MethodName := ⟨rn_XL, "folded", "(LRepeatWays;II[J)I"⟩
abbrev cn_XL_told : ByteArray := method_14_code
def yn_XL_told : MethodName := ⟨rn_XL, "told", "(LRepeatWays;I[J)I"⟩
end
section
/-! ===== own base: the state of a side, in pure words ===== -/
abbrev gs_T : Type := (Nat → Int32) × (Nat → Nat → Int32)
def gs_sv (G : gs_T) (k : Nat) (x : Int32) : gs_T := (va_up G.1 k x, G.2)
def gs_a (G : gs_T) (k : Nat) (i : Int32) : Int32 := G.2 k i.toNatClampNeg
def gs_sa (G : gs_T) (k : Nat) (i x : Int32) : gs_T := (G.1, va_up G.2 k (upd (G.2 k) i.toNatClampNeg x))
def gs_sf (G : gs_T) (k : Nat) (x : Int32) : gs_T := (G.1, va_up G.2 k (fun _ => x))
def gs_ck {α : Type} (i : Int32) (n : Nat) (t : Option α) : Option α := if i < 0 ∨ n ≤ i.toNatClampNeg then none else t
def gs_nz {α : Type} (d : Int32) (t : Option α) : Option α := if d = 0 then none else t
def gs_bz {α : Type} (x : Int32) (t : Option α) : Option α := if x = 0 ∨ x = 1 then t else none
theorem gs_ck_some {α : Type} {i : Int32} {n : Nat} {t : Option α} {r : α} (h : gs_ck i n t = some r) : vp_in i n ∧ t = some r := by
  unfold gs_ck at h
  by_cases hc : i < 0 ∨ n ≤ i.toNatClampNeg
  · rw [if_pos hc] at h; cases h
  · rw [if_neg hc] at h; exact ⟨hc, h⟩
theorem gs_nz_some {α : Type} {d : Int32} {t : Option α} {r : α} (h : gs_nz d t = some r) : ¬ d = 0 ∧ t = some r := by
  unfold gs_nz at h
  by_cases hc : d = 0
  · rw [if_pos hc] at h; cases h
  · rw [if_neg hc] at h; exact ⟨hc, h⟩
theorem gs_bz_some {α : Type} {x : Int32} {t : Option α} {r : α} (h : gs_bz x t = some r) : (x = 0 ∨ x = 1) ∧ t = some r := by
  unfold gs_bz at h
  by_cases hc : x = 0 ∨ x = 1
  · rw [if_pos hc] at h; exact ⟨hc, h⟩
  · rw [if_neg hc] at h; cases h
theorem gs_if {α : Type} {c : Prop} {dc : Decidable c} {a b : Option α} {r : α} {P : Prop} (h : @ite _ c dc a b = some r) (ha : c → a = some r → P) (hb : ¬ c → b = some r → P) : P := by
  by_cases hc : c
  · rw [if_pos hc] at h; exact ha hc h
  · rw [if_neg hc] at h; exact hb hc h
theorem gs_bind {α β : Type} {o : Option α} {f : α → Option β} {r : β} {P : Prop} (h : o.bind f = some r) (k : ∀ q, o = some q → f q = some r → P) : P := by
  cases o with
  | none => cases h
  | some q => exact k q rfl h
theorem gs_narz {x : Int32} (h : x = 0 ∨ x = 1) : narrow .boolean (.int x) = .int x := by
  rcases h with rfl | rfl <;> rfl
/-! ===== locals, by place ===== -/
def lz_c1 : Option Value → Bool
  | some v => v.category == 1
  | none => true
def lz_has (ls : Array Slot) (nL : Nat) (L : List (Option Value)) : Prop := ls.size = nL ∧ lv_wf ls ∧ ∀ (i : Nat) (v : Value), L[i]? = some (some v) → ls[i]? = some (.val v)
def lz_l (L : List (Option Value)) : List (Nat × Value) := (List.range L.length).filterMap (fun i => (L[i]?).bind (fun o => o.map (fun v => (i, v))))
theorem lz_mem {L : List (Option Value)} {q : Nat × Value} : q ∈ lz_l L ↔ L[q.1]? = some (some q.2) := by
  unfold lz_l
  rw [List.mem_filterMap]
  constructor
  · rintro ⟨i, -, hi⟩
    cases hL : L[i]? with
    | none => rw [hL] at hi; cases hi
    | some o =>
      rw [hL] at hi
      cases o with
      | none => cases hi
      | some v => cases hi; exact hL
  · intro h
    refine ⟨q.1, List.mem_range.mpr (List.getElem?_eq_some_iff.mp h).1, ?_⟩
    rw [h]
    rfl
theorem lz_lv {ls : Array Slot} {nL : Nat} {L : List (Option Value)} (h : lz_has ls nL L) : lv_has ls nL (lz_l L) := ⟨h.1, h.2.1, fun q hq => h.2.2 q.1 q.2 (lz_mem.mp hq)⟩
theorem lz_back {ls : Array Slot} {nL : Nat} {L : List (Option Value)} {i : Nat} {v : Value} (h : lv_has ls nL ((i, v) :: (lz_l L).filter (fun q => !(q.1 == i) && !(q.1 + 1 == i && q.2.category == 2)))) (hL : L.all lz_c1 = true) : lz_has ls nL (L.set i (some v)) := by
  refine ⟨h.1, h.2.1, fun j w hj => ?_⟩
  by_cases hji : j = i
  · subst hji
    by_cases hl : j < L.length
    · rw [List.getElem?_set_self hl] at hj
      cases hj
      exact h.2.2 (j, v) List.mem_cons_self
    · rw [List.getElem?_eq_none (by rw [List.length_set]; omega)] at hj
      cases hj
  · rw [List.getElem?_set_ne (Ne.symm hji)] at hj
    refine h.2.2 (j, w) (List.mem_cons_of_mem _ (List.mem_filter.mpr ⟨lz_mem.mpr hj, ?_⟩))
    have hc : lz_c1 (some w) = true := List.all_eq_true.mp hL _ (List.mem_of_getElem? hj)
    have hc1 : w.category = 1 := by simpa [lz_c1] using hc
    simp [hji, hc1]
theorem lz_drop {ls : Array Slot} {nL : Nat} {L L' : List (Option Value)} (h : lz_has ls nL L) (hd : ∀ (i : Nat) (v : Value), L'[i]? = some (some v) → L[i]? = some (some v)) : lz_has ls nL L' := ⟨h.1, h.2.1, fun i v hi => h.2.2 i v (hd i v hi)⟩
/-- fewer values -/
def lz_le : List (Option Value) → List (Option Value) → Prop
  | [], _ => True
  | none :: a, _ :: b => lz_le a b
  | some v :: a, some w :: b => v = w ∧ lz_le a b
  | none :: a, [] => lz_le a []
  | some _ :: _, none :: _ => False
  | some _ :: _, [] => False
theorem lz_le_at : ∀ {L' L : List (Option Value)}, lz_le L' L → ∀ (i : Nat) (v : Value), L'[i]? = some (some v) → L[i]? = some (some v)
  | [], _, _, i, v, h => by simp at h
  | none :: a, b :: c, hl, i, v, h => by
    cases i with
    | zero => simp at h
    | succ i => exact lz_le_at (L' := a) (L := c) hl i v h
  | none :: a, [], hl, i, v, h => by
    cases i with
    | zero => simp at h
    | succ i => have := lz_le_at (L' := a) (L := []) hl i v h; simp at this
  | some x :: a, some y :: c, hl, i, v, h => by
    cases i with
    | zero => rw [← hl.1]; exact h
    | succ i => exact lz_le_at (L' := a) (L := c) hl.2 i v h
  | some x :: a, none :: c, hl, i, v, h => hl.elim
  | some x :: a, [], hl, i, v, h => hl.elim
end
section
/-! ===== own word rows ===== -/
def zt_ws : List Cond := lw_tbl.filter goodWord
theorem zt_good : zt_ws.all goodWord = true := List.all_eq_true.mpr (fun _ hw => (List.mem_filter.mp hw).2)
theorem zt_m {w : Cond} (i : Nat) (h : tables_1[i]? = some w) (hg : goodWord w = true) : w ∈ zt_ws := List.mem_filter.mpr ⟨List.mem_append_right _ (List.mem_of_getElem? h), hg⟩
theorem zt_sel {y : MethodName} {n : Nat} (i : Nat) (h : lw_privs[i]? = some (y, n)) (hg : goodWord (Cond.selects y.cls y y) = true) : Cond.selects y.cls y y ∈ zt_ws := List.mem_filter.mpr ⟨List.mem_append_left _ (List.mem_map.mpr ⟨(y, n), List.mem_of_getElem? h, rfl⟩), hg⟩
theorem zt_all {ws : List Cond} (is : List Nat) (h : is.map (fun i => tables_1[i]?) = ws.map some) (hg : ws.all goodWord = true) : ∀ w ∈ ws, w ∈ zt_ws := by
  intro w hw
  have h1 : some w ∈ ws.map some := List.mem_map.mpr ⟨w, hw, rfl⟩
  rw [← h] at h1
  obtain ⟨i, -, hi⟩ := List.mem_map.mp h1
  exact zt_m i hi (List.all_eq_true.mp hg w hw)
def zn_is : Cond → Bool
  | .fieldLinkNest _ _ _ _ _ _ => true
  | .methodLinkNest _ _ _ _ => true
  | _ => false
def zn_ws : List Cond := tables_1.filter zn_is
theorem zn_all : zn_ws.all zn_is = true := List.all_eq_true.mpr (fun _ hw => (List.mem_filter.mp hw).2)
theorem zn_m {w : Cond} (i : Nat) (h : tables_1[i]? = some w) (hg : zn_is w = true) : w ∈ zn_ws := List.mem_filter.mpr ⟨List.mem_of_getElem? h, hg⟩
theorem zi_X0 : ∀ w ∈ u_ws rn_X0 tn_X0 3, w ∈ zt_ws := zt_all [219, 221, 223] (by decide +kernel) (by decide +kernel)
theorem zi_X1 : ∀ w ∈ u_ws rn_X1 tn_X1 19, w ∈ zt_ws := zt_all [74, 76, 78, 80, 82, 84, 86, 88, 90, 92, 94, 96, 98, 100, 102, 104, 106, 108, 110] (by decide +kernel) (by decide +kernel)
theorem zi_X2 : ∀ w ∈ u_ws rn_X2 tn_X2 15, w ∈ zt_ws := zt_all [140, 142, 144, 146, 148, 150, 152, 154, 156, 158, 160, 162, 164, 166, 168] (by decide +kernel) (by decide +kernel)
theorem zi_X3 : ∀ w ∈ u_ws rn_X3 tn_X3 11, w ∈ zt_ws := zt_all [193, 195, 197, 199, 201, 203, 205, 207, 209, 211, 213] (by decide +kernel) (by decide +kernel)
theorem zi_X4 : ∀ w ∈ u_ws rn_X4 tn_X4 41, w ∈ zt_ws := zt_all [687, 689, 691, 693, 695, 697, 699, 701, 703, 705, 707, 709, 711, 713, 715, 717, 719, 721, 723, 725, 727, 729, 731, 733, 735, 737, 739, 741, 743, 745, 747, 749, 751, 753, 755, 757, 759, 761, 763, 765, 767] (by decide +kernel) (by decide +kernel)
theorem zk_XL_8 : Cond.classLink rn_XL 8 "RepeatWays" ∈ zt_ws := zt_m 13 (by decide +kernel) (by decide +kernel)
theorem zk_XL_57 : Cond.methodLink rn_XL 57 yn_X0_init ∈ zt_ws := zt_m 15 (by decide +kernel) (by decide +kernel)
theorem zk_X0_1 : Cond.methodLink rn_X0 1 ⟨"java/lang/Object", "<init>", "()V"⟩ ∈ zt_ws := zt_m 18 (by decide +kernel) (by decide +kernel)
theorem zk_X0_7 : Cond.classLink rn_X0 7 "RepeatWays$Way" ∈ zt_ws := zt_m 21 (by decide +kernel) (by decide +kernel)
theorem zk_X0_9 : Cond.methodLinkNest rn_X0 9 yn_X2_init "RepeatWays" ∈ zn_ws := zn_m 23 (by decide +kernel) (by decide +kernel)
theorem zk_X2_3 : Cond.methodLink rn_X2 3 ⟨"java/lang/Object", "<init>", "()V"⟩ ∈ zt_ws := zt_m 26 (by decide +kernel) (by decide +kernel)
theorem zk_X2_9 : Cond.classLink rn_X2 9 "RepeatWays$Score" ∈ zt_ws := zt_m 27 (by decide +kernel) (by decide +kernel)
theorem zk_X2_11 : Cond.methodLinkNest rn_X2 11 yn_X1_init "RepeatWays" ∈ zn_ws := zn_m 29 (by decide +kernel) (by decide +kernel)
theorem zk_X1_3 : Cond.methodLink rn_X1 3 ⟨"java/lang/Object", "<init>", "()V"⟩ ∈ zt_ws := zt_m 32 (by decide +kernel) (by decide +kernel)
theorem zk_X1_58 : Cond.methodLink rn_X1 58 yn_XA_fill ∈ zt_ws := zt_m 33 (by decide +kernel) (by decide +kernel)
theorem zk_X1_9 : Cond.fieldLink rn_X1 9 "RepeatWays$Score" "contents" "[I" ∈ zt_ws := zt_m 36 (by decide +kernel) (by decide +kernel)
theorem zk_X0_126 : Cond.fieldLinkNest rn_X0 126 "RepeatWays$Score" "contents" "[I" "RepeatWays" ∈ zn_ws := zn_m 37 (by decide +kernel) (by decide +kernel)
theorem zk_X1_15 : Cond.fieldLink rn_X1 15 "RepeatWays$Score" "repeatFrom" "[I" ∈ zt_ws := zt_m 38 (by decide +kernel) (by decide +kernel)
theorem zk_X2_173 : Cond.fieldLinkNest rn_X2 173 "RepeatWays$Score" "repeatFrom" "[I" "RepeatWays" ∈ zn_ws := zn_m 39 (by decide +kernel) (by decide +kernel)
theorem zk_X1_18 : Cond.fieldLink rn_X1 18 "RepeatWays$Score" "repeatTo" "[I" ∈ zt_ws := zt_m 40 (by decide +kernel) (by decide +kernel)
theorem zk_X2_170 : Cond.fieldLinkNest rn_X2 170 "RepeatWays$Score" "repeatTo" "[I" "RepeatWays" ∈ zn_ws := zn_m 41 (by decide +kernel) (by decide +kernel)
theorem zk_X1_21 : Cond.fieldLink rn_X1 21 "RepeatWays$Score" "repeatTimes" "[I" ∈ zt_ws := zt_m 42 (by decide +kernel) (by decide +kernel)
theorem zk_X2_136 : Cond.fieldLinkNest rn_X2 136 "RepeatWays$Score" "repeatTimes" "[I" "RepeatWays" ∈ zn_ws := zn_m 43 (by decide +kernel) (by decide +kernel)
theorem zk_X1_24 : Cond.fieldLink rn_X1 24 "RepeatWays$Score" "endingRepeat" "[I" ∈ zt_ws := zt_m 44 (by decide +kernel) (by decide +kernel)
theorem zk_X2_139 : Cond.fieldLinkNest rn_X2 139 "RepeatWays$Score" "endingRepeat" "[I" "RepeatWays" ∈ zn_ws := zn_m 45 (by decide +kernel) (by decide +kernel)
theorem zk_X1_27 : Cond.fieldLink rn_X1 27 "RepeatWays$Score" "endingFrom" "[I" ∈ zt_ws := zt_m 46 (by decide +kernel) (by decide +kernel)
theorem zk_X1_30 : Cond.fieldLink rn_X1 30 "RepeatWays$Score" "endingTo" "[I" ∈ zt_ws := zt_m 47 (by decide +kernel) (by decide +kernel)
theorem zk_X2_114 : Cond.fieldLinkNest rn_X2 114 "RepeatWays$Score" "endingTo" "[I" "RepeatWays" ∈ zn_ws := zn_m 48 (by decide +kernel) (by decide +kernel)
theorem zk_X1_33 : Cond.fieldLink rn_X1 33 "RepeatWays$Score" "endingPasses" "[I" ∈ zt_ws := zt_m 49 (by decide +kernel) (by decide +kernel)
theorem zk_X2_142 : Cond.fieldLinkNest rn_X2 142 "RepeatWays$Score" "endingPasses" "[I" "RepeatWays" ∈ zn_ws := zn_m 50 (by decide +kernel) (by decide +kernel)
theorem zk_X1_36 : Cond.fieldLink rn_X1 36 "RepeatWays$Score" "signBar" "[I" ∈ zt_ws := zt_m 51 (by decide +kernel) (by decide +kernel)
theorem zk_X2_155 : Cond.fieldLinkNest rn_X2 155 "RepeatWays$Score" "signBar" "[I" "RepeatWays" ∈ zn_ws := zn_m 52 (by decide +kernel) (by decide +kernel)
theorem zk_X1_39 : Cond.fieldLink rn_X1 39 "RepeatWays$Score" "jumpTo" "[I" ∈ zt_ws := zt_m 53 (by decide +kernel) (by decide +kernel)
theorem zk_X2_167 : Cond.fieldLinkNest rn_X2 167 "RepeatWays$Score" "jumpTo" "[I" "RepeatWays" ∈ zn_ws := zn_m 54 (by decide +kernel) (by decide +kernel)
theorem zk_X1_42 : Cond.fieldLink rn_X1 42 "RepeatWays$Score" "jumpTill" "[I" ∈ zt_ws := zt_m 55 (by decide +kernel) (by decide +kernel)
theorem zk_X2_164 : Cond.fieldLinkNest rn_X2 164 "RepeatWays$Score" "jumpTill" "[I" "RepeatWays" ∈ zn_ws := zn_m 56 (by decide +kernel) (by decide +kernel)
theorem zk_X1_45 : Cond.fieldLink rn_X1 45 "RepeatWays$Score" "jumpRepeats" "[Z" ∈ zt_ws := zt_m 57 (by decide +kernel) (by decide +kernel)
theorem zk_X2_126 : Cond.fieldLinkNest rn_X2 126 "RepeatWays$Score" "jumpRepeats" "[Z" "RepeatWays" ∈ zn_ws := zn_m 58 (by decide +kernel) (by decide +kernel)
theorem zk_X1_49 : Cond.fieldLink rn_X1 49 "RepeatWays$Score" "around" "[I" ∈ zt_ws := zt_m 59 (by decide +kernel) (by decide +kernel)
theorem zk_X1_52 : Cond.fieldLink rn_X1 52 "RepeatWays$Score" "depth" "[I" ∈ zt_ws := zt_m 60 (by decide +kernel) (by decide +kernel)
theorem zk_X2_129 : Cond.fieldLinkNest rn_X2 129 "RepeatWays$Score" "depth" "[I" "RepeatWays" ∈ zn_ws := zn_m 61 (by decide +kernel) (by decide +kernel)
theorem zk_X1_55 : Cond.fieldLink rn_X1 55 "RepeatWays$Score" "endingAt" "[I" ∈ zt_ws := zt_m 62 (by decide +kernel) (by decide +kernel)
theorem zk_X2_105 : Cond.fieldLinkNest rn_X2 105 "RepeatWays$Score" "endingAt" "[I" "RepeatWays" ∈ zn_ws := zn_m 63 (by decide +kernel) (by decide +kernel)
theorem zk_X0_28 : Cond.fieldLinkNest rn_X0 28 "RepeatWays$Score" "bars" "I" "RepeatWays" ∈ zn_ws := zn_m 64 (by decide +kernel) (by decide +kernel)
theorem zk_X1_64 : Cond.fieldLink rn_X1 64 "RepeatWays$Score" "bars" "I" ∈ zt_ws := zt_m 65 (by decide +kernel) (by decide +kernel)
theorem zk_X2_86 : Cond.fieldLinkNest rn_X2 86 "RepeatWays$Score" "bars" "I" "RepeatWays" ∈ zn_ws := zn_m 66 (by decide +kernel) (by decide +kernel)
theorem zk_X1_68 : Cond.fieldLink rn_X1 68 "RepeatWays$Score" "repeats" "I" ∈ zt_ws := zt_m 67 (by decide +kernel) (by decide +kernel)
theorem zk_X2_145 : Cond.fieldLinkNest rn_X2 145 "RepeatWays$Score" "repeats" "I" "RepeatWays" ∈ zn_ws := zn_m 68 (by decide +kernel) (by decide +kernel)
theorem zk_X0_169 : Cond.fieldLinkNest rn_X0 169 "RepeatWays$Score" "repeats" "I" "RepeatWays" ∈ zn_ws := zn_m 69 (by decide +kernel) (by decide +kernel)
theorem zk_X1_88 : Cond.fieldLink rn_X1 88 "RepeatWays$Score" "endings" "I" ∈ zt_ws := zt_m 70 (by decide +kernel) (by decide +kernel)
theorem zk_X0_172 : Cond.fieldLinkNest rn_X0 172 "RepeatWays$Score" "endings" "I" "RepeatWays" ∈ zn_ws := zn_m 71 (by decide +kernel) (by decide +kernel)
theorem zk_X0_175 : Cond.fieldLinkNest rn_X0 175 "RepeatWays$Score" "jumps" "I" "RepeatWays" ∈ zn_ws := zn_m 72 (by decide +kernel) (by decide +kernel)
theorem zk_X1_108 : Cond.fieldLink rn_X1 108 "RepeatWays$Score" "jumps" "I" ∈ zt_ws := zt_m 73 (by decide +kernel) (by decide +kernel)
theorem zk_X2_12 : Cond.fieldLink rn_X2 12 "RepeatWays$Way" "score" "LRepeatWays$Score;" ∈ zt_ws := zt_m 115 (by decide +kernel) (by decide +kernel)
theorem zk_X0_16 : Cond.fieldLinkNest rn_X0 16 "RepeatWays$Way" "score" "LRepeatWays$Score;" "RepeatWays" ∈ zn_ws := zn_m 116 (by decide +kernel) (by decide +kernel)
theorem zk_X2_18 : Cond.fieldLink rn_X2 18 "RepeatWays$Way" "barAt" "[I" ∈ zt_ws := zt_m 117 (by decide +kernel) (by decide +kernel)
theorem zk_X0_122 : Cond.fieldLinkNest rn_X0 122 "RepeatWays$Way" "barAt" "[I" "RepeatWays" ∈ zn_ws := zn_m 118 (by decide +kernel) (by decide +kernel)
theorem zk_X2_22 : Cond.fieldLink rn_X2 22 "RepeatWays$Way" "jumpsBefore" "[I" ∈ zt_ws := zt_m 119 (by decide +kernel) (by decide +kernel)
theorem zk_X0_129 : Cond.fieldLinkNest rn_X0 129 "RepeatWays$Way" "jumpsBefore" "[I" "RepeatWays" ∈ zn_ws := zn_m 120 (by decide +kernel) (by decide +kernel)
theorem zk_X2_25 : Cond.fieldLink rn_X2 25 "RepeatWays$Way" "innerPass" "[I" ∈ zt_ws := zt_m 121 (by decide +kernel) (by decide +kernel)
theorem zk_X0_132 : Cond.fieldLinkNest rn_X0 132 "RepeatWays$Way" "innerPass" "[I" "RepeatWays" ∈ zn_ws := zn_m 122 (by decide +kernel) (by decide +kernel)
theorem zk_X2_28 : Cond.fieldLink rn_X2 28 "RepeatWays$Way" "outerPass" "[I" ∈ zt_ws := zt_m 123 (by decide +kernel) (by decide +kernel)
theorem zk_X0_135 : Cond.fieldLinkNest rn_X0 135 "RepeatWays$Way" "outerPass" "[I" "RepeatWays" ∈ zn_ws := zn_m 124 (by decide +kernel) (by decide +kernel)
theorem zk_X2_31 : Cond.fieldLink rn_X2 31 "RepeatWays$Way" "playedOf" "[I" ∈ zt_ws := zt_m 125 (by decide +kernel) (by decide +kernel)
theorem zk_X0_140 : Cond.fieldLinkNest rn_X0 140 "RepeatWays$Way" "playedOf" "[I" "RepeatWays" ∈ zn_ws := zn_m 126 (by decide +kernel) (by decide +kernel)
theorem zk_X2_34 : Cond.fieldLink rn_X2 34 "RepeatWays$Way" "comeToOf" "[I" ∈ zt_ws := zt_m 127 (by decide +kernel) (by decide +kernel)
theorem zk_X0_143 : Cond.fieldLinkNest rn_X0 143 "RepeatWays$Way" "comeToOf" "[I" "RepeatWays" ∈ zn_ws := zn_m 128 (by decide +kernel) (by decide +kernel)
theorem zk_X2_37 : Cond.fieldLink rn_X2 37 "RepeatWays$Way" "pass" "[I" ∈ zt_ws := zt_m 129 (by decide +kernel) (by decide +kernel)
theorem zk_X2_40 : Cond.fieldLink rn_X2 40 "RepeatWays$Way" "acted" "[Z" ∈ zt_ws := zt_m 130 (by decide +kernel) (by decide +kernel)
theorem zk_X2_67 : Cond.fieldLink rn_X2 67 "RepeatWays$Way" "count" "I" ∈ zt_ws := zt_m 131 (by decide +kernel) (by decide +kernel)
theorem zk_X0_117 : Cond.fieldLinkNest rn_X0 117 "RepeatWays$Way" "count" "I" "RepeatWays" ∈ zn_ws := zn_m 132 (by decide +kernel) (by decide +kernel)
theorem zk_X2_70 : Cond.fieldLink rn_X2 70 "RepeatWays$Way" "jumps" "I" ∈ zt_ws := zt_m 133 (by decide +kernel) (by decide +kernel)
theorem zk_X0_178 : Cond.fieldLinkNest rn_X0 178 "RepeatWays$Way" "jumps" "I" "RepeatWays" ∈ zn_ws := zn_m 134 (by decide +kernel) (by decide +kernel)
theorem zk_X2_44 : Cond.fieldLink rn_X2 44 "RepeatWays$Way" "latestJump" "I" ∈ zt_ws := zt_m 135 (by decide +kernel) (by decide +kernel)
theorem zk_X2_73 : Cond.fieldLink rn_X2 73 "RepeatWays$Way" "wasAtCoda" "Z" ∈ zt_ws := zt_m 136 (by decide +kernel) (by decide +kernel)
theorem zk_X2_48 : Cond.fieldLink rn_X2 48 "RepeatWays$Way" "faultKind" "I" ∈ zt_ws := zt_m 137 (by decide +kernel) (by decide +kernel)
theorem zk_X2_51 : Cond.fieldLink rn_X2 51 "RepeatWays$Way" "faultBar" "I" ∈ zt_ws := zt_m 138 (by decide +kernel) (by decide +kernel)
theorem zk_X0_114 : Cond.fieldLinkNest rn_X0 114 "RepeatWays$Way" "faultBar" "I" "RepeatWays" ∈ zn_ws := zn_m 139 (by decide +kernel) (by decide +kernel)
theorem zk_X0_21 : Cond.classLink rn_X0 21 "RepeatWays$Writing" ∈ zt_ws := zt_m 171 (by decide +kernel) (by decide +kernel)
theorem zk_X0_23 : Cond.methodLinkNest rn_X0 23 yn_X3_init "RepeatWays" ∈ zn_ws := zn_m 173 (by decide +kernel) (by decide +kernel)
theorem zk_X3_3 : Cond.methodLink rn_X3 3 ⟨"java/lang/Object", "<init>", "()V"⟩ ∈ zt_ws := zt_m 176 (by decide +kernel) (by decide +kernel)
theorem zk_X3_9 : Cond.fieldLink rn_X3 9 "RepeatWays$Writing" "row" "[I" ∈ zt_ws := zt_m 177 (by decide +kernel) (by decide +kernel)
theorem zk_X0_150 : Cond.fieldLinkNest rn_X0 150 "RepeatWays$Writing" "row" "[I" "RepeatWays" ∈ zn_ws := zn_m 178 (by decide +kernel) (by decide +kernel)
theorem zk_X3_15 : Cond.fieldLink rn_X3 15 "RepeatWays$Writing" "alike" "[I" ∈ zt_ws := zt_m 179 (by decide +kernel) (by decide +kernel)
theorem zk_X3_18 : Cond.fieldLink rn_X3 18 "RepeatWays$Writing" "fewest" "[I" ∈ zt_ws := zt_m 180 (by decide +kernel) (by decide +kernel)
theorem zk_X3_21 : Cond.fieldLink rn_X3 21 "RepeatWays$Writing" "chosen" "[I" ∈ zt_ws := zt_m 181 (by decide +kernel) (by decide +kernel)
theorem zk_X3_24 : Cond.fieldLink rn_X3 24 "RepeatWays$Writing" "waitingStart" "[I" ∈ zt_ws := zt_m 182 (by decide +kernel) (by decide +kernel)
theorem zk_X3_27 : Cond.fieldLink rn_X3 27 "RepeatWays$Writing" "waitingLength" "[I" ∈ zt_ws := zt_m 183 (by decide +kernel) (by decide +kernel)
theorem zk_X3_30 : Cond.fieldLink rn_X3 30 "RepeatWays$Writing" "itemKind" "[I" ∈ zt_ws := zt_m 184 (by decide +kernel) (by decide +kernel)
theorem zk_X0_161 : Cond.fieldLinkNest rn_X0 161 "RepeatWays$Writing" "itemKind" "[I" "RepeatWays" ∈ zn_ws := zn_m 185 (by decide +kernel) (by decide +kernel)
theorem zk_X3_33 : Cond.fieldLink rn_X3 33 "RepeatWays$Writing" "itemValue" "[I" ∈ zt_ws := zt_m 186 (by decide +kernel) (by decide +kernel)
theorem zk_X0_164 : Cond.fieldLinkNest rn_X0 164 "RepeatWays$Writing" "itemValue" "[I" "RepeatWays" ∈ zn_ws := zn_m 187 (by decide +kernel) (by decide +kernel)
theorem zk_X3_64 : Cond.fieldLink rn_X3 64 "RepeatWays$Writing" "waiting" "I" ∈ zt_ws := zt_m 188 (by decide +kernel) (by decide +kernel)
theorem zk_X3_61 : Cond.fieldLink rn_X3 61 "RepeatWays$Writing" "items" "I" ∈ zt_ws := zt_m 189 (by decide +kernel) (by decide +kernel)
theorem zk_X0_156 : Cond.fieldLinkNest rn_X0 156 "RepeatWays$Writing" "items" "I" "RepeatWays" ∈ zn_ws := zn_m 190 (by decide +kernel) (by decide +kernel)
theorem zk_X3_47 : Cond.fieldLink rn_X3 47 "RepeatWays$Writing" "bars" "I" ∈ zt_ws := zt_m 191 (by decide +kernel) (by decide +kernel)
theorem zk_X0_179 : Cond.fieldLinkNest rn_X0 179 "RepeatWays$Writing" "bars" "I" "RepeatWays" ∈ zn_ws := zn_m 192 (by decide +kernel) (by decide +kernel)
theorem zk_X0_10 : Cond.fieldLink rn_X0 10 "RepeatWays" "way" "LRepeatWays$Way;" ∈ zt_ws := zt_m 216 (by decide +kernel) (by decide +kernel)
theorem zk_X0_20 : Cond.fieldLink rn_X0 20 "RepeatWays" "score" "LRepeatWays$Score;" ∈ zt_ws := zt_m 217 (by decide +kernel) (by decide +kernel)
theorem zk_X0_24 : Cond.fieldLink rn_X0 24 "RepeatWays" "writing" "LRepeatWays$Writing;" ∈ zt_ws := zt_m 218 (by decide +kernel) (by decide +kernel)
theorem zk_XL_91 : Cond.methodLink rn_XL 91 yn_X0_unfold ∈ zt_ws := zt_m 226 (by decide +kernel) (by decide +kernel)
theorem zk_X0_110 : Cond.methodLinkNest rn_X0 110 yn_X2_go "RepeatWays" ∈ zn_ws := zn_m 230 (by decide +kernel) (by decide +kernel)
theorem zk_X2_54 : Cond.methodLink rn_X2 54 yn_X2_forget ∈ zt_ws := zt_m 234 (by decide +kernel) (by decide +kernel)
theorem zk_X2_77 : Cond.methodLink rn_X2 77 yn_XA_fill ∈ zt_ws := zt_m 238 (by decide +kernel) (by decide +kernel)
theorem zk_X2_83 : Cond.methodLink rn_X2 83 yn_X2_leaveAll ∈ zt_ws := zt_m 239 (by decide +kernel) (by decide +kernel)
theorem zk_X2_57 : Cond.methodLink rn_X2 57 yn_X2_setFault ∈ zt_ws := zt_m 243 (by decide +kernel) (by decide +kernel)
theorem zk_X2_61 : Cond.methodLink rn_X2 61 yn_X2_findFaultOfJumps ∈ zt_ws := zt_m 247 (by decide +kernel) (by decide +kernel)
theorem zk_X2_89 : Cond.methodLinkNest rn_X2 89 yn_X1_hasJump "RepeatWays" ∈ zn_ws := zn_m 251 (by decide +kernel) (by decide +kernel)
theorem zk_X2_93 : Cond.methodLinkNest rn_X2 93 yn_X1_faultOfJump "RepeatWays" ∈ zn_ws := zn_m 255 (by decide +kernel) (by decide +kernel)
theorem zk_X1_111 : Cond.methodLink rn_X1 111 yn_X1_lacksSign ∈ zt_ws := zt_m 259 (by decide +kernel) (by decide +kernel)
theorem zk_X2_64 : Cond.methodLink rn_X2 64 yn_X2_playFromFirstBar ∈ zt_ws := zt_m 263 (by decide +kernel) (by decide +kernel)
theorem zk_X2_97 : Cond.constant rn_X2 97 (1000000 : Int32) ∈ zt_ws := zt_m 267 (by decide +kernel) (by decide +kernel)
theorem zk_X2_98 : Cond.methodLink rn_X2 98 yn_X2_comeTo ∈ zt_ws := zt_m 268 (by decide +kernel) (by decide +kernel)
theorem zk_X2_101 : Cond.methodLink rn_X2 101 yn_X2_openAround ∈ zt_ws := zt_m 272 (by decide +kernel) (by decide +kernel)
theorem zk_X2_132 : Cond.methodLinkNest rn_X2 132 yn_X1_repeatAround "RepeatWays" ∈ zn_ws := zn_m 276 (by decide +kernel) (by decide +kernel)
theorem zk_X2_108 : Cond.methodLink rn_X2 108 yn_X2_isLeftOut ∈ zt_ws := zt_m 280 (by decide +kernel) (by decide +kernel)
theorem zk_X2_111 : Cond.methodLink rn_X2 111 yn_X2_leaveWithin ∈ zt_ws := zt_m 284 (by decide +kernel) (by decide +kernel)
theorem zk_X2_148 : Cond.methodLinkNest rn_X2 148 yn_X1_isRepeatWithinEnding "RepeatWays" ∈ zn_ws := zn_m 288 (by decide +kernel) (by decide +kernel)
theorem zk_X1_71 : Cond.methodLink rn_X1 71 yn_X1_liesWithin ∈ zt_ws := zt_m 292 (by decide +kernel) (by decide +kernel)
theorem zk_X2_117 : Cond.methodLink rn_X2 117 yn_X2_endOf ∈ zt_ws := zt_m 295 (by decide +kernel) (by decide +kernel)
theorem zk_X2_120 : Cond.methodLink rn_X2 120 yn_X2_play ∈ zt_ws := zt_m 299 (by decide +kernel) (by decide +kernel)
theorem zk_X2_123 : Cond.methodLink rn_X2 123 yn_X2_behind ∈ zt_ws := zt_m 303 (by decide +kernel) (by decide +kernel)
theorem zk_X2_152 : Cond.methodLink rn_X2 152 yn_X2_isInLastPasses ∈ zt_ws := zt_m 307 (by decide +kernel) (by decide +kernel)
theorem zk_X2_158 : Cond.methodLink rn_X2 158 yn_X2_isLatestJumpTill ∈ zt_ws := zt_m 311 (by decide +kernel) (by decide +kernel)
theorem zk_X2_161 : Cond.methodLink rn_X2 161 yn_X2_act ∈ zt_ws := zt_m 315 (by decide +kernel) (by decide +kernel)
theorem zk_XL_95 : Cond.methodLink rn_XL 95 yn_X0_fault ∈ zt_ws := zt_m 319 (by decide +kernel) (by decide +kernel)
theorem zk_XL_61 : Cond.methodLink rn_XL 61 yn_XL_bar ∈ zt_ws := zt_m 323 (by decide +kernel) (by decide +kernel)
theorem zk_XL_13 : Cond.classLink rn_XL 13 "java/lang/IllegalStateException" ∈ zt_ws := zt_m 326 (by decide +kernel) (by decide +kernel)
theorem zk_XL_7 : Cond.methodLink rn_XL 7 yn_X0_bar ∈ zt_ws := zt_m 327 (by decide +kernel) (by decide +kernel)
theorem zk_X0_34 : Cond.classLink rn_X0 34 "java/lang/IllegalStateException" ∈ zt_ws := zt_m 331 (by decide +kernel) (by decide +kernel)
theorem zk_X0_38 : Cond.methodLink rn_X0 38 ⟨"java/lang/IllegalStateException", "<init>", "(Ljava/lang/String;)V"⟩ ∈ zt_ws := zt_m 373 (by decide +kernel) (by decide +kernel)
theorem zk_X0_41 : Cond.methodLinkNest rn_X0 41 yn_X1_addBar "RepeatWays" ∈ zn_ws := zn_m 399 (by decide +kernel) (by decide +kernel)
theorem zk_XL_71 : Cond.methodLink rn_XL 71 yn_XL_repeat ∈ zt_ws := zt_m 403 (by decide +kernel) (by decide +kernel)
theorem zk_XL_19 : Cond.classLink rn_XL 19 "java/lang/IndexOutOfBoundsException" ∈ zt_ws := zt_m 406 (by decide +kernel) (by decide +kernel)
theorem zk_XL_21 : Cond.classLink rn_XL 21 "java/lang/IllegalArgumentException" ∈ zt_ws := zt_m 407 (by decide +kernel) (by decide +kernel)
theorem zk_XL_15 : Cond.methodLink rn_XL 15 yn_X0_repeat ∈ zt_ws := zt_m 408 (by decide +kernel) (by decide +kernel)
theorem zk_X0_45 : Cond.methodLinkNest rn_X0 45 yn_X1_hasBar "RepeatWays" ∈ zn_ws := zn_m 412 (by decide +kernel) (by decide +kernel)
theorem zk_X0_49 : Cond.classLink rn_X0 49 "java/lang/IndexOutOfBoundsException" ∈ zt_ws := zt_m 416 (by decide +kernel) (by decide +kernel)
theorem zk_X0_53 : Cond.methodLink rn_X0 53 ⟨"java/lang/IndexOutOfBoundsException", "<init>", "(Ljava/lang/String;)V"⟩ ∈ zt_ws := zt_m 426 (by decide +kernel) (by decide +kernel)
theorem zk_X0_54 : Cond.classLink rn_X0 54 "java/lang/IllegalArgumentException" ∈ zt_ws := zt_m 432 (by decide +kernel) (by decide +kernel)
theorem zk_X0_58 : Cond.methodLink rn_X0 58 ⟨"java/lang/IllegalArgumentException", "<init>", "(Ljava/lang/String;)V"⟩ ∈ zt_ws := zt_m 442 (by decide +kernel) (by decide +kernel)
theorem zk_X0_59 : Cond.methodLinkNest rn_X0 59 yn_X1_takesRepeat "RepeatWays" ∈ zn_ws := zn_m 448 (by decide +kernel) (by decide +kernel)
theorem zk_X1_75 : Cond.methodLink rn_X1 75 yn_X1_liesWellByRepeats ∈ zt_ws := zt_m 452 (by decide +kernel) (by decide +kernel)
theorem zk_X1_94 : Cond.methodLink rn_X1 94 yn_X1_liesWell ∈ zt_ws := zt_m 456 (by decide +kernel) (by decide +kernel)
theorem zk_X1_79 : Cond.methodLink rn_X1 79 yn_X1_hasSameRepeat ∈ zt_ws := zt_m 459 (by decide +kernel) (by decide +kernel)
theorem zk_X1_82 : Cond.methodLink rn_X1 82 yn_X1_liesWellByEndings ∈ zt_ws := zt_m 463 (by decide +kernel) (by decide +kernel)
theorem zk_X1_85 : Cond.methodLink rn_X1 85 yn_X1_isDepthLeft ∈ zt_ws := zt_m 467 (by decide +kernel) (by decide +kernel)
theorem zk_X0_65 : Cond.methodLinkNest rn_X0 65 yn_X1_addRepeat "RepeatWays" ∈ zn_ws := zn_m 472 (by decide +kernel) (by decide +kernel)
theorem zk_X1_97 : Cond.methodLink rn_X1 97 yn_X1_putAround ∈ zt_ws := zt_m 476 (by decide +kernel) (by decide +kernel)
theorem zk_X1_101 : Cond.methodLink rn_X1 101 yn_X1_isRepeatWithin ∈ zt_ws := zt_m 480 (by decide +kernel) (by decide +kernel)
theorem zk_XL_75 : Cond.methodLink rn_XL 75 yn_XL_ending ∈ zt_ws := zt_m 484 (by decide +kernel) (by decide +kernel)
theorem zk_XL_23 : Cond.methodLink rn_XL 23 yn_X0_ending ∈ zt_ws := zt_m 487 (by decide +kernel) (by decide +kernel)
theorem zk_X0_69 : Cond.methodLinkNest rn_X0 69 yn_X1_hasRepeat "RepeatWays" ∈ zn_ws := zn_m 491 (by decide +kernel) (by decide +kernel)
theorem zk_X0_74 : Cond.methodLinkNest rn_X0 74 yn_X1_hasPasses "RepeatWays" ∈ zn_ws := zn_m 496 (by decide +kernel) (by decide +kernel)
theorem zk_X0_79 : Cond.methodLinkNest rn_X0 79 yn_X1_takesEnding "RepeatWays" ∈ zn_ws := zn_m 501 (by decide +kernel) (by decide +kernel)
theorem zk_X1_91 : Cond.methodLink rn_X1 91 yn_X1_isApartFromEndings ∈ zt_ws := zt_m 505 (by decide +kernel) (by decide +kernel)
theorem zk_X0_85 : Cond.methodLinkNest rn_X0 85 yn_X1_addEnding "RepeatWays" ∈ zn_ws := zn_m 510 (by decide +kernel) (by decide +kernel)
theorem zk_XL_79 : Cond.methodLink rn_XL 79 yn_XL_sign ∈ zt_ws := zt_m 514 (by decide +kernel) (by decide +kernel)
theorem zk_XL_27 : Cond.methodLink rn_XL 27 yn_X0_sign ∈ zt_ws := zt_m 517 (by decide +kernel) (by decide +kernel)
theorem zk_X0_91 : Cond.methodLinkNest rn_X0 91 yn_X1_moveSign "RepeatWays" ∈ zn_ws := zn_m 522 (by decide +kernel) (by decide +kernel)
theorem zk_XL_83 : Cond.methodLink rn_XL 83 yn_XL_jump ∈ zt_ws := zt_m 526 (by decide +kernel) (by decide +kernel)
theorem zk_XL_31 : Cond.methodLink rn_XL 31 yn_X0_jump ∈ zt_ws := zt_m 529 (by decide +kernel) (by decide +kernel)
theorem zk_X0_97 : Cond.methodLinkNest rn_X0 97 yn_X1_putJump "RepeatWays" ∈ zn_ws := zn_m 534 (by decide +kernel) (by decide +kernel)
theorem zk_X1_104 : Cond.methodLink rn_X1 104 yn_X1_hasJump ∈ zt_ws := zt_m 538 (by decide +kernel) (by decide +kernel)
theorem zk_XL_87 : Cond.methodLink rn_XL 87 yn_XL_plain ∈ zt_ws := zt_m 539 (by decide +kernel) (by decide +kernel)
theorem zk_XL_35 : Cond.methodLink rn_XL 35 yn_X0_plain ∈ zt_ws := zt_m 542 (by decide +kernel) (by decide +kernel)
theorem zk_X0_101 : Cond.methodLinkNest rn_X0 101 yn_X1_hasJump "RepeatWays" ∈ zn_ws := zn_m 546 (by decide +kernel) (by decide +kernel)
theorem zk_X0_106 : Cond.methodLinkNest rn_X0 106 yn_X1_takeJump "RepeatWays" ∈ zn_ws := zn_m 548 (by decide +kernel) (by decide +kernel)
theorem zk_XL_99 : Cond.methodLink rn_XL 99 yn_XL_played ∈ zt_ws := zt_m 552 (by decide +kernel) (by decide +kernel)
theorem zk_XL_39 : Cond.methodLink rn_XL 39 yn_X0_played ∈ zt_ws := zt_m 555 (by decide +kernel) (by decide +kernel)
theorem zk_XL_102 : Cond.methodLink rn_XL 102 yn_XL_times ∈ zt_ws := zt_m 561 (by decide +kernel) (by decide +kernel)
theorem zk_XL_42 : Cond.methodLink rn_XL 42 yn_X0_times ∈ zt_ws := zt_m 564 (by decide +kernel) (by decide +kernel)
theorem zk_XL_105 : Cond.methodLink rn_XL 105 yn_XL_comes ∈ zt_ws := zt_m 568 (by decide +kernel) (by decide +kernel)
theorem zk_XL_45 : Cond.methodLink rn_XL 45 yn_X0_comes ∈ zt_ws := zt_m 571 (by decide +kernel) (by decide +kernel)
theorem zk_XL_108 : Cond.methodLink rn_XL 108 yn_XL_fold ∈ zt_ws := zt_m 575 (by decide +kernel) (by decide +kernel)
theorem zk_XL_48 : Cond.methodLink rn_XL 48 yn_X0_fold ∈ zt_ws := zt_m 578 (by decide +kernel) (by decide +kernel)
theorem zk_X0_153 : Cond.methodLinkNest rn_X0 153 yn_X3_writeRow "RepeatWays" ∈ zn_ws := zn_m 584 (by decide +kernel) (by decide +kernel)
theorem zk_X3_36 : Cond.methodLink rn_X3 36 yn_X3_compareContents ∈ zt_ws := zt_m 588 (by decide +kernel) (by decide +kernel)
theorem zk_X3_51 : Cond.methodLink rn_X3 51 yn_X3_cell ∈ zt_ws := zt_m 592 (by decide +kernel) (by decide +kernel)
theorem zk_X3_40 : Cond.methodLink rn_X3 40 yn_X3_choose ∈ zt_ws := zt_m 595 (by decide +kernel) (by decide +kernel)
theorem zk_X3_55 : Cond.methodLink rn_X3 55 yn_X3_chooseBlock ∈ zt_ws := zt_m 599 (by decide +kernel) (by decide +kernel)
theorem zk_X3_58 : Cond.methodLink rn_X3 58 yn_X3_chooseParts ∈ zt_ws := zt_m 603 (by decide +kernel) (by decide +kernel)
theorem zk_X3_44 : Cond.methodLink rn_X3 44 yn_X3_writeItems ∈ zt_ws := zt_m 607 (by decide +kernel) (by decide +kernel)
theorem zk_X3_67 : Cond.methodLink rn_X3 67 yn_X3_putAside ∈ zt_ws := zt_m 611 (by decide +kernel) (by decide +kernel)
theorem zk_X3_70 : Cond.methodLink rn_X3 70 yn_X3_writePart ∈ zt_ws := zt_m 615 (by decide +kernel) (by decide +kernel)
theorem zk_X3_73 : Cond.methodLink rn_X3 73 yn_X3_addItem ∈ zt_ws := zt_m 619 (by decide +kernel) (by decide +kernel)
theorem zk_XL_111 : Cond.methodLink rn_XL 111 yn_XL_folded ∈ zt_ws := zt_m 623 (by decide +kernel) (by decide +kernel)
theorem zk_XL_51 : Cond.methodLink rn_XL 51 yn_X0_folded ∈ zt_ws := zt_m 626 (by decide +kernel) (by decide +kernel)
theorem zk_XL_114 : Cond.methodLink rn_XL 114 yn_XL_told ∈ zt_ws := zt_m 632 (by decide +kernel) (by decide +kernel)
theorem zk_XL_54 : Cond.methodLink rn_XL 54 yn_X0_told ∈ zt_ws := zt_m 635 (by decide +kernel) (by decide +kernel)
theorem zk_XL_58 : Cond.classLink rn_XL 58 "RepeatWaysModel" ∈ zt_ws := zt_m 640 (by decide +kernel) (by decide +kernel)
theorem zk_XL_60 : Cond.methodLink rn_XL 60 yn_X4_init ∈ zt_ws := zt_m 642 (by decide +kernel) (by decide +kernel)
theorem zk_X4_1 : Cond.methodLink rn_X4 1 ⟨"java/lang/Object", "<init>", "()V"⟩ ∈ zt_ws := zt_m 645 (by decide +kernel) (by decide +kernel)
theorem zk_X4_99 : Cond.fieldLink rn_X4 99 "RepeatWaysModel" "thrown" "I" ∈ zt_ws := zt_m 646 (by decide +kernel) (by decide +kernel)
theorem zk_X4_102 : Cond.fieldLink rn_X4 102 "RepeatWaysModel" "bars" "I" ∈ zt_ws := zt_m 647 (by decide +kernel) (by decide +kernel)
theorem zk_X4_7 : Cond.fieldLink rn_X4 7 "RepeatWaysModel" "contents" "[I" ∈ zt_ws := zt_m 648 (by decide +kernel) (by decide +kernel)
theorem zk_X4_116 : Cond.fieldLink rn_X4 116 "RepeatWaysModel" "repeats" "I" ∈ zt_ws := zt_m 649 (by decide +kernel) (by decide +kernel)
theorem zk_X4_13 : Cond.fieldLink rn_X4 13 "RepeatWaysModel" "repeatFrom" "[I" ∈ zt_ws := zt_m 650 (by decide +kernel) (by decide +kernel)
theorem zk_X4_16 : Cond.fieldLink rn_X4 16 "RepeatWaysModel" "repeatTo" "[I" ∈ zt_ws := zt_m 651 (by decide +kernel) (by decide +kernel)
theorem zk_X4_19 : Cond.fieldLink rn_X4 19 "RepeatWaysModel" "repeatTimes" "[I" ∈ zt_ws := zt_m 652 (by decide +kernel) (by decide +kernel)
theorem zk_X4_122 : Cond.fieldLink rn_X4 122 "RepeatWaysModel" "endings" "I" ∈ zt_ws := zt_m 653 (by decide +kernel) (by decide +kernel)
theorem zk_X4_22 : Cond.fieldLink rn_X4 22 "RepeatWaysModel" "endingOf" "[I" ∈ zt_ws := zt_m 654 (by decide +kernel) (by decide +kernel)
theorem zk_X4_25 : Cond.fieldLink rn_X4 25 "RepeatWaysModel" "endingFrom" "[I" ∈ zt_ws := zt_m 655 (by decide +kernel) (by decide +kernel)
theorem zk_X4_28 : Cond.fieldLink rn_X4 28 "RepeatWaysModel" "endingTo" "[I" ∈ zt_ws := zt_m 656 (by decide +kernel) (by decide +kernel)
theorem zk_X4_31 : Cond.fieldLink rn_X4 31 "RepeatWaysModel" "endingPasses" "[I" ∈ zt_ws := zt_m 657 (by decide +kernel) (by decide +kernel)
theorem zk_X4_34 : Cond.fieldLink rn_X4 34 "RepeatWaysModel" "signAt" "[I" ∈ zt_ws := zt_m 658 (by decide +kernel) (by decide +kernel)
theorem zk_X4_37 : Cond.fieldLink rn_X4 37 "RepeatWaysModel" "hasJump" "[Z" ∈ zt_ws := zt_m 659 (by decide +kernel) (by decide +kernel)
theorem zk_X4_41 : Cond.fieldLink rn_X4 41 "RepeatWaysModel" "jumpTo" "[I" ∈ zt_ws := zt_m 660 (by decide +kernel) (by decide +kernel)
theorem zk_X4_44 : Cond.fieldLink rn_X4 44 "RepeatWaysModel" "jumpTill" "[I" ∈ zt_ws := zt_m 661 (by decide +kernel) (by decide +kernel)
theorem zk_X4_47 : Cond.fieldLink rn_X4 47 "RepeatWaysModel" "jumpRepeats" "[Z" ∈ zt_ws := zt_m 662 (by decide +kernel) (by decide +kernel)
theorem zk_X4_50 : Cond.fieldLink rn_X4 50 "RepeatWaysModel" "faultBar" "I" ∈ zt_ws := zt_m 663 (by decide +kernel) (by decide +kernel)
theorem zk_X4_140 : Cond.fieldLink rn_X4 140 "RepeatWaysModel" "many" "I" ∈ zt_ws := zt_m 664 (by decide +kernel) (by decide +kernel)
theorem zk_X4_54 : Cond.fieldLink rn_X4 54 "RepeatWaysModel" "playedBar" "[I" ∈ zt_ws := zt_m 665 (by decide +kernel) (by decide +kernel)
theorem zk_X4_57 : Cond.fieldLink rn_X4 57 "RepeatWaysModel" "playedJumps" "[I" ∈ zt_ws := zt_m 666 (by decide +kernel) (by decide +kernel)
theorem zk_X4_60 : Cond.fieldLink rn_X4 60 "RepeatWaysModel" "playedInner" "[I" ∈ zt_ws := zt_m 667 (by decide +kernel) (by decide +kernel)
theorem zk_X4_63 : Cond.fieldLink rn_X4 63 "RepeatWaysModel" "playedOuter" "[I" ∈ zt_ws := zt_m 668 (by decide +kernel) (by decide +kernel)
theorem zk_X4_66 : Cond.fieldLink rn_X4 66 "RepeatWaysModel" "cameTo" "[I" ∈ zt_ws := zt_m 669 (by decide +kernel) (by decide +kernel)
theorem zk_X4_143 : Cond.fieldLink rn_X4 143 "RepeatWaysModel" "acted" "I" ∈ zt_ws := zt_m 670 (by decide +kernel) (by decide +kernel)
theorem zk_X4_69 : Cond.fieldLink rn_X4 69 "RepeatWaysModel" "pass" "[I" ∈ zt_ws := zt_m 671 (by decide +kernel) (by decide +kernel)
theorem zk_X4_72 : Cond.fieldLink rn_X4 72 "RepeatWaysModel" "hasActed" "[Z" ∈ zt_ws := zt_m 672 (by decide +kernel) (by decide +kernel)
theorem zk_X4_146 : Cond.fieldLink rn_X4 146 "RepeatWaysModel" "latest" "I" ∈ zt_ws := zt_m 673 (by decide +kernel) (by decide +kernel)
theorem zk_X4_149 : Cond.fieldLink rn_X4 149 "RepeatWaysModel" "wasAtCoda" "Z" ∈ zt_ws := zt_m 674 (by decide +kernel) (by decide +kernel)
theorem zk_X4_166 : Cond.fieldLink rn_X4 166 "RepeatWaysModel" "comes" "I" ∈ zt_ws := zt_m 675 (by decide +kernel) (by decide +kernel)
theorem zk_X4_153 : Cond.fieldLink rn_X4 153 "RepeatWaysModel" "isTooLong" "Z" ∈ zt_ws := zt_m 676 (by decide +kernel) (by decide +kernel)
theorem zk_X4_75 : Cond.fieldLink rn_X4 75 "RepeatWaysModel" "row" "[I" ∈ zt_ws := zt_m 677 (by decide +kernel) (by decide +kernel)
theorem zk_X4_78 : Cond.fieldLink rn_X4 78 "RepeatWaysModel" "fewest" "[I" ∈ zt_ws := zt_m 678 (by decide +kernel) (by decide +kernel)
theorem zk_X4_81 : Cond.fieldLink rn_X4 81 "RepeatWaysModel" "block" "[I" ∈ zt_ws := zt_m 679 (by decide +kernel) (by decide +kernel)
theorem zk_X4_84 : Cond.fieldLink rn_X4 84 "RepeatWaysModel" "firstPart" "[I" ∈ zt_ws := zt_m 680 (by decide +kernel) (by decide +kernel)
theorem zk_X4_191 : Cond.fieldLink rn_X4 191 "RepeatWaysModel" "items" "I" ∈ zt_ws := zt_m 681 (by decide +kernel) (by decide +kernel)
theorem zk_X4_87 : Cond.fieldLink rn_X4 87 "RepeatWaysModel" "itemKind" "[I" ∈ zt_ws := zt_m 682 (by decide +kernel) (by decide +kernel)
theorem zk_X4_90 : Cond.fieldLink rn_X4 90 "RepeatWaysModel" "itemValue" "[I" ∈ zt_ws := zt_m 683 (by decide +kernel) (by decide +kernel)
theorem zk_X4_194 : Cond.fieldLink rn_X4 194 "RepeatWaysModel" "itemBars" "I" ∈ zt_ws := zt_m 684 (by decide +kernel) (by decide +kernel)
theorem zk_X4_93 : Cond.fieldLink rn_X4 93 "RepeatWaysModel" "waitAt" "[I" ∈ zt_ws := zt_m 685 (by decide +kernel) (by decide +kernel)
theorem zk_X4_96 : Cond.fieldLink rn_X4 96 "RepeatWaysModel" "waitLong" "[I" ∈ zt_ws := zt_m 686 (by decide +kernel) (by decide +kernel)
theorem zk_XL_67 : Cond.methodLink rn_XL 67 yn_X4_thrown ∈ zt_ws := zt_m 770 (by decide +kernel) (by decide +kernel)
theorem zk_XL_66 : Cond.methodLink rn_XL 66 yn_X4_bar ∈ zt_ws := zt_m 774 (by decide +kernel) (by decide +kernel)
theorem zk_X4_105 : Cond.methodLink rn_X4 105 yn_X4_refuses ∈ zt_ws := zt_m 778 (by decide +kernel) (by decide +kernel)
theorem zk_XL_74 : Cond.methodLink rn_XL 74 yn_X4_repeat ∈ zt_ws := zt_m 782 (by decide +kernel) (by decide +kernel)
theorem zk_X4_129 : Cond.methodLink rn_X4 129 yn_X4_isBar ∈ zt_ws := zt_m 786 (by decide +kernel) (by decide +kernel)
theorem zk_X4_133 : Cond.methodLink rn_X4 133 yn_X4_mayRepeat ∈ zt_ws := zt_m 790 (by decide +kernel) (by decide +kernel)
theorem zk_X4_119 : Cond.methodLink rn_X4 119 yn_X4_liesWell ∈ zt_ws := zt_m 794 (by decide +kernel) (by decide +kernel)
theorem zk_X4_109 : Cond.methodLink rn_X4 109 yn_X4_isApart ∈ zt_ws := zt_m 797 (by decide +kernel) (by decide +kernel)
theorem zk_X4_113 : Cond.methodLink rn_X4 113 yn_X4_isWithin ∈ zt_ws := zt_m 800 (by decide +kernel) (by decide +kernel)
theorem zk_X4_125 : Cond.methodLink rn_X4 125 yn_X4_isAround ∈ zt_ws := zt_m 803 (by decide +kernel) (by decide +kernel)
theorem zk_XL_78 : Cond.methodLink rn_XL 78 yn_X4_ending ∈ zt_ws := zt_m 807 (by decide +kernel) (by decide +kernel)
theorem zk_X4_136 : Cond.methodLink rn_X4 136 yn_X4_mayEnd ∈ zt_ws := zt_m 811 (by decide +kernel) (by decide +kernel)
theorem zk_XL_82 : Cond.methodLink rn_XL 82 yn_X4_sign ∈ zt_ws := zt_m 815 (by decide +kernel) (by decide +kernel)
theorem zk_XL_86 : Cond.methodLink rn_XL 86 yn_X4_jump ∈ zt_ws := zt_m 819 (by decide +kernel) (by decide +kernel)
theorem zk_XL_90 : Cond.methodLink rn_XL 90 yn_X4_plain ∈ zt_ws := zt_m 823 (by decide +kernel) (by decide +kernel)
theorem zk_XL_94 : Cond.methodLink rn_XL 94 yn_X4_unfold ∈ zt_ws := zt_m 827 (by decide +kernel) (by decide +kernel)
theorem zk_X4_159 : Cond.methodLink rn_X4 159 yn_X4_forget ∈ zt_ws := zt_m 831 (by decide +kernel) (by decide +kernel)
theorem zk_X4_156 : Cond.methodLink rn_X4 156 yn_X4_leaveAll ∈ zt_ws := zt_m 835 (by decide +kernel) (by decide +kernel)
theorem zk_X4_162 : Cond.methodLink rn_X4 162 yn_X4_missing ∈ zt_ws := zt_m 839 (by decide +kernel) (by decide +kernel)
theorem zk_X4_169 : Cond.methodLink rn_X4 169 yn_X4_comeTo ∈ zt_ws := zt_m 843 (by decide +kernel) (by decide +kernel)
theorem zk_X4_173 : Cond.methodLink rn_X4 173 yn_X4_leaveWithin ∈ zt_ws := zt_m 847 (by decide +kernel) (by decide +kernel)
theorem zk_X4_177 : Cond.methodLink rn_X4 177 yn_X4_theEnd ∈ zt_ws := zt_m 851 (by decide +kernel) (by decide +kernel)
theorem zk_X4_180 : Cond.methodLink rn_X4 180 yn_X4_play ∈ zt_ws := zt_m 855 (by decide +kernel) (by decide +kernel)
theorem zk_X4_183 : Cond.methodLink rn_X4 183 yn_X4_aroundIt ∈ zt_ws := zt_m 859 (by decide +kernel) (by decide +kernel)
theorem zk_XL_98 : Cond.methodLink rn_XL 98 yn_X4_fault ∈ zt_ws := zt_m 863 (by decide +kernel) (by decide +kernel)
theorem zk_XL_101 : Cond.methodLink rn_XL 101 yn_X4_played ∈ zt_ws := zt_m 867 (by decide +kernel) (by decide +kernel)
theorem zk_XL_104 : Cond.methodLink rn_XL 104 yn_X4_times ∈ zt_ws := zt_m 871 (by decide +kernel) (by decide +kernel)
theorem zk_XL_107 : Cond.methodLink rn_XL 107 yn_X4_comes ∈ zt_ws := zt_m 875 (by decide +kernel) (by decide +kernel)
theorem zk_XL_110 : Cond.methodLink rn_XL 110 yn_X4_fold ∈ zt_ws := zt_m 879 (by decide +kernel) (by decide +kernel)
theorem zk_X4_187 : Cond.methodLink rn_X4 187 yn_X4_findWay ∈ zt_ws := zt_m 883 (by decide +kernel) (by decide +kernel)
theorem zk_X4_200 : Cond.methodLink rn_X4 200 yn_X4_isAgain ∈ zt_ws := zt_m 887 (by decide +kernel) (by decide +kernel)
theorem zk_X4_197 : Cond.methodLink rn_X4 197 yn_X4_write ∈ zt_ws := zt_m 891 (by decide +kernel) (by decide +kernel)
theorem zk_X4_203 : Cond.methodLink rn_X4 203 yn_X4_item ∈ zt_ws := zt_m 895 (by decide +kernel) (by decide +kernel)
theorem zk_XL_113 : Cond.methodLink rn_XL 113 yn_X4_folded ∈ zt_ws := zt_m 899 (by decide +kernel) (by decide +kernel)
theorem zk_XL_116 : Cond.methodLink rn_XL 116 yn_X4_told ∈ zt_ws := zt_m 903 (by decide +kernel) (by decide +kernel)
end
section
/-! ===== own base: zj, a walk of one method over one world ===== -/
abbrev zx_T : Type := Program × Env × Room × State × MethodId × Array Value × List Frame × Method × Code × (Nat → Prop) × Nat × (State → Prop)
abbrev zf_T : Type := Launch × va_G × List (ClassId × FieldType)
/-- the nest's words -/
def zn_ok (U : State) : Prop := ∀ w ∈ zn_ws, va_Nw w U
theorem zn_warm {s U : State} (hW : s.WarmedH U.vm) (h : zn_ok s) : zn_ok U := by
  intro w hw
  have h1 := List.all_eq_true.mp zn_all w hw
  have h2 := h w hw
  cases w <;> first | exact va_Nw.warmF hW h2 | exact va_Nw.warmM hW h2 | cases h1
theorem zn_same {s U : State} (hv : s.vm = U.vm) (h : zn_ok s) : zn_ok U := by
  intro w hw
  have h1 := List.all_eq_true.mp zn_all w hw
  have h2 := h w hw
  cases w <;> first | exact va_Nw.same rfl hv h2 | cases h1
def zj (F : zf_T) (X : zx_T) (cells slots : Nat) (ws : va_W) (pc : Nat) (L : List (Option Value)) (st : List Value) : Prop :=
  match F, X with
  | (l, D, _), (p, e, R, s, m, args, below, meth, c, A, nL, Q) => ∀ (H : Heap) (locs : List Loc) (ls : Array Slot), va_P D vw_Cl ws H → va_D A ws → va_S A s.heap H locs → lz_has ls nL L → W p l e R s m args below meth c H locs cells slots Q (F0 m pc ls st)
def zx (F : zf_T) (X : zx_T) (cc : ByteArray) (own : String) (rm : Room) (ml : Nat) : Prop :=
  match F, X with
  | (_, D, tys), (p, _, R, s, m, args, _, meth, c, A, nL, _) => p.tables.exec = Jvm.exec ∧ c.code = cc ∧ c.maxLocals = nL ∧ s.vm.findClass own = some m.cls ∧ (∀ w ∈ zt_ws, w.before args s = true) ∧ va_K D vw_Cl tys s ∧ zn_ok s ∧ meth.locks = false ∧ (∀ q, s.heap.size ≤ q → A q) ∧ R = rm ∧ nL = ml
section ZR
variable {F : zf_T} {X : zx_T} {cc : ByteArray} {own : String} {rm : Room} {cells slots pc ml : Nat} {ws : va_W} {L : List (Option Value)} {st : List Value}
theorem zz_iconst (cx : zx F X cc own rm ml) {n : Int} {v : Int32} (hd : decode cc pc = .ok (.iconst n, 1)) (hv : Int32.ofInt n = v) (k : zj F X cells slots ws (pc + 1) L (.int v :: st)) : zj F X cells slots ws pc L st := by
  obtain ⟨l, D, tys⟩ := F
  obtain ⟨p, e, R, s, m, args, below, meth, c, A, nL, Q⟩ := X
  obtain ⟨hx, hb, hml, hown, hts, hK, hn, hlo, hA, hR, hL9⟩ := cx
  exact fun H locs ls hP hD hS hl => lv_iconst hx hb hd hv (k H locs ls hP hD hS hl)

theorem zz_bipush (cx : zx F X cc own rm ml) {n : Int} {v : Int32} (hd : decode cc pc = .ok (.bipush n, 2)) (hv : (Int8.ofInt n).toInt32 = v) (k : zj F X cells slots ws (pc + 2) L (.int v :: st)) : zj F X cells slots ws pc L st := by
  obtain ⟨l, D, tys⟩ := F
  obtain ⟨p, e, R, s, m, args, below, meth, c, A, nL, Q⟩ := X
  obtain ⟨hx, hb, hml, hown, hts, hK, hn, hlo, hA, hR, hL9⟩ := cx
  exact fun H locs ls hP hD hS hl => lv_bipush hx hb hd hv (k H locs ls hP hD hS hl)

theorem zz_sipush (cx : zx F X cc own rm ml) {n : Int} {v : Int32} (hd : decode cc pc = .ok (.sipush n, 3)) (hv : (Int16.ofInt n).toInt32 = v) (k : zj F X cells slots ws (pc + 3) L (.int v :: st)) : zj F X cells slots ws pc L st := by
  obtain ⟨l, D, tys⟩ := F
  obtain ⟨p, e, R, s, m, args, below, meth, c, A, nL, Q⟩ := X
  obtain ⟨hx, hb, hml, hown, hts, hK, hn, hlo, hA, hR, hL9⟩ := cx
  exact fun H locs ls hP hD hS hl => lv_sipush hx hb hd hv (k H locs ls hP hD hS hl)

theorem zz_ldc (cx : zx F X cc own rm ml) {index : Nat} {v : Int32} (hc : Cond.constant own index v ∈ zt_ws) (hd : decode cc pc = .ok (.ldc index, 2)) (k : zj F X cells slots ws (pc + 2) L (.int v :: st)) : zj F X cells slots ws pc L st := by
  obtain ⟨l, D, tys⟩ := F
  obtain ⟨p, e, R, s, m, args, below, meth, c, A, nL, Q⟩ := X
  obtain ⟨hx, hb, hml, hown, hts, hK, hn, hlo, hA, hR, hL9⟩ := cx
  exact fun H locs ls hP hD hS hl => lv_ldc hx hb hown (hts _ hc) hd (k H locs ls hP hD hS hl)

theorem zz_iload_n (cx : zx F X cc own rm ml) {j : Fin 4} {i : Nat} {x : Int32} (hd : decode cc pc = .ok (.iload_n j, 1)) (hi : (j : Nat) = i) (hL : L[i]? = some (some (.int x))) (k : zj F X cells slots ws (pc + 1) L (.int x :: st)) : zj F X cells slots ws pc L st := by
  obtain ⟨l, D, tys⟩ := F
  obtain ⟨p, e, R, s, m, args, below, meth, c, A, nL, Q⟩ := X
  obtain ⟨hx, hb, hml, hown, hts, hK, hn, hlo, hA, hR, hL9⟩ := cx
  exact fun H locs ls hP hD hS hl => lv_iload_n hx hb hd hi (hl.2.2 _ _ hL) (k H locs ls hP hD hS hl)

theorem zz_iload (cx : zx F X cc own rm ml) {i : Nat} {x : Int32} (hd : decode cc pc = .ok (.iload i, 2)) (hL : L[i]? = some (some (.int x))) (k : zj F X cells slots ws (pc + 2) L (.int x :: st)) : zj F X cells slots ws pc L st := by
  obtain ⟨l, D, tys⟩ := F
  obtain ⟨p, e, R, s, m, args, below, meth, c, A, nL, Q⟩ := X
  obtain ⟨hx, hb, hml, hown, hts, hK, hn, hlo, hA, hR, hL9⟩ := cx
  exact fun H locs ls hP hD hS hl => lv_iload hx hb hd (hl.2.2 _ _ hL) (k H locs ls hP hD hS hl)

theorem zz_aload_n (cx : zx F X cc own rm ml) {j : Fin 4} {i a : Nat} (hd : decode cc pc = .ok (.aload_n j, 1)) (hi : (j : Nat) = i) (hL : L[i]? = some (some (.ref a))) (k : zj F X cells slots ws (pc + 1) L (.ref a :: st)) : zj F X cells slots ws pc L st := by
  obtain ⟨l, D, tys⟩ := F
  obtain ⟨p, e, R, s, m, args, below, meth, c, A, nL, Q⟩ := X
  obtain ⟨hx, hb, hml, hown, hts, hK, hn, hlo, hA, hR, hL9⟩ := cx
  exact fun H locs ls hP hD hS hl => lv_aload_n hx hb hd hi (hl.2.2 _ _ hL) (k H locs ls hP hD hS hl)

theorem zz_aload (cx : zx F X cc own rm ml) {i a : Nat} (hd : decode cc pc = .ok (.aload i, 2)) (hL : L[i]? = some (some (.ref a))) (k : zj F X cells slots ws (pc + 2) L (.ref a :: st)) : zj F X cells slots ws pc L st := by
  obtain ⟨l, D, tys⟩ := F
  obtain ⟨p, e, R, s, m, args, below, meth, c, A, nL, Q⟩ := X
  obtain ⟨hx, hb, hml, hown, hts, hK, hn, hlo, hA, hR, hL9⟩ := cx
  exact fun H locs ls hP hD hS hl => lv_aload hx hb hd (hl.2.2 _ _ hL) (k H locs ls hP hD hS hl)

theorem zz_istore_n (cx : zx F X cc own rm ml) {j : Fin 4} {i : Nat} {x : Int32} (hd : decode cc pc = .ok (.istore_n j, 1)) (hi : (j : Nat) = i) (hi2 : i < ml) (hL : L.all lz_c1 = true) (k : zj F X cells slots ws (pc + 1) (L.set i (some (.int x))) st) : zj F X cells slots ws pc L (.int x :: st) := by
  obtain ⟨l, D, tys⟩ := F
  obtain ⟨p, e, R, s, m, args, below, meth, c, A, nL, Q⟩ := X
  obtain ⟨hx, hb, hml, hown, hts, hK, hn, hlo, hA, hR, hL9⟩ := cx
  exact fun H locs ls hP hD hS hl => lv_istore_n hx hb hd hi (lz_lv hl) (by rw [hL9]; exact hi2) rfl (fun ls h => k H locs ls hP hD hS (lz_back h hL))

theorem zz_istore (cx : zx F X cc own rm ml) {i : Nat} {x : Int32} (hd : decode cc pc = .ok (.istore i, 2)) (hi2 : i < ml) (hL : L.all lz_c1 = true) (k : zj F X cells slots ws (pc + 2) (L.set i (some (.int x))) st) : zj F X cells slots ws pc L (.int x :: st) := by
  obtain ⟨l, D, tys⟩ := F
  obtain ⟨p, e, R, s, m, args, below, meth, c, A, nL, Q⟩ := X
  obtain ⟨hx, hb, hml, hown, hts, hK, hn, hlo, hA, hR, hL9⟩ := cx
  exact fun H locs ls hP hD hS hl => lv_istore hx hb hd (lz_lv hl) (by rw [hL9]; exact hi2) rfl (fun ls h => k H locs ls hP hD hS (lz_back h hL))

theorem zz_astore_n (cx : zx F X cc own rm ml) {j : Fin 4} {i a : Nat} (hd : decode cc pc = .ok (.astore_n j, 1)) (hi : (j : Nat) = i) (hi2 : i < ml) (hL : L.all lz_c1 = true) (k : zj F X cells slots ws (pc + 1) (L.set i (some (.ref a))) st) : zj F X cells slots ws pc L (.ref a :: st) := by
  obtain ⟨l, D, tys⟩ := F
  obtain ⟨p, e, R, s, m, args, below, meth, c, A, nL, Q⟩ := X
  obtain ⟨hx, hb, hml, hown, hts, hK, hn, hlo, hA, hR, hL9⟩ := cx
  exact fun H locs ls hP hD hS hl => lv_astore_n hx hb hd hi (lz_lv hl) (by rw [hL9]; exact hi2) rfl (fun ls h => k H locs ls hP hD hS (lz_back h hL))

theorem zz_astore (cx : zx F X cc own rm ml) {i a : Nat} (hd : decode cc pc = .ok (.astore i, 2)) (hi2 : i < ml) (hL : L.all lz_c1 = true) (k : zj F X cells slots ws (pc + 2) (L.set i (some (.ref a))) st) : zj F X cells slots ws pc L (.ref a :: st) := by
  obtain ⟨l, D, tys⟩ := F
  obtain ⟨p, e, R, s, m, args, below, meth, c, A, nL, Q⟩ := X
  obtain ⟨hx, hb, hml, hown, hts, hK, hn, hlo, hA, hR, hL9⟩ := cx
  exact fun H locs ls hP hD hS hl => lv_astore hx hb hd (lz_lv hl) (by rw [hL9]; exact hi2) rfl (fun ls h => k H locs ls hP hD hS (lz_back h hL))

theorem zz_iinc (cx : zx F X cc own rm ml) {i : Nat} {n : Int} {x v : Int32} (hd : decode cc pc = .ok (.iinc i n, 3)) (hi : L[i]? = some (some (.int x))) (hv : x + Int32.ofInt n = v) (hi2 : i < ml) (hL : L.all lz_c1 = true) (k : zj F X cells slots ws (pc + 3) (L.set i (some (.int v))) st) : zj F X cells slots ws pc L st := by
  obtain ⟨l, D, tys⟩ := F
  obtain ⟨p, e, R, s, m, args, below, meth, c, A, nL, Q⟩ := X
  obtain ⟨hx, hb, hml, hown, hts, hK, hn, hlo, hA, hR, hL9⟩ := cx
  exact fun H locs ls hP hD hS hl => by
    obtain ⟨kk, hkk⟩ := List.getElem?_of_mem (lz_mem (q := (i, .int x)).mpr hi)
    exact lv_iinc hx hb hd (lz_lv hl) hkk hv (by rw [hL9]; exact hi2) rfl (fun ls h => k H locs ls hP hD hS (lz_back h hL))

theorem zz_iadd (cx : zx F X cc own rm ml) {x y : Int32} (hd : decode cc pc = .ok (.iadd, 1)) (k : zj F X cells slots ws (pc + 1) L (.int (x + y) :: st)) : zj F X cells slots ws pc L (.int y :: .int x :: st) := by
  obtain ⟨l, D, tys⟩ := F
  obtain ⟨p, e, R, s, m, args, below, meth, c, A, nL, Q⟩ := X
  obtain ⟨hx, hb, hml, hown, hts, hK, hn, hlo, hA, hR, hL9⟩ := cx
  exact fun H locs ls hP hD hS hl => lv_iadd hx hb hd (k H locs ls hP hD hS hl)

theorem zz_isub (cx : zx F X cc own rm ml) {x y : Int32} (hd : decode cc pc = .ok (.isub, 1)) (k : zj F X cells slots ws (pc + 1) L (.int (x - y) :: st)) : zj F X cells slots ws pc L (.int y :: .int x :: st) := by
  obtain ⟨l, D, tys⟩ := F
  obtain ⟨p, e, R, s, m, args, below, meth, c, A, nL, Q⟩ := X
  obtain ⟨hx, hb, hml, hown, hts, hK, hn, hlo, hA, hR, hL9⟩ := cx
  exact fun H locs ls hP hD hS hl => lv_isub hx hb hd (k H locs ls hP hD hS hl)

theorem zz_imul (cx : zx F X cc own rm ml) {x y : Int32} (hd : decode cc pc = .ok (.imul, 1)) (k : zj F X cells slots ws (pc + 1) L (.int (x * y) :: st)) : zj F X cells slots ws pc L (.int y :: .int x :: st) := by
  obtain ⟨l, D, tys⟩ := F
  obtain ⟨p, e, R, s, m, args, below, meth, c, A, nL, Q⟩ := X
  obtain ⟨hx, hb, hml, hown, hts, hK, hn, hlo, hA, hR, hL9⟩ := cx
  exact fun H locs ls hP hD hS hl => lv_imul hx hb hd (k H locs ls hP hD hS hl)

theorem zz_iand (cx : zx F X cc own rm ml) {x y : Int32} (hd : decode cc pc = .ok (.iand, 1)) (k : zj F X cells slots ws (pc + 1) L (.int (x &&& y) :: st)) : zj F X cells slots ws pc L (.int y :: .int x :: st) := by
  obtain ⟨l, D, tys⟩ := F
  obtain ⟨p, e, R, s, m, args, below, meth, c, A, nL, Q⟩ := X
  obtain ⟨hx, hb, hml, hown, hts, hK, hn, hlo, hA, hR, hL9⟩ := cx
  exact fun H locs ls hP hD hS hl => lv_iand hx hb hd (k H locs ls hP hD hS hl)

theorem zz_ior (cx : zx F X cc own rm ml) {x y : Int32} (hd : decode cc pc = .ok (.ior, 1)) (k : zj F X cells slots ws (pc + 1) L (.int (x ||| y) :: st)) : zj F X cells slots ws pc L (.int y :: .int x :: st) := by
  obtain ⟨l, D, tys⟩ := F
  obtain ⟨p, e, R, s, m, args, below, meth, c, A, nL, Q⟩ := X
  obtain ⟨hx, hb, hml, hown, hts, hK, hn, hlo, hA, hR, hL9⟩ := cx
  exact fun H locs ls hP hD hS hl => lv_ior hx hb hd (k H locs ls hP hD hS hl)

theorem zz_ixor (cx : zx F X cc own rm ml) {x y : Int32} (hd : decode cc pc = .ok (.ixor, 1)) (k : zj F X cells slots ws (pc + 1) L (.int (x ^^^ y) :: st)) : zj F X cells slots ws pc L (.int y :: .int x :: st) := by
  obtain ⟨l, D, tys⟩ := F
  obtain ⟨p, e, R, s, m, args, below, meth, c, A, nL, Q⟩ := X
  obtain ⟨hx, hb, hml, hown, hts, hK, hn, hlo, hA, hR, hL9⟩ := cx
  exact fun H locs ls hP hD hS hl => lv_ixor hx hb hd (k H locs ls hP hD hS hl)

theorem zz_ishl (cx : zx F X cc own rm ml) {x y : Int32} (hd : decode cc pc = .ok (.ishl, 1)) (k : zj F X cells slots ws (pc + 1) L (.int (x <<< (y &&& 31)) :: st)) : zj F X cells slots ws pc L (.int y :: .int x :: st) := by
  obtain ⟨l, D, tys⟩ := F
  obtain ⟨p, e, R, s, m, args, below, meth, c, A, nL, Q⟩ := X
  obtain ⟨hx, hb, hml, hown, hts, hK, hn, hlo, hA, hR, hL9⟩ := cx
  exact fun H locs ls hP hD hS hl => lv_ishl hx hb hd (k H locs ls hP hD hS hl)

theorem zz_ishr (cx : zx F X cc own rm ml) {x y : Int32} (hd : decode cc pc = .ok (.ishr, 1)) (k : zj F X cells slots ws (pc + 1) L (.int (x >>> (y &&& 31)) :: st)) : zj F X cells slots ws pc L (.int y :: .int x :: st) := by
  obtain ⟨l, D, tys⟩ := F
  obtain ⟨p, e, R, s, m, args, below, meth, c, A, nL, Q⟩ := X
  obtain ⟨hx, hb, hml, hown, hts, hK, hn, hlo, hA, hR, hL9⟩ := cx
  exact fun H locs ls hP hD hS hl => lv_ishr hx hb hd (k H locs ls hP hD hS hl)

theorem zz_ineg (cx : zx F X cc own rm ml) {x : Int32} (hd : decode cc pc = .ok (.ineg, 1)) (k : zj F X cells slots ws (pc + 1) L (.int (-x) :: st)) : zj F X cells slots ws pc L (.int x :: st) := by
  obtain ⟨l, D, tys⟩ := F
  obtain ⟨p, e, R, s, m, args, below, meth, c, A, nL, Q⟩ := X
  obtain ⟨hx, hb, hml, hown, hts, hK, hn, hlo, hA, hR, hL9⟩ := cx
  exact fun H locs ls hP hD hS hl => lv_ineg hx hb hd (k H locs ls hP hD hS hl)

theorem zz_dup (cx : zx F X cc own rm ml) {v : Value} (hd : decode cc pc = .ok (.dup, 1)) (hv : v.category = 1) (k : zj F X cells slots ws (pc + 1) L (v :: v :: st)) : zj F X cells slots ws pc L (v :: st) := by
  obtain ⟨l, D, tys⟩ := F
  obtain ⟨p, e, R, s, m, args, below, meth, c, A, nL, Q⟩ := X
  obtain ⟨hx, hb, hml, hown, hts, hK, hn, hlo, hA, hR, hL9⟩ := cx
  exact fun H locs ls hP hD hS hl => lv_dup hx hb hd hv (k H locs ls hP hD hS hl)

theorem zz_dup2 (cx : zx F X cc own rm ml) {v w : Value} (hd : decode cc pc = .ok (.dup2, 1)) (hv : v.category = 1) (hw : w.category = 1) (k : zj F X cells slots ws (pc + 1) L (v :: w :: v :: w :: st)) : zj F X cells slots ws pc L (v :: w :: st) := by
  obtain ⟨l, D, tys⟩ := F
  obtain ⟨p, e, R, s, m, args, below, meth, c, A, nL, Q⟩ := X
  obtain ⟨hx, hb, hml, hown, hts, hK, hn, hlo, hA, hR, hL9⟩ := cx
  exact fun H locs ls hP hD hS hl => lv_dup2_11 hx hb hd hv hw (k H locs ls hP hD hS hl)

theorem zz_dup_x1 (cx : zx F X cc own rm ml) {v w : Value} (hd : decode cc pc = .ok (.dup_x1, 1)) (hv : v.category = 1) (hw : w.category = 1) (k : zj F X cells slots ws (pc + 1) L (v :: w :: v :: st)) : zj F X cells slots ws pc L (v :: w :: st) := by
  obtain ⟨l, D, tys⟩ := F
  obtain ⟨p, e, R, s, m, args, below, meth, c, A, nL, Q⟩ := X
  obtain ⟨hx, hb, hml, hown, hts, hK, hn, hlo, hA, hR, hL9⟩ := cx
  exact fun H locs ls hP hD hS hl => lv_dup_x1 hx hb hd hv hw (k H locs ls hP hD hS hl)

theorem zz_pop (cx : zx F X cc own rm ml) {v : Value} (hd : decode cc pc = .ok (.pop, 1)) (hv : v.category = 1) (k : zj F X cells slots ws (pc + 1) L st) : zj F X cells slots ws pc L (v :: st) := by
  obtain ⟨l, D, tys⟩ := F
  obtain ⟨p, e, R, s, m, args, below, meth, c, A, nL, Q⟩ := X
  obtain ⟨hx, hb, hml, hown, hts, hK, hn, hlo, hA, hR, hL9⟩ := cx
  exact fun H locs ls hP hD hS hl => lv_pop hx hb hd hv (k H locs ls hP hD hS hl)

theorem zz_goto (cx : zx F X cc own rm ml) {off : Int} {tgt : Nat} (hd : decode cc pc = .ok (.goto off, 3)) (ht : (pc : Int) + off = (tgt : Int)) (k : zj F X cells slots ws tgt L st) : zj F X cells slots ws pc L st := by
  obtain ⟨l, D, tys⟩ := F
  obtain ⟨p, e, R, s, m, args, below, meth, c, A, nL, Q⟩ := X
  obtain ⟨hx, hb, hml, hown, hts, hK, hn, hlo, hA, hR, hL9⟩ := cx
  exact fun H locs ls hP hD hS hl => lv_goto hx hb hd ht (k H locs ls hP hD hS hl)

theorem zz_idiv (cx : zx F X cc own rm ml) {α : Type} {t : Option α} {r : α} {x y : Int32} (hd : decode cc pc = .ok (.idiv, 1)) (h : gs_nz y t = some r) (k : t = some r → zj F X cells slots ws (pc + 1) L (.int (x / y) :: st)) : zj F X cells slots ws pc L (.int y :: .int x :: st) := by
  obtain ⟨hne, h⟩ := gs_nz_some h
  have k := k h
  obtain ⟨l, D, tys⟩ := F
  obtain ⟨p, e, R, s, m, args, below, meth, c, A, nL, Q⟩ := X
  obtain ⟨hx, hb, hml, hown, hts, hK, hn, hlo, hA, hR, hL9⟩ := cx
  exact fun H locs ls hP hD hS hl => lv_idiv hx hb hd hne (k H locs ls hP hD hS hl)

theorem zz_irem (cx : zx F X cc own rm ml) {α : Type} {t : Option α} {r : α} {x y : Int32} (hd : decode cc pc = .ok (.irem, 1)) (h : gs_nz y t = some r) (k : t = some r → zj F X cells slots ws (pc + 1) L (.int (x - x / y * y) :: st)) : zj F X cells slots ws pc L (.int y :: .int x :: st) := by
  obtain ⟨hne, h⟩ := gs_nz_some h
  have k := k h
  obtain ⟨l, D, tys⟩ := F
  obtain ⟨p, e, R, s, m, args, below, meth, c, A, nL, Q⟩ := X
  obtain ⟨hx, hb, hml, hown, hts, hK, hn, hlo, hA, hR, hL9⟩ := cx
  exact fun H locs ls hP hD hS hl => lv_irem hx hb hd hne (k H locs ls hP hD hS hl)

theorem zz_icmp_eq (cx : zx F X cc own rm ml) {α : Type} {a b : Option α} {r : α} {x y : Int32} {off : Int} {tgt : Nat} {dc : Decidable (x = y)} (hd : decode cc pc = .ok (.if_icmp .eq off, 3)) (ht : (pc : Int) + off = (tgt : Int)) (h : @ite _ (x = y) dc a b = some r) (ka : a = some r → zj F X cells slots ws tgt L st) (kb : b = some r → zj F X cells slots ws (pc + 3) L st) : zj F X cells slots ws pc L (.int y :: .int x :: st) := by
  obtain ⟨l, D, tys⟩ := F
  obtain ⟨p, e, R, s, m, args, below, meth, c, A, nL, Q⟩ := X
  obtain ⟨hx, hb, hml, hown, hts, hK, hn, hlo, hA, hR, hL9⟩ := cx
  intro H locs ls hP hD hS hl
  refine gs_if h (fun hc h => ?_) (fun hc h => ?_)
  · exact lv_icmp_eq hx hb hd ht (fun _ => ka h H locs ls hP hD hS hl) (fun hc2 => absurd hc hc2)
  · exact lv_icmp_eq hx hb hd ht (fun hc2 => absurd hc2 hc) (fun _ => kb h H locs ls hP hD hS hl)

theorem zz_if_eq (cx : zx F X cc own rm ml) {α : Type} {a b : Option α} {r : α} {x : Int32} {off : Int} {tgt : Nat} {dc : Decidable (x = 0)} (hd : decode cc pc = .ok (.ifCond .eq off, 3)) (ht : (pc : Int) + off = (tgt : Int)) (h : @ite _ (x = 0) dc a b = some r) (ka : a = some r → zj F X cells slots ws tgt L st) (kb : b = some r → zj F X cells slots ws (pc + 3) L st) : zj F X cells slots ws pc L (.int x :: st) := by
  obtain ⟨l, D, tys⟩ := F
  obtain ⟨p, e, R, s, m, args, below, meth, c, A, nL, Q⟩ := X
  obtain ⟨hx, hb, hml, hown, hts, hK, hn, hlo, hA, hR, hL9⟩ := cx
  intro H locs ls hP hD hS hl
  refine gs_if h (fun hc h => ?_) (fun hc h => ?_)
  · exact lv_if_eq hx hb hd ht (fun _ => ka h H locs ls hP hD hS hl) (fun hc2 => absurd hc hc2)
  · exact lv_if_eq hx hb hd ht (fun hc2 => absurd hc2 hc) (fun _ => kb h H locs ls hP hD hS hl)

theorem zz_icmp_ne (cx : zx F X cc own rm ml) {α : Type} {a b : Option α} {r : α} {x y : Int32} {off : Int} {tgt : Nat} {dc : Decidable (x = y)} (hd : decode cc pc = .ok (.if_icmp .ne off, 3)) (ht : (pc : Int) + off = (tgt : Int)) (h : @ite _ (x = y) dc a b = some r) (ka : a = some r → zj F X cells slots ws (pc + 3) L st) (kb : b = some r → zj F X cells slots ws tgt L st) : zj F X cells slots ws pc L (.int y :: .int x :: st) := by
  obtain ⟨l, D, tys⟩ := F
  obtain ⟨p, e, R, s, m, args, below, meth, c, A, nL, Q⟩ := X
  obtain ⟨hx, hb, hml, hown, hts, hK, hn, hlo, hA, hR, hL9⟩ := cx
  intro H locs ls hP hD hS hl
  refine gs_if h (fun hc h => ?_) (fun hc h => ?_)
  · exact lv_icmp_ne hx hb hd ht (fun hc2 => absurd hc hc2) (fun _ => ka h H locs ls hP hD hS hl)
  · exact lv_icmp_ne hx hb hd ht (fun _ => kb h H locs ls hP hD hS hl) (fun hc2 => absurd hc2 hc)

theorem zz_if_ne (cx : zx F X cc own rm ml) {α : Type} {a b : Option α} {r : α} {x : Int32} {off : Int} {tgt : Nat} {dc : Decidable (x = 0)} (hd : decode cc pc = .ok (.ifCond .ne off, 3)) (ht : (pc : Int) + off = (tgt : Int)) (h : @ite _ (x = 0) dc a b = some r) (ka : a = some r → zj F X cells slots ws (pc + 3) L st) (kb : b = some r → zj F X cells slots ws tgt L st) : zj F X cells slots ws pc L (.int x :: st) := by
  obtain ⟨l, D, tys⟩ := F
  obtain ⟨p, e, R, s, m, args, below, meth, c, A, nL, Q⟩ := X
  obtain ⟨hx, hb, hml, hown, hts, hK, hn, hlo, hA, hR, hL9⟩ := cx
  intro H locs ls hP hD hS hl
  refine gs_if h (fun hc h => ?_) (fun hc h => ?_)
  · exact lv_if_ne hx hb hd ht (fun hc2 => absurd hc hc2) (fun _ => ka h H locs ls hP hD hS hl)
  · exact lv_if_ne hx hb hd ht (fun _ => kb h H locs ls hP hD hS hl) (fun hc2 => absurd hc2 hc)

theorem zz_icmp_lt (cx : zx F X cc own rm ml) {α : Type} {a b : Option α} {r : α} {x y : Int32} {off : Int} {tgt : Nat} {dc : Decidable (x < y)} (hd : decode cc pc = .ok (.if_icmp .lt off, 3)) (ht : (pc : Int) + off = (tgt : Int)) (h : @ite _ (x < y) dc a b = some r) (ka : a = some r → zj F X cells slots ws tgt L st) (kb : b = some r → zj F X cells slots ws (pc + 3) L st) : zj F X cells slots ws pc L (.int y :: .int x :: st) := by
  obtain ⟨l, D, tys⟩ := F
  obtain ⟨p, e, R, s, m, args, below, meth, c, A, nL, Q⟩ := X
  obtain ⟨hx, hb, hml, hown, hts, hK, hn, hlo, hA, hR, hL9⟩ := cx
  intro H locs ls hP hD hS hl
  refine gs_if h (fun hc h => ?_) (fun hc h => ?_)
  · exact lv_icmp_lt hx hb hd ht (fun _ => ka h H locs ls hP hD hS hl) (fun hc2 => absurd hc hc2)
  · exact lv_icmp_lt hx hb hd ht (fun hc2 => absurd hc2 hc) (fun _ => kb h H locs ls hP hD hS hl)

theorem zz_if_lt (cx : zx F X cc own rm ml) {α : Type} {a b : Option α} {r : α} {x : Int32} {off : Int} {tgt : Nat} {dc : Decidable (x < 0)} (hd : decode cc pc = .ok (.ifCond .lt off, 3)) (ht : (pc : Int) + off = (tgt : Int)) (h : @ite _ (x < 0) dc a b = some r) (ka : a = some r → zj F X cells slots ws tgt L st) (kb : b = some r → zj F X cells slots ws (pc + 3) L st) : zj F X cells slots ws pc L (.int x :: st) := by
  obtain ⟨l, D, tys⟩ := F
  obtain ⟨p, e, R, s, m, args, below, meth, c, A, nL, Q⟩ := X
  obtain ⟨hx, hb, hml, hown, hts, hK, hn, hlo, hA, hR, hL9⟩ := cx
  intro H locs ls hP hD hS hl
  refine gs_if h (fun hc h => ?_) (fun hc h => ?_)
  · exact lv_if_lt hx hb hd ht (fun _ => ka h H locs ls hP hD hS hl) (fun hc2 => absurd hc hc2)
  · exact lv_if_lt hx hb hd ht (fun hc2 => absurd hc2 hc) (fun _ => kb h H locs ls hP hD hS hl)

theorem zz_icmp_ge (cx : zx F X cc own rm ml) {α : Type} {a b : Option α} {r : α} {x y : Int32} {off : Int} {tgt : Nat} {dc : Decidable (y ≤ x)} (hd : decode cc pc = .ok (.if_icmp .ge off, 3)) (ht : (pc : Int) + off = (tgt : Int)) (h : @ite _ (y ≤ x) dc a b = some r) (ka : a = some r → zj F X cells slots ws tgt L st) (kb : b = some r → zj F X cells slots ws (pc + 3) L st) : zj F X cells slots ws pc L (.int y :: .int x :: st) := by
  obtain ⟨l, D, tys⟩ := F
  obtain ⟨p, e, R, s, m, args, below, meth, c, A, nL, Q⟩ := X
  obtain ⟨hx, hb, hml, hown, hts, hK, hn, hlo, hA, hR, hL9⟩ := cx
  intro H locs ls hP hD hS hl
  refine gs_if h (fun hc h => ?_) (fun hc h => ?_)
  · exact lv_icmp_ge hx hb hd ht (fun _ => ka h H locs ls hP hD hS hl) (fun hc2 => absurd hc hc2)
  · exact lv_icmp_ge hx hb hd ht (fun hc2 => absurd hc2 hc) (fun _ => kb h H locs ls hP hD hS hl)

theorem zz_if_ge (cx : zx F X cc own rm ml) {α : Type} {a b : Option α} {r : α} {x : Int32} {off : Int} {tgt : Nat} {dc : Decidable (0 ≤ x)} (hd : decode cc pc = .ok (.ifCond .ge off, 3)) (ht : (pc : Int) + off = (tgt : Int)) (h : @ite _ (0 ≤ x) dc a b = some r) (ka : a = some r → zj F X cells slots ws tgt L st) (kb : b = some r → zj F X cells slots ws (pc + 3) L st) : zj F X cells slots ws pc L (.int x :: st) := by
  obtain ⟨l, D, tys⟩ := F
  obtain ⟨p, e, R, s, m, args, below, meth, c, A, nL, Q⟩ := X
  obtain ⟨hx, hb, hml, hown, hts, hK, hn, hlo, hA, hR, hL9⟩ := cx
  intro H locs ls hP hD hS hl
  refine gs_if h (fun hc h => ?_) (fun hc h => ?_)
  · exact lv_if_ge hx hb hd ht (fun _ => ka h H locs ls hP hD hS hl) (fun hc2 => absurd hc hc2)
  · exact lv_if_ge hx hb hd ht (fun hc2 => absurd hc2 hc) (fun _ => kb h H locs ls hP hD hS hl)

theorem zz_icmp_gt (cx : zx F X cc own rm ml) {α : Type} {a b : Option α} {r : α} {x y : Int32} {off : Int} {tgt : Nat} {dc : Decidable (y < x)} (hd : decode cc pc = .ok (.if_icmp .gt off, 3)) (ht : (pc : Int) + off = (tgt : Int)) (h : @ite _ (y < x) dc a b = some r) (ka : a = some r → zj F X cells slots ws tgt L st) (kb : b = some r → zj F X cells slots ws (pc + 3) L st) : zj F X cells slots ws pc L (.int y :: .int x :: st) := by
  obtain ⟨l, D, tys⟩ := F
  obtain ⟨p, e, R, s, m, args, below, meth, c, A, nL, Q⟩ := X
  obtain ⟨hx, hb, hml, hown, hts, hK, hn, hlo, hA, hR, hL9⟩ := cx
  intro H locs ls hP hD hS hl
  refine gs_if h (fun hc h => ?_) (fun hc h => ?_)
  · exact lv_icmp_gt hx hb hd ht (fun _ => ka h H locs ls hP hD hS hl) (fun hc2 => absurd hc hc2)
  · exact lv_icmp_gt hx hb hd ht (fun hc2 => absurd hc2 hc) (fun _ => kb h H locs ls hP hD hS hl)

theorem zz_if_gt (cx : zx F X cc own rm ml) {α : Type} {a b : Option α} {r : α} {x : Int32} {off : Int} {tgt : Nat} {dc : Decidable (0 < x)} (hd : decode cc pc = .ok (.ifCond .gt off, 3)) (ht : (pc : Int) + off = (tgt : Int)) (h : @ite _ (0 < x) dc a b = some r) (ka : a = some r → zj F X cells slots ws tgt L st) (kb : b = some r → zj F X cells slots ws (pc + 3) L st) : zj F X cells slots ws pc L (.int x :: st) := by
  obtain ⟨l, D, tys⟩ := F
  obtain ⟨p, e, R, s, m, args, below, meth, c, A, nL, Q⟩ := X
  obtain ⟨hx, hb, hml, hown, hts, hK, hn, hlo, hA, hR, hL9⟩ := cx
  intro H locs ls hP hD hS hl
  refine gs_if h (fun hc h => ?_) (fun hc h => ?_)
  · exact lv_if_gt hx hb hd ht (fun _ => ka h H locs ls hP hD hS hl) (fun hc2 => absurd hc hc2)
  · exact lv_if_gt hx hb hd ht (fun hc2 => absurd hc2 hc) (fun _ => kb h H locs ls hP hD hS hl)

theorem zz_icmp_le (cx : zx F X cc own rm ml) {α : Type} {a b : Option α} {r : α} {x y : Int32} {off : Int} {tgt : Nat} {dc : Decidable (x ≤ y)} (hd : decode cc pc = .ok (.if_icmp .le off, 3)) (ht : (pc : Int) + off = (tgt : Int)) (h : @ite _ (x ≤ y) dc a b = some r) (ka : a = some r → zj F X cells slots ws tgt L st) (kb : b = some r → zj F X cells slots ws (pc + 3) L st) : zj F X cells slots ws pc L (.int y :: .int x :: st) := by
  obtain ⟨l, D, tys⟩ := F
  obtain ⟨p, e, R, s, m, args, below, meth, c, A, nL, Q⟩ := X
  obtain ⟨hx, hb, hml, hown, hts, hK, hn, hlo, hA, hR, hL9⟩ := cx
  intro H locs ls hP hD hS hl
  refine gs_if h (fun hc h => ?_) (fun hc h => ?_)
  · exact lv_icmp_le hx hb hd ht (fun _ => ka h H locs ls hP hD hS hl) (fun hc2 => absurd hc hc2)
  · exact lv_icmp_le hx hb hd ht (fun hc2 => absurd hc2 hc) (fun _ => kb h H locs ls hP hD hS hl)

theorem zz_if_le (cx : zx F X cc own rm ml) {α : Type} {a b : Option α} {r : α} {x : Int32} {off : Int} {tgt : Nat} {dc : Decidable (x ≤ 0)} (hd : decode cc pc = .ok (.ifCond .le off, 3)) (ht : (pc : Int) + off = (tgt : Int)) (h : @ite _ (x ≤ 0) dc a b = some r) (ka : a = some r → zj F X cells slots ws tgt L st) (kb : b = some r → zj F X cells slots ws (pc + 3) L st) : zj F X cells slots ws pc L (.int x :: st) := by
  obtain ⟨l, D, tys⟩ := F
  obtain ⟨p, e, R, s, m, args, below, meth, c, A, nL, Q⟩ := X
  obtain ⟨hx, hb, hml, hown, hts, hK, hn, hlo, hA, hR, hL9⟩ := cx
  intro H locs ls hP hD hS hl
  refine gs_if h (fun hc h => ?_) (fun hc h => ?_)
  · exact lv_if_le hx hb hd ht (fun _ => ka h H locs ls hP hD hS hl) (fun hc2 => absurd hc hc2)
  · exact lv_if_le hx hb hd ht (fun hc2 => absurd hc2 hc) (fun _ => kb h H locs ls hP hD hS hl)

theorem zz_icmp_eq_t (cx : zx F X cc own rm ml) {x y : Int32} {off : Int} {tgt : Nat} (hd : decode cc pc = .ok (.if_icmp .eq off, 3)) (ht : (pc : Int) + off = (tgt : Int)) (hc : x = y) (k : zj F X cells slots ws tgt L st) : zj F X cells slots ws pc L (.int y :: .int x :: st) := by
  obtain ⟨l, D, tys⟩ := F
  obtain ⟨p, e, R, s, m, args, below, meth, c, A, nL, Q⟩ := X
  obtain ⟨hx, hb, hml, hown, hts, hK, hn, hlo, hA, hR, hL9⟩ := cx
  exact fun H locs ls hP hD hS hl => lv_icmp_eq hx hb hd ht (fun _ => k H locs ls hP hD hS hl) (fun hc2 => absurd hc hc2)

theorem zz_icmp_eq_f (cx : zx F X cc own rm ml) {x y : Int32} {off : Int} {tgt : Nat} (hd : decode cc pc = .ok (.if_icmp .eq off, 3)) (ht : (pc : Int) + off = (tgt : Int)) (hc : ¬ x = y) (k : zj F X cells slots ws (pc + 3) L st) : zj F X cells slots ws pc L (.int y :: .int x :: st) := by
  obtain ⟨l, D, tys⟩ := F
  obtain ⟨p, e, R, s, m, args, below, meth, c, A, nL, Q⟩ := X
  obtain ⟨hx, hb, hml, hown, hts, hK, hn, hlo, hA, hR, hL9⟩ := cx
  intro H locs ls hP hD hS hl
  refine lv_icmp_eq hx hb hd ht (fun hc2 => ?_) (fun hc2 => ?_)
  · first | exact k H locs ls hP hD hS hl | exact absurd hc hc2 | exact absurd hc2 hc
  · first | exact k H locs ls hP hD hS hl | exact absurd hc hc2 | exact absurd hc2 hc

theorem zz_if_eq_t (cx : zx F X cc own rm ml) {x : Int32} {off : Int} {tgt : Nat} (hd : decode cc pc = .ok (.ifCond .eq off, 3)) (ht : (pc : Int) + off = (tgt : Int)) (hc : x = 0) (k : zj F X cells slots ws tgt L st) : zj F X cells slots ws pc L (.int x :: st) := by
  obtain ⟨l, D, tys⟩ := F
  obtain ⟨p, e, R, s, m, args, below, meth, c, A, nL, Q⟩ := X
  obtain ⟨hx, hb, hml, hown, hts, hK, hn, hlo, hA, hR, hL9⟩ := cx
  exact fun H locs ls hP hD hS hl => lv_if_eq hx hb hd ht (fun _ => k H locs ls hP hD hS hl) (fun hc2 => absurd hc hc2)

theorem zz_if_eq_f (cx : zx F X cc own rm ml) {x : Int32} {off : Int} {tgt : Nat} (hd : decode cc pc = .ok (.ifCond .eq off, 3)) (ht : (pc : Int) + off = (tgt : Int)) (hc : ¬ x = 0) (k : zj F X cells slots ws (pc + 3) L st) : zj F X cells slots ws pc L (.int x :: st) := by
  obtain ⟨l, D, tys⟩ := F
  obtain ⟨p, e, R, s, m, args, below, meth, c, A, nL, Q⟩ := X
  obtain ⟨hx, hb, hml, hown, hts, hK, hn, hlo, hA, hR, hL9⟩ := cx
  intro H locs ls hP hD hS hl
  refine lv_if_eq hx hb hd ht (fun hc2 => ?_) (fun hc2 => ?_)
  · first | exact k H locs ls hP hD hS hl | exact absurd hc hc2 | exact absurd hc2 hc
  · first | exact k H locs ls hP hD hS hl | exact absurd hc hc2 | exact absurd hc2 hc

theorem zz_icmp_ne_t (cx : zx F X cc own rm ml) {x y : Int32} {off : Int} {tgt : Nat} (hd : decode cc pc = .ok (.if_icmp .ne off, 3)) (ht : (pc : Int) + off = (tgt : Int)) (hc : ¬ x = y) (k : zj F X cells slots ws tgt L st) : zj F X cells slots ws pc L (.int y :: .int x :: st) := by
  obtain ⟨l, D, tys⟩ := F
  obtain ⟨p, e, R, s, m, args, below, meth, c, A, nL, Q⟩ := X
  obtain ⟨hx, hb, hml, hown, hts, hK, hn, hlo, hA, hR, hL9⟩ := cx
  intro H locs ls hP hD hS hl
  refine lv_icmp_ne hx hb hd ht (fun hc2 => ?_) (fun hc2 => ?_)
  · first | exact k H locs ls hP hD hS hl | exact absurd hc hc2 | exact absurd hc2 hc
  · first | exact k H locs ls hP hD hS hl | exact absurd hc hc2 | exact absurd hc2 hc

theorem zz_icmp_ne_f (cx : zx F X cc own rm ml) {x y : Int32} {off : Int} {tgt : Nat} (hd : decode cc pc = .ok (.if_icmp .ne off, 3)) (ht : (pc : Int) + off = (tgt : Int)) (hc : x = y) (k : zj F X cells slots ws (pc + 3) L st) : zj F X cells slots ws pc L (.int y :: .int x :: st) := by
  obtain ⟨l, D, tys⟩ := F
  obtain ⟨p, e, R, s, m, args, below, meth, c, A, nL, Q⟩ := X
  obtain ⟨hx, hb, hml, hown, hts, hK, hn, hlo, hA, hR, hL9⟩ := cx
  intro H locs ls hP hD hS hl
  refine lv_icmp_ne hx hb hd ht (fun hc2 => ?_) (fun hc2 => ?_)
  · first | exact k H locs ls hP hD hS hl | exact absurd hc hc2 | exact absurd hc2 hc
  · first | exact k H locs ls hP hD hS hl | exact absurd hc hc2 | exact absurd hc2 hc

theorem zz_if_ne_t (cx : zx F X cc own rm ml) {x : Int32} {off : Int} {tgt : Nat} (hd : decode cc pc = .ok (.ifCond .ne off, 3)) (ht : (pc : Int) + off = (tgt : Int)) (hc : ¬ x = 0) (k : zj F X cells slots ws tgt L st) : zj F X cells slots ws pc L (.int x :: st) := by
  obtain ⟨l, D, tys⟩ := F
  obtain ⟨p, e, R, s, m, args, below, meth, c, A, nL, Q⟩ := X
  obtain ⟨hx, hb, hml, hown, hts, hK, hn, hlo, hA, hR, hL9⟩ := cx
  intro H locs ls hP hD hS hl
  refine lv_if_ne hx hb hd ht (fun hc2 => ?_) (fun hc2 => ?_)
  · first | exact k H locs ls hP hD hS hl | exact absurd hc hc2 | exact absurd hc2 hc
  · first | exact k H locs ls hP hD hS hl | exact absurd hc hc2 | exact absurd hc2 hc

theorem zz_if_ne_f (cx : zx F X cc own rm ml) {x : Int32} {off : Int} {tgt : Nat} (hd : decode cc pc = .ok (.ifCond .ne off, 3)) (ht : (pc : Int) + off = (tgt : Int)) (hc : x = 0) (k : zj F X cells slots ws (pc + 3) L st) : zj F X cells slots ws pc L (.int x :: st) := by
  obtain ⟨l, D, tys⟩ := F
  obtain ⟨p, e, R, s, m, args, below, meth, c, A, nL, Q⟩ := X
  obtain ⟨hx, hb, hml, hown, hts, hK, hn, hlo, hA, hR, hL9⟩ := cx
  intro H locs ls hP hD hS hl
  refine lv_if_ne hx hb hd ht (fun hc2 => ?_) (fun hc2 => ?_)
  · first | exact k H locs ls hP hD hS hl | exact absurd hc hc2 | exact absurd hc2 hc
  · first | exact k H locs ls hP hD hS hl | exact absurd hc hc2 | exact absurd hc2 hc

theorem zz_icmp_lt_t (cx : zx F X cc own rm ml) {x y : Int32} {off : Int} {tgt : Nat} (hd : decode cc pc = .ok (.if_icmp .lt off, 3)) (ht : (pc : Int) + off = (tgt : Int)) (hc : x < y) (k : zj F X cells slots ws tgt L st) : zj F X cells slots ws pc L (.int y :: .int x :: st) := by
  obtain ⟨l, D, tys⟩ := F
  obtain ⟨p, e, R, s, m, args, below, meth, c, A, nL, Q⟩ := X
  obtain ⟨hx, hb, hml, hown, hts, hK, hn, hlo, hA, hR, hL9⟩ := cx
  exact fun H locs ls hP hD hS hl => lv_icmp_lt hx hb hd ht (fun _ => k H locs ls hP hD hS hl) (fun hc2 => absurd hc hc2)

theorem zz_icmp_lt_f (cx : zx F X cc own rm ml) {x y : Int32} {off : Int} {tgt : Nat} (hd : decode cc pc = .ok (.if_icmp .lt off, 3)) (ht : (pc : Int) + off = (tgt : Int)) (hc : ¬ x < y) (k : zj F X cells slots ws (pc + 3) L st) : zj F X cells slots ws pc L (.int y :: .int x :: st) := by
  obtain ⟨l, D, tys⟩ := F
  obtain ⟨p, e, R, s, m, args, below, meth, c, A, nL, Q⟩ := X
  obtain ⟨hx, hb, hml, hown, hts, hK, hn, hlo, hA, hR, hL9⟩ := cx
  intro H locs ls hP hD hS hl
  refine lv_icmp_lt hx hb hd ht (fun hc2 => ?_) (fun hc2 => ?_)
  · first | exact k H locs ls hP hD hS hl | exact absurd hc hc2 | exact absurd hc2 hc
  · first | exact k H locs ls hP hD hS hl | exact absurd hc hc2 | exact absurd hc2 hc

theorem zz_if_lt_t (cx : zx F X cc own rm ml) {x : Int32} {off : Int} {tgt : Nat} (hd : decode cc pc = .ok (.ifCond .lt off, 3)) (ht : (pc : Int) + off = (tgt : Int)) (hc : x < 0) (k : zj F X cells slots ws tgt L st) : zj F X cells slots ws pc L (.int x :: st) := by
  obtain ⟨l, D, tys⟩ := F
  obtain ⟨p, e, R, s, m, args, below, meth, c, A, nL, Q⟩ := X
  obtain ⟨hx, hb, hml, hown, hts, hK, hn, hlo, hA, hR, hL9⟩ := cx
  exact fun H locs ls hP hD hS hl => lv_if_lt hx hb hd ht (fun _ => k H locs ls hP hD hS hl) (fun hc2 => absurd hc hc2)

theorem zz_if_lt_f (cx : zx F X cc own rm ml) {x : Int32} {off : Int} {tgt : Nat} (hd : decode cc pc = .ok (.ifCond .lt off, 3)) (ht : (pc : Int) + off = (tgt : Int)) (hc : ¬ x < 0) (k : zj F X cells slots ws (pc + 3) L st) : zj F X cells slots ws pc L (.int x :: st) := by
  obtain ⟨l, D, tys⟩ := F
  obtain ⟨p, e, R, s, m, args, below, meth, c, A, nL, Q⟩ := X
  obtain ⟨hx, hb, hml, hown, hts, hK, hn, hlo, hA, hR, hL9⟩ := cx
  intro H locs ls hP hD hS hl
  refine lv_if_lt hx hb hd ht (fun hc2 => ?_) (fun hc2 => ?_)
  · first | exact k H locs ls hP hD hS hl | exact absurd hc hc2 | exact absurd hc2 hc
  · first | exact k H locs ls hP hD hS hl | exact absurd hc hc2 | exact absurd hc2 hc

theorem zz_icmp_ge_t (cx : zx F X cc own rm ml) {x y : Int32} {off : Int} {tgt : Nat} (hd : decode cc pc = .ok (.if_icmp .ge off, 3)) (ht : (pc : Int) + off = (tgt : Int)) (hc : y ≤ x) (k : zj F X cells slots ws tgt L st) : zj F X cells slots ws pc L (.int y :: .int x :: st) := by
  obtain ⟨l, D, tys⟩ := F
  obtain ⟨p, e, R, s, m, args, below, meth, c, A, nL, Q⟩ := X
  obtain ⟨hx, hb, hml, hown, hts, hK, hn, hlo, hA, hR, hL9⟩ := cx
  exact fun H locs ls hP hD hS hl => lv_icmp_ge hx hb hd ht (fun _ => k H locs ls hP hD hS hl) (fun hc2 => absurd hc hc2)

theorem zz_icmp_ge_f (cx : zx F X cc own rm ml) {x y : Int32} {off : Int} {tgt : Nat} (hd : decode cc pc = .ok (.if_icmp .ge off, 3)) (ht : (pc : Int) + off = (tgt : Int)) (hc : ¬ y ≤ x) (k : zj F X cells slots ws (pc + 3) L st) : zj F X cells slots ws pc L (.int y :: .int x :: st) := by
  obtain ⟨l, D, tys⟩ := F
  obtain ⟨p, e, R, s, m, args, below, meth, c, A, nL, Q⟩ := X
  obtain ⟨hx, hb, hml, hown, hts, hK, hn, hlo, hA, hR, hL9⟩ := cx
  intro H locs ls hP hD hS hl
  refine lv_icmp_ge hx hb hd ht (fun hc2 => ?_) (fun hc2 => ?_)
  · first | exact k H locs ls hP hD hS hl | exact absurd hc hc2 | exact absurd hc2 hc
  · first | exact k H locs ls hP hD hS hl | exact absurd hc hc2 | exact absurd hc2 hc

theorem zz_if_ge_t (cx : zx F X cc own rm ml) {x : Int32} {off : Int} {tgt : Nat} (hd : decode cc pc = .ok (.ifCond .ge off, 3)) (ht : (pc : Int) + off = (tgt : Int)) (hc : 0 ≤ x) (k : zj F X cells slots ws tgt L st) : zj F X cells slots ws pc L (.int x :: st) := by
  obtain ⟨l, D, tys⟩ := F
  obtain ⟨p, e, R, s, m, args, below, meth, c, A, nL, Q⟩ := X
  obtain ⟨hx, hb, hml, hown, hts, hK, hn, hlo, hA, hR, hL9⟩ := cx
  exact fun H locs ls hP hD hS hl => lv_if_ge hx hb hd ht (fun _ => k H locs ls hP hD hS hl) (fun hc2 => absurd hc hc2)

theorem zz_if_ge_f (cx : zx F X cc own rm ml) {x : Int32} {off : Int} {tgt : Nat} (hd : decode cc pc = .ok (.ifCond .ge off, 3)) (ht : (pc : Int) + off = (tgt : Int)) (hc : ¬ 0 ≤ x) (k : zj F X cells slots ws (pc + 3) L st) : zj F X cells slots ws pc L (.int x :: st) := by
  obtain ⟨l, D, tys⟩ := F
  obtain ⟨p, e, R, s, m, args, below, meth, c, A, nL, Q⟩ := X
  obtain ⟨hx, hb, hml, hown, hts, hK, hn, hlo, hA, hR, hL9⟩ := cx
  intro H locs ls hP hD hS hl
  refine lv_if_ge hx hb hd ht (fun hc2 => ?_) (fun hc2 => ?_)
  · first | exact k H locs ls hP hD hS hl | exact absurd hc hc2 | exact absurd hc2 hc
  · first | exact k H locs ls hP hD hS hl | exact absurd hc hc2 | exact absurd hc2 hc

theorem zz_icmp_gt_t (cx : zx F X cc own rm ml) {x y : Int32} {off : Int} {tgt : Nat} (hd : decode cc pc = .ok (.if_icmp .gt off, 3)) (ht : (pc : Int) + off = (tgt : Int)) (hc : y < x) (k : zj F X cells slots ws tgt L st) : zj F X cells slots ws pc L (.int y :: .int x :: st) := by
  obtain ⟨l, D, tys⟩ := F
  obtain ⟨p, e, R, s, m, args, below, meth, c, A, nL, Q⟩ := X
  obtain ⟨hx, hb, hml, hown, hts, hK, hn, hlo, hA, hR, hL9⟩ := cx
  exact fun H locs ls hP hD hS hl => lv_icmp_gt hx hb hd ht (fun _ => k H locs ls hP hD hS hl) (fun hc2 => absurd hc hc2)

theorem zz_icmp_gt_f (cx : zx F X cc own rm ml) {x y : Int32} {off : Int} {tgt : Nat} (hd : decode cc pc = .ok (.if_icmp .gt off, 3)) (ht : (pc : Int) + off = (tgt : Int)) (hc : ¬ y < x) (k : zj F X cells slots ws (pc + 3) L st) : zj F X cells slots ws pc L (.int y :: .int x :: st) := by
  obtain ⟨l, D, tys⟩ := F
  obtain ⟨p, e, R, s, m, args, below, meth, c, A, nL, Q⟩ := X
  obtain ⟨hx, hb, hml, hown, hts, hK, hn, hlo, hA, hR, hL9⟩ := cx
  intro H locs ls hP hD hS hl
  refine lv_icmp_gt hx hb hd ht (fun hc2 => ?_) (fun hc2 => ?_)
  · first | exact k H locs ls hP hD hS hl | exact absurd hc hc2 | exact absurd hc2 hc
  · first | exact k H locs ls hP hD hS hl | exact absurd hc hc2 | exact absurd hc2 hc

theorem zz_if_gt_t (cx : zx F X cc own rm ml) {x : Int32} {off : Int} {tgt : Nat} (hd : decode cc pc = .ok (.ifCond .gt off, 3)) (ht : (pc : Int) + off = (tgt : Int)) (hc : 0 < x) (k : zj F X cells slots ws tgt L st) : zj F X cells slots ws pc L (.int x :: st) := by
  obtain ⟨l, D, tys⟩ := F
  obtain ⟨p, e, R, s, m, args, below, meth, c, A, nL, Q⟩ := X
  obtain ⟨hx, hb, hml, hown, hts, hK, hn, hlo, hA, hR, hL9⟩ := cx
  exact fun H locs ls hP hD hS hl => lv_if_gt hx hb hd ht (fun _ => k H locs ls hP hD hS hl) (fun hc2 => absurd hc hc2)

theorem zz_if_gt_f (cx : zx F X cc own rm ml) {x : Int32} {off : Int} {tgt : Nat} (hd : decode cc pc = .ok (.ifCond .gt off, 3)) (ht : (pc : Int) + off = (tgt : Int)) (hc : ¬ 0 < x) (k : zj F X cells slots ws (pc + 3) L st) : zj F X cells slots ws pc L (.int x :: st) := by
  obtain ⟨l, D, tys⟩ := F
  obtain ⟨p, e, R, s, m, args, below, meth, c, A, nL, Q⟩ := X
  obtain ⟨hx, hb, hml, hown, hts, hK, hn, hlo, hA, hR, hL9⟩ := cx
  intro H locs ls hP hD hS hl
  refine lv_if_gt hx hb hd ht (fun hc2 => ?_) (fun hc2 => ?_)
  · first | exact k H locs ls hP hD hS hl | exact absurd hc hc2 | exact absurd hc2 hc
  · first | exact k H locs ls hP hD hS hl | exact absurd hc hc2 | exact absurd hc2 hc

theorem zz_icmp_le_t (cx : zx F X cc own rm ml) {x y : Int32} {off : Int} {tgt : Nat} (hd : decode cc pc = .ok (.if_icmp .le off, 3)) (ht : (pc : Int) + off = (tgt : Int)) (hc : x ≤ y) (k : zj F X cells slots ws tgt L st) : zj F X cells slots ws pc L (.int y :: .int x :: st) := by
  obtain ⟨l, D, tys⟩ := F
  obtain ⟨p, e, R, s, m, args, below, meth, c, A, nL, Q⟩ := X
  obtain ⟨hx, hb, hml, hown, hts, hK, hn, hlo, hA, hR, hL9⟩ := cx
  exact fun H locs ls hP hD hS hl => lv_icmp_le hx hb hd ht (fun _ => k H locs ls hP hD hS hl) (fun hc2 => absurd hc hc2)

theorem zz_icmp_le_f (cx : zx F X cc own rm ml) {x y : Int32} {off : Int} {tgt : Nat} (hd : decode cc pc = .ok (.if_icmp .le off, 3)) (ht : (pc : Int) + off = (tgt : Int)) (hc : ¬ x ≤ y) (k : zj F X cells slots ws (pc + 3) L st) : zj F X cells slots ws pc L (.int y :: .int x :: st) := by
  obtain ⟨l, D, tys⟩ := F
  obtain ⟨p, e, R, s, m, args, below, meth, c, A, nL, Q⟩ := X
  obtain ⟨hx, hb, hml, hown, hts, hK, hn, hlo, hA, hR, hL9⟩ := cx
  intro H locs ls hP hD hS hl
  refine lv_icmp_le hx hb hd ht (fun hc2 => ?_) (fun hc2 => ?_)
  · first | exact k H locs ls hP hD hS hl | exact absurd hc hc2 | exact absurd hc2 hc
  · first | exact k H locs ls hP hD hS hl | exact absurd hc hc2 | exact absurd hc2 hc

theorem zz_if_le_t (cx : zx F X cc own rm ml) {x : Int32} {off : Int} {tgt : Nat} (hd : decode cc pc = .ok (.ifCond .le off, 3)) (ht : (pc : Int) + off = (tgt : Int)) (hc : x ≤ 0) (k : zj F X cells slots ws tgt L st) : zj F X cells slots ws pc L (.int x :: st) := by
  obtain ⟨l, D, tys⟩ := F
  obtain ⟨p, e, R, s, m, args, below, meth, c, A, nL, Q⟩ := X
  obtain ⟨hx, hb, hml, hown, hts, hK, hn, hlo, hA, hR, hL9⟩ := cx
  exact fun H locs ls hP hD hS hl => lv_if_le hx hb hd ht (fun _ => k H locs ls hP hD hS hl) (fun hc2 => absurd hc hc2)

theorem zz_if_le_f (cx : zx F X cc own rm ml) {x : Int32} {off : Int} {tgt : Nat} (hd : decode cc pc = .ok (.ifCond .le off, 3)) (ht : (pc : Int) + off = (tgt : Int)) (hc : ¬ x ≤ 0) (k : zj F X cells slots ws (pc + 3) L st) : zj F X cells slots ws pc L (.int x :: st) := by
  obtain ⟨l, D, tys⟩ := F
  obtain ⟨p, e, R, s, m, args, below, meth, c, A, nL, Q⟩ := X
  obtain ⟨hx, hb, hml, hown, hts, hK, hn, hlo, hA, hR, hL9⟩ := cx
  intro H locs ls hP hD hS hl
  refine lv_if_le hx hb hd ht (fun hc2 => ?_) (fun hc2 => ?_)
  · first | exact k H locs ls hP hD hS hl | exact absurd hc hc2 | exact absurd hc2 hc
  · first | exact k H locs ls hP hD hS hl | exact absurd hc hc2 | exact absurd hc2 hc

theorem zz_get (cx : zx F X cc own rm ml) {C : String} {T : u_T} {N ci index a : Nat} {fs : List Value} {v : Value} (hin : ∀ w ∈ u_ws C T N, w ∈ zt_ws) (hc : vw_Cl[ci]? = some (C, T, N)) (q0 kf : Nat) (he : ws[q0]? = some (a, .inr (ci, fs))) (hk : kf < N) (hlink : Cond.fieldLink own index (T kf).1 (T kf).2.1 (T kf).2.2.1 ∈ zt_ws) (hv : fs[kf]? = some v) (hd : decode cc pc = .ok (.getfield index, 3)) (k : zj F X cells slots ws (pc + 3) L (v :: st)) : zj F X cells slots ws pc L (.ref a :: st) := by
  obtain ⟨l, D, tys⟩ := F
  obtain ⟨p, e, R, s, m, args, below, meth, c, A, nL, Q⟩ := X
  obtain ⟨hx, hb, hml, hown, hts, hK, hn, hlo, hA, hR, hL9⟩ := cx
  exact fun H locs ls hP hD hS hl => va_get (D := D) hx hb hts hin hown hK hP q0 he hc kf hk (hts _ hlink) (fun _ h9 => h9) hv hd (k H locs ls hP hD hS hl)

theorem zz_put (cx : zx F X cc own rm ml) {C : String} {T : u_T} {N ci index a : Nat} {fs : List Value} {v : Value} {ws2 : va_W} (hin : ∀ w ∈ u_ws C T N, w ∈ zt_ws) {ty0 : Nat → FieldType} (hty : ∀ k, k < N → parseFieldDescriptor (T k).2.2.1 = some (ty0 k)) (hnm : ∀ a, a < N → ∀ b, b < N → a ≠ b → (T a).2.1 ≠ (T b).2.1) (hc : vw_Cl[ci]? = some (C, T, N)) (q0 kf : Nat) (he : ws[q0]? = some (a, .inr (ci, fs))) (hk : kf < N) (hlink : Cond.fieldLink own index (T kf).1 (T kf).2.1 (T kf).2.2.1 ∈ zt_ws) (hfin : (T kf).2.2.2 = false) {ty : FieldType} (hpd : parseFieldDescriptor (T kf).2.2.1 = some ty) (hnr : narrow ty v = v) (hfit : fits ty v = true) (hlen : kf < fs.length) (hw : ws.set q0 (a, .inr (ci, fs.set kf v)) = ws2) (hd : decode cc pc = .ok (.putfield index, 3)) (k : zj F X cells slots ws2 (pc + 3) L st) : zj F X cells slots ws pc L (v :: .ref a :: st) := by
  obtain ⟨l, D, tys⟩ := F
  obtain ⟨p, e, R, s, m, args, below, meth, c, A, nL, Q⟩ := X
  obtain ⟨hx, hb, hml, hown, hts, hK, hn, hlo, hA, hR, hL9⟩ := cx
  subst hw
  exact fun H locs ls hP hD hS hl => va_put (D := D) hx hb hts hin ty0 hty hnm hown hK hP hD hS q0 he hc kf hk (hts _ hlink) (fun _ h9 => h9) hfin hpd hnr hfit hlen hd (fun H1 locs1 hP1 hD1 hS1 => k H1 locs1 ls hP1 hD1 hS1 hl)

theorem zz_getN (cx : zx F X cc own rm ml) {C : String} {T : u_T} {N ci index a : Nat} {fs : List Value} {v : Value} (hin : ∀ w ∈ u_ws C T N, w ∈ zt_ws) (hc : vw_Cl[ci]? = some (C, T, N)) (q0 kf : Nat) (he : ws[q0]? = some (a, .inr (ci, fs))) (hk : kf < N) {host : String} (hlink : Cond.fieldLinkNest own index (T kf).1 (T kf).2.1 (T kf).2.2.1 host ∈ zn_ws) (hv : fs[kf]? = some v) (hd : decode cc pc = .ok (.getfield index, 3)) (k : zj F X cells slots ws (pc + 3) L (v :: st)) : zj F X cells slots ws pc L (.ref a :: st) := by
  obtain ⟨l, D, tys⟩ := F
  obtain ⟨p, e, R, s, m, args, below, meth, c, A, nL, Q⟩ := X
  obtain ⟨hx, hb, hml, hown, hts, hK, hn, hlo, hA, hR, hL9⟩ := cx
  exact fun H locs ls hP hD hS hl => va_getN (D := D) hx hb hts hin hown hK hP q0 he hc kf hk (va_Nw.use rfl (hn _ hlink)) (fun _ h9 => h9) hv hd (k H locs ls hP hD hS hl)

theorem zz_putN (cx : zx F X cc own rm ml) {C : String} {T : u_T} {N ci index a : Nat} {fs : List Value} {v : Value} {ws2 : va_W} (hin : ∀ w ∈ u_ws C T N, w ∈ zt_ws) {ty0 : Nat → FieldType} (hty : ∀ k, k < N → parseFieldDescriptor (T k).2.2.1 = some (ty0 k)) (hnm : ∀ a, a < N → ∀ b, b < N → a ≠ b → (T a).2.1 ≠ (T b).2.1) (hc : vw_Cl[ci]? = some (C, T, N)) (q0 kf : Nat) (he : ws[q0]? = some (a, .inr (ci, fs))) (hk : kf < N) {host : String} (hlink : Cond.fieldLinkNest own index (T kf).1 (T kf).2.1 (T kf).2.2.1 host ∈ zn_ws) (hfin : (T kf).2.2.2 = false) {ty : FieldType} (hpd : parseFieldDescriptor (T kf).2.2.1 = some ty) (hnr : narrow ty v = v) (hfit : fits ty v = true) (hlen : kf < fs.length) (hw : ws.set q0 (a, .inr (ci, fs.set kf v)) = ws2) (hd : decode cc pc = .ok (.putfield index, 3)) (k : zj F X cells slots ws2 (pc + 3) L st) : zj F X cells slots ws pc L (v :: .ref a :: st) := by
  obtain ⟨l, D, tys⟩ := F
  obtain ⟨p, e, R, s, m, args, below, meth, c, A, nL, Q⟩ := X
  obtain ⟨hx, hb, hml, hown, hts, hK, hn, hlo, hA, hR, hL9⟩ := cx
  subst hw
  exact fun H locs ls hP hD hS hl => va_putN (D := D) hx hb hts hin ty0 hty hnm hown hK hP hD hS q0 he hc kf hk (va_Nw.use rfl (hn _ hlink)) (fun _ h9 => h9) hfin hpd hnr hfit hlen hd (fun H1 locs1 hP1 hD1 hS1 => k H1 locs1 ls hP1 hD1 hS1 hl)

theorem zz_iald (cx : zx F X cc own rm ml) {α : Type} {t : Option α} {r : α} {cA n a : Nat} {f : Nat → Int32} {i v : Int32} (q0 t0 : Nat) (ha : ws[q0]? = some (a, .inl (cA, n, .inl f))) (ht : F.2.2[t0]? = some (cA, .int)) (h : gs_ck i n t = some r) (hv : f i.toNatClampNeg = v) (hd : decode cc pc = .ok (.iaload, 1)) (k : t = some r → zj F X cells slots ws (pc + 1) L (.int v :: st)) : zj F X cells slots ws pc L (.int i :: .ref a :: st) := by
  obtain ⟨hin, h⟩ := gs_ck_some h
  have k := k h
  subst hv
  obtain ⟨l, D, tys⟩ := F
  obtain ⟨p, e, R, s, m, args, below, meth, c, A, nL, Q⟩ := X
  obtain ⟨hx, hb, hml, hown, hts, hK, hn, hlo, hA, hR, hL9⟩ := cx
  exact fun H locs ls hP hD hS hl => va_iald (D := D) hx hb hK hP q0 t0 ha ht hin hd (k H locs ls hP hD hS hl)

theorem zz_zald (cx : zx F X cc own rm ml) {α : Type} {t : Option α} {r : α} {cA n a : Nat} {f : Nat → Int32} {i v : Int32} (q0 t0 : Nat) (ha : ws[q0]? = some (a, .inl (cA, n, .inl f))) (ht : F.2.2[t0]? = some (cA, .boolean)) (h : gs_ck i n t = some r) (hv : f i.toNatClampNeg = v) (hd : decode cc pc = .ok (.baload, 1)) (k : t = some r → zj F X cells slots ws (pc + 1) L (.int v :: st)) : zj F X cells slots ws pc L (.int i :: .ref a :: st) := by
  obtain ⟨hin, h⟩ := gs_ck_some h
  have k := k h
  subst hv
  obtain ⟨l, D, tys⟩ := F
  obtain ⟨p, e, R, s, m, args, below, meth, c, A, nL, Q⟩ := X
  obtain ⟨hx, hb, hml, hown, hts, hK, hn, hlo, hA, hR, hL9⟩ := cx
  exact fun H locs ls hP hD hS hl => va_zald (D := D) hx hb hK hP q0 t0 ha ht hin hd (k H locs ls hP hD hS hl)

theorem zz_iast (cx : zx F X cc own rm ml) {α : Type} {t : Option α} {r : α} {cA n a : Nat} {f : Nat → Int32} {i x : Int32} {ws2 : va_W} (q0 t0 : Nat) (ha : ws[q0]? = some (a, .inl (cA, n, .inl f))) (ht : F.2.2[t0]? = some (cA, .int)) (h : gs_ck i n t = some r) (hw : ws.set q0 (a, .inl (cA, n, .inl (upd f i.toNatClampNeg x))) = ws2) (hd : decode cc pc = .ok (.iastore, 1)) (k : t = some r → zj F X cells slots ws2 (pc + 1) L st) : zj F X cells slots ws pc L (.int x :: .int i :: .ref a :: st) := by
  obtain ⟨hin, h⟩ := gs_ck_some h
  have k := k h
  subst hw
  obtain ⟨l, D, tys⟩ := F
  obtain ⟨p, e, R, s, m, args, below, meth, c, A, nL, Q⟩ := X
  obtain ⟨hx, hb, hml, hown, hts, hK, hn, hlo, hA, hR, hL9⟩ := cx
  exact fun H locs ls hP hD hS hl => va_iast (D := D) hx hb hK hP hD hS q0 t0 ha ht hin hd (fun H1 locs1 hP1 hD1 hS1 => k H1 locs1 ls hP1 hD1 hS1 hl)

theorem zz_zast (cx : zx F X cc own rm ml) {α : Type} {t : Option α} {r : α} {cA n a : Nat} {f : Nat → Int32} {i x : Int32} {ws2 : va_W} (q0 t0 : Nat) (ha : ws[q0]? = some (a, .inl (cA, n, .inl f))) (ht : F.2.2[t0]? = some (cA, .boolean)) (h : gs_ck i n t = some r) (hw : ws.set q0 (a, .inl (cA, n, .inl (upd f i.toNatClampNeg (vp_nar .boolean x)))) = ws2) (hd : decode cc pc = .ok (.bastore, 1)) (k : t = some r → zj F X cells slots ws2 (pc + 1) L st) : zj F X cells slots ws pc L (.int x :: .int i :: .ref a :: st) := by
  obtain ⟨hin, h⟩ := gs_ck_some h
  have k := k h
  subst hw
  obtain ⟨l, D, tys⟩ := F
  obtain ⟨p, e, R, s, m, args, below, meth, c, A, nL, Q⟩ := X
  obtain ⟨hx, hb, hml, hown, hts, hK, hn, hlo, hA, hR, hL9⟩ := cx
  exact fun H locs ls hP hD hS hl => va_zast (D := D) hx hb hK hP hD hS q0 t0 ha ht hin hd (fun H1 locs1 hP1 hD1 hS1 => k H1 locs1 ls hP1 hD1 hS1 hl)

theorem zz_alen (cx : zx F X cc own rm ml) {cA a : Nat} {x : vp_A} {ty : FieldType} {v : Int32} (q0 t0 : Nat) (ha : ws[q0]? = some (a, .inl (cA, x))) (ht : F.2.2[t0]? = some (cA, ty)) (hv : Int32.ofNat x.1 = v) (hd : decode cc pc = .ok (.arraylength, 1)) (k : zj F X cells slots ws (pc + 1) L (.int v :: st)) : zj F X cells slots ws pc L (.ref a :: st) := by
  obtain ⟨l, D, tys⟩ := F
  obtain ⟨p, e, R, s, m, args, below, meth, c, A, nL, Q⟩ := X
  obtain ⟨hx, hb, hml, hown, hts, hK, hn, hlo, hA, hR, hL9⟩ := cx
  exact fun H locs ls hP hD hS hl => va_alen (D := D) hx hb hK hP q0 t0 ha ht hv hd (k H locs ls hP hD hS hl)
/-- fewer locals -/
theorem zz_less {L2 : List (Option Value)} (hl : lz_le L2 L) (k : zj F X cells slots ws pc L2 st) : zj F X cells slots ws pc L st := by
  obtain ⟨l, D, tys⟩ := F
  obtain ⟨p, e, R, s, m, args, below, meth, c, A, nL, Q⟩ := X
  exact fun H locs ls hP hD hS h => k H locs ls hP hD hS (lz_drop h (lz_le_at hl))
theorem zz_wid {c2 s2 : Nat} (h1 : cells ≤ c2) (h2 : slots ≤ s2) (k : zj F X c2 s2 ws pc L st) : zj F X cells slots ws pc L st := by
  obtain ⟨l, D, tys⟩ := F
  obtain ⟨p, e, R, s, m, args, below, meth, c, A, nL, Q⟩ := X
  exact fun H locs ls hP hD hS h => W.widen h1 h2 (k H locs ls hP hD hS h)
end ZR
/-! ===== contracts ===== -/
def zc_pre (F : zf_T) (w1 : va_W) (sz : Nat) (U : State) : Prop := U.heap.size = sz ∧ va_P F.2.1 vw_Cl w1 U.heap ∧ va_K F.2.1 vw_Cl F.2.2 U ∧ va_D (fun _ => True) w1 ∧ zn_ok U
/-- an int (or boolean) comes back, the world w1 becomes w2 -/
def zc_i (F : zf_T) (w1 w2 : va_W) (y : MethodName) (cc : ByteArray) (maxL : Nat) (rt : FieldType) (rm : Room) (as : List Value) (r : Int32) : Prop :=
  ∀ sz : Nat, Met F.1 y (Cond.code y cc maxL (some rt) :: zt_ws) rm (va_Pc as (zc_pre F w1 sz)) (va_Qi (fun r' (_ : Unit) => r' = r) (fun _ t => va_P F.2.1 vw_Cl w2 t.heap) (va_A w1 sz)) rm.cells rm.slots (va_A w1 sz)
def zc_v (F : zf_T) (w1 w2 : va_W) (y : MethodName) (cc : ByteArray) (maxL : Nat) (rm : Room) (as : List Value) : Prop :=
  ∀ sz : Nat, Met F.1 y (Cond.code y cc maxL none :: zt_ws) rm (va_Pc as (zc_pre F w1 sz)) (va_Qv (fun (_ : Unit) => True) (fun _ t => va_P F.2.1 vw_Cl w2 t.heap) (va_A w1 sz)) rm.cells rm.slots (va_A w1 sz)
def zq_i (F : zf_T) (X : zx_T) (w2 : va_W) (rt : FieldType) (r : Int32) : Prop :=
  match F, X with
  | (_, D, _), (_, _, R, s, _, args, below, meth, _, A, _, Q) => meth.sig.returnType = some rt ∧ Q = MQ below (va_Qi (fun r' (_ : Unit) => r' = r) (fun _ t => va_P D vw_Cl w2 t.heap) A) args s R.cells R.slots A
def zq_v (F : zf_T) (X : zx_T) (w2 : va_W) : Prop :=
  match F, X with
  | (_, D, _), (_, _, R, s, _, args, below, meth, _, A, _, Q) => meth.sig.returnType = none ∧ Q = MQ below (va_Qv (fun (_ : Unit) => True) (fun _ t => va_P D vw_Cl w2 t.heap) A) args s R.cells R.slots A
section ZC
variable {F : zf_T} {X : zx_T} {cc : ByteArray} {own : String} {rm : Room} {cells slots pc ml : Nat} {ws : va_W} {L : List (Option Value)} {st : List Value}
theorem zz_iret (cx : zx F X cc own rm ml) {r : Int32} (cq : zq_i F X ws .int r) (h1 : cells ≤ rm.cells) (h2 : slots ≤ rm.slots) (hd : decode cc pc = .ok (.ireturn, 1)) : zj F X cells slots ws pc L [.int r] := by
  obtain ⟨l, D, tys⟩ := F
  obtain ⟨p, e, R, s, m, args, below, meth, c, A, nL, Q⟩ := X
  obtain ⟨hx, hb, hml, hown, hts, hK, hn, hlo, hA, hR, hL9⟩ := cx
  obtain ⟨hr, hq⟩ := cq
  subst hR; subst hq
  exact fun H locs ls hP hD hS hl => W.widen h1 h2 (W.iret hx hb hr (fun t ht hW => ⟨⟨_, (), rfl, rfl, by rw [ht]; exact hP⟩, hS.F ht⟩) hS.2.2 hd hlo)
theorem zz_zret (cx : zx F X cc own rm ml) {r : Int32} (cq : zq_i F X ws .boolean r) (hz : narrow .boolean (.int r) = .int r) (h1 : cells ≤ rm.cells) (h2 : slots ≤ rm.slots) (hd : decode cc pc = .ok (.ireturn, 1)) : zj F X cells slots ws pc L [.int r] := by
  obtain ⟨l, D, tys⟩ := F
  obtain ⟨p, e, R, s, m, args, below, meth, c, A, nL, Q⟩ := X
  obtain ⟨hx, hb, hml, hown, hts, hK, hn, hlo, hA, hR, hL9⟩ := cx
  obtain ⟨hr, hq⟩ := cq
  subst hR; subst hq
  exact fun H locs ls hP hD hS hl => W.widen h1 h2 (W.zret hx hb hr hz (fun t ht hW => ⟨⟨_, (), rfl, rfl, by rw [ht]; exact hP⟩, hS.F ht⟩) hS.2.2 hd hlo)
theorem zz_vret (cx : zx F X cc own rm ml) (cq : zq_v F X ws) (h1 : cells ≤ rm.cells) (h2 : slots ≤ rm.slots) (hd : decode cc pc = .ok (.return_, 1)) : zj F X cells slots ws pc L [] := by
  obtain ⟨l, D, tys⟩ := F
  obtain ⟨p, e, R, s, m, args, below, meth, c, A, nL, Q⟩ := X
  obtain ⟨hx, hb, hml, hown, hts, hK, hn, hlo, hA, hR, hL9⟩ := cx
  obtain ⟨hr, hq⟩ := cq
  subst hR; subst hq
  exact fun H locs ls hP hD hS hl => W.widen h1 h2 (W.vret hx hb hr (fun t ht hW => ⟨⟨(), rfl, trivial, by rw [ht]; exact hP⟩, hS.F ht⟩) hS.2.2 hd hlo)
end ZC

theorem lz_sl (as : List Value) (hc : as.all (fun v => v.category == 1) = true) : lg_sl as = as.map Slot.val := by
  induction as with
  | nil => rfl
  | cons a t ih =>
    rw [List.all_cons, Bool.and_eq_true] at hc
    have h1 : a.category = 1 := by simpa using hc.1
    have ih := ih hc.2
    unfold lg_sl at ih ⊢
    rw [List.flatMap_cons, ih, if_neg (by omega)]
    rfl
theorem lz_args_has (as : List Value) (n : Nat) (hc : as.all (fun v => v.category == 1) = true) (h : as.length ≤ n) : lz_has ((lg_sl as ++ List.replicate (n - (lg_sl as).length) Slot.unset).toArray) n (as.map some ++ List.replicate (n - as.length) none) := by
  have hs := lz_sl as hc
  have hl : (lg_sl as).length = as.length := by rw [hs, List.length_map]
  have e := lv_entry as (n := n) (by rw [hl]; exact h)
  refine ⟨e.1, e.2.1, fun i v hi => ?_⟩
  by_cases hia : i < as.length
  · rw [List.getElem?_append_left (by rw [List.length_map]; exact hia), List.getElem?_map] at hi
    rw [hs, List.getElem?_toArray, List.getElem?_append_left (by rw [List.length_map]; exact hia), List.getElem?_map]
    cases ha : as[i]? with
    | none => rw [ha] at hi; cases hi
    | some w =>
      rw [ha] at hi
      have hwv : w = v := by simpa using hi
      subst hwv
      rfl
  · rw [List.getElem?_append_right (by rw [List.length_map]; omega)] at hi
    have hm := List.mem_of_getElem? hi
    rw [List.mem_replicate] at hm
    cases hm.2
theorem zc_i_of {F : zf_T} {w1 w2 : va_W} {y : MethodName} {cc : ByteArray} {maxL : Nat} {rt : FieldType} {rm : Room} {as : List Value} {r : Int32} (hy : plainName y.cls = true) (hc : as.all (fun v => v.category == 1) = true) (hl : as.length ≤ maxL)
    (body : ∀ X : zx_T, zx F X cc y.cls rm maxL → zq_i F X w2 rt r → zj F X 0 0 w1 0 (as.map some ++ List.replicate (maxL - as.length) none) []) : zc_i F w1 w2 y cc maxL rt rm as r := by
  obtain ⟨l, D, tys⟩ := F
  intro sz
  refine Met.ofW (cc := cc) (maxL := maxL) (ret := some rt) hy rfl ?_
  intro p e s m args below meth c s₁ B hml hv
  obtain ⟨rfl, hsz, hP, hK, hD0, hn⟩ := hv
  have hts := atoms_spec (ws := Cond.code y cc maxL (some rt) :: zt_ws) B.pre
  subst hsz
  have hD := hD0.self (sz := s.heap.size)
  rw [lg_entry_eq]
  exact body (p, e, _, s, m, as.toArray, below, meth, c, va_A w1 s.heap.size, maxL, _) ⟨B.exec, B.bytes, hml, findClass_of_methodNamed B.named, fun w hw => hts w (List.mem_cons_of_mem _ hw), hK, hn, B.notSynchronized, fun q h => Or.inr h, rfl, rfl⟩ ⟨B.returns, rfl⟩ s.heap [] _ hP hD va_S.rf (lz_args_has as maxL hc hl)
theorem zc_v_of {F : zf_T} {w1 w2 : va_W} {y : MethodName} {cc : ByteArray} {maxL : Nat} {rm : Room} {as : List Value} (hy : plainName y.cls = true) (hc : as.all (fun v => v.category == 1) = true) (hl : as.length ≤ maxL)
    (body : ∀ X : zx_T, zx F X cc y.cls rm maxL → zq_v F X w2 → zj F X 0 0 w1 0 (as.map some ++ List.replicate (maxL - as.length) none) []) : zc_v F w1 w2 y cc maxL rm as := by
  obtain ⟨l, D, tys⟩ := F
  intro sz
  refine Met.ofW (cc := cc) (maxL := maxL) (ret := none) hy rfl ?_
  intro p e s m args below meth c s₁ B hml hv
  obtain ⟨rfl, hsz, hP, hK, hD0, hn⟩ := hv
  have hts := atoms_spec (ws := Cond.code y cc maxL none :: zt_ws) B.pre
  subst hsz
  have hD := hD0.self (sz := s.heap.size)
  rw [lg_entry_eq]
  exact body (p, e, _, s, m, as.toArray, below, meth, c, va_A w1 s.heap.size, maxL, _) ⟨B.exec, B.bytes, hml, findClass_of_methodNamed B.named, fun w hw => hts w (List.mem_cons_of_mem _ hw), hK, hn, B.notSynchronized, fun q h => Or.inr h, rfl, rfl⟩ ⟨B.returns, rfl⟩ s.heap [] _ hP hD va_S.rf (lz_args_has as maxL hc hl)
/-! ===== calls: the callee's world is the whole world ===== -/
theorem za_addr {A : Nat → Prop} {w1 w2 : va_W} (he : w2.map Prod.fst = w1.map Prod.fst) (hD : va_D A w1) : va_D A w2 := by
  have key : ∀ (k : Nat) (q : Nat × va_E), w2[k]? = some q → ∃ q0, w1[k]? = some q0 ∧ q0.1 = q.1 := by
    intro k q hk
    have h1 : (w2.map Prod.fst)[k]? = some q.1 := by rw [List.getElem?_map, hk]; rfl
    rw [he, List.getElem?_map] at h1
    cases h2 : w1[k]? with
    | none => rw [h2] at h1; cases h1
    | some q0 => rw [h2] at h1; exact ⟨q0, rfl, Option.some.inj h1⟩
  refine ⟨fun i j x y hi hj hxy => ?_, fun k q hk => ?_⟩
  · obtain ⟨x0, a1, a2⟩ := key i x hi
    obtain ⟨y0, b1, b2⟩ := key j y hj
    exact hD.1 i j x0 y0 a1 b1 (a2.trans (hxy.trans b2.symm))
  · obtain ⟨q0, a1, a2⟩ := key k q hk
    rw [← a2]
    exact hD.2 k q0 a1
theorem za_free {A : Nat → Prop} {ws : va_W} {H0 H : Heap} {locs : List Loc} (hD : va_D A ws) (hS : va_S A H0 H locs) (hA : ∀ q, H0.size ≤ q → A q) : ∀ q, va_A ws H.size q → A q := by
  intro q h
  rcases h with ⟨k, e, h⟩ | h
  · exact hD.2 k (q, e) h
  · exact hA q (Nat.le_trans hS.1 h)
theorem zc_blind {F : zf_T} {w1 : va_W} {sz : Nat} {as : List Value} : FrameBlind (va_Pc as (zc_pre F w1 sz)) := by
  intro a U g mk q
  obtain ⟨q0, q1, qP, qK, qD, qn⟩ := q
  exact ⟨q0, q1, qP, va_K.moved (u := U) (U := U.calling g mk a) (Vm.Alike.refl U.vm) qK, qD, zn_same (s := U) (U := U.calling g mk a) rfl qn⟩
theorem zt_gi {w : List Cond} (h : ∀ x ∈ w, x ∈ zt_ws) : GoodIn zt_ws w := fun x hx => ⟨h x hx, good_of_word (List.all_eq_true.mp zt_good x (h x hx))⟩
/-- a method's own words -/
def zw_m (y : MethodName) (cb : ByteArray) (maxL : Nat) (ret : Option FieldType) (n : Nat) : Prop := Cond.initialized y.cls ∈ zt_ws ∧ Cond.code y cb maxL ret ∈ zt_ws ∧ y.cls ≠ "java/lang/invoke/MethodHandle" ∧ y.cls ≠ "java/lang/invoke/VarHandle" ∧ (parseMethodDescriptor y.desc).map (fun d => d.parameters.length) = some n
def zw_v (y : MethodName) : Prop := Cond.instanceMethod y ∈ zt_ws ∧ Cond.selects y.cls y y ∈ zt_ws
section ZD
variable {F : zf_T} {X : zx_T} {cc : ByteArray} {own : String} {rm : Room} {cells slots pc ml : Nat} {ws : va_W} {L : List (Option Value)}

theorem zz_callVi (cx : zx F X cc own rm ml) {w2 : va_W} {y : MethodName} {cb : ByteArray} {maxL n index b : Nat} {ty : FieldType} {rm2 : Room} {As rest : List Value} {r : Int32} (hM : zc_i F ws w2 y cb maxL ty rm2 (.ref b :: As) r) (hwm : zw_m y cb maxL (some ty) n) (hl : Cond.methodLink own index y ∈ zt_ws) (hwv : zw_v y) (q0 : Nat) {ci N : Nat} {T : u_T} {fs : List Value} (hq0 : ws[q0]? = some (b, .inr (ci, fs))) (hci : vw_Cl[ci]? = some (y.cls, T, N)) (hrm : rm2.frames + 1 ≤ rm.frames ∧ 8 + (maxL + 11) + rm2.locals ≤ rm.locals) (hln : As.length = n) (hrest : (rest.map fun v => v.category).sum ≤ 8) {c2 s2 : Nat} (hc2 : cells + rm2.cells = c2) (hs2 : slots + rm2.slots = s2) (hf : c2 ≤ rm.cells ∧ s2 ≤ rm.slots) (had : w2.map Prod.fst = ws.map Prod.fst) (hd : decode cc pc = .ok (.invokevirtual index, 3)) (k : zj F X c2 s2 w2 (pc + 3) L (.int r :: rest)) : zj F X cells slots ws pc L (As.reverse ++ .ref b :: rest) := by
  have zg : ∀ w ∈ wsV own index y.cls y (Cond.code y cb maxL (some ty) :: zt_ws), w ∈ zt_ws := by
    intro w hw
    unfold wsV at hw
    simp only [List.cons_append, List.nil_append, List.mem_cons] at hw
    rcases hw with rfl | rfl | rfl | rfl | rfl | hw
    · exact hl
    · exact hwv.1
    · exact hwv.2
    · exact hwm.1
    · exact hwm.2.1
    · exact hw
  obtain ⟨l, D, tys⟩ := F
  obtain ⟨p, e, R, s, m, args, below, meth, c, A, nL, Q⟩ := X
  obtain ⟨hx, hb, hml, hown, hts, hK, hn, hlo, hA, hR, hL9⟩ := cx
  subst hR; subst hc2; subst hs2
  intro H locs ls hP hD hS hl1
  have hFc := za_free hD hS hA
  exact va_calli (va_runV (As := As) (rest := rest) ⟨hx, hb, hml, hown, hts⟩ (hM H.size) (cwV n hts (zt_gi zg) rfl rfl rfl ⟨rfl, hwm.2.2⟩ hrm) ⟨zc_blind, va_recv hK hP hci hq0, fun U hU hW => ⟨rfl, by rw [hU], by rw [hU]; exact hP, va_K.moved hW.alike hK, hD.weaken (fun _ _ _ _ => trivial), zn_warm hW hn⟩⟩ rfl hln hl1.1 rfl (lv_room hrest) hd hf) hS (fun q _ h => hFc q h) hFc (fun r_ u t H1 locs1 ht hvm hw hB hz1 hk1 hS1 => by subst hw; exact k H1 locs1 ls (by rw [← ht]; exact hB) (za_addr had hD) hS1 hl1)

theorem zz_callVv (cx : zx F X cc own rm ml) {w2 : va_W} {y : MethodName} {cb : ByteArray} {maxL n index b : Nat} {rm2 : Room} {As rest : List Value} (hM : zc_v F ws w2 y cb maxL rm2 (.ref b :: As)) (hwm : zw_m y cb maxL none n) (hl : Cond.methodLink own index y ∈ zt_ws) (hwv : zw_v y) (q0 : Nat) {ci N : Nat} {T : u_T} {fs : List Value} (hq0 : ws[q0]? = some (b, .inr (ci, fs))) (hci : vw_Cl[ci]? = some (y.cls, T, N)) (hrm : rm2.frames + 1 ≤ rm.frames ∧ 8 + (maxL + 11) + rm2.locals ≤ rm.locals) (hln : As.length = n) (hrest : (rest.map fun v => v.category).sum ≤ 8) {c2 s2 : Nat} (hc2 : cells + rm2.cells = c2) (hs2 : slots + rm2.slots = s2) (hf : c2 ≤ rm.cells ∧ s2 ≤ rm.slots) (had : w2.map Prod.fst = ws.map Prod.fst) (hd : decode cc pc = .ok (.invokevirtual index, 3)) (k : zj F X c2 s2 w2 (pc + 3) L rest) : zj F X cells slots ws pc L (As.reverse ++ .ref b :: rest) := by
  have zg : ∀ w ∈ wsV own index y.cls y (Cond.code y cb maxL none :: zt_ws), w ∈ zt_ws := by
    intro w hw
    unfold wsV at hw
    simp only [List.cons_append, List.nil_append, List.mem_cons] at hw
    rcases hw with rfl | rfl | rfl | rfl | rfl | hw
    · exact hl
    · exact hwv.1
    · exact hwv.2
    · exact hwm.1
    · exact hwm.2.1
    · exact hw
  obtain ⟨l, D, tys⟩ := F
  obtain ⟨p, e, R, s, m, args, below, meth, c, A, nL, Q⟩ := X
  obtain ⟨hx, hb, hml, hown, hts, hK, hn, hlo, hA, hR, hL9⟩ := cx
  subst hR; subst hc2; subst hs2
  intro H locs ls hP hD hS hl1
  have hFc := za_free hD hS hA
  exact va_callv (va_runV (As := As) (rest := rest) ⟨hx, hb, hml, hown, hts⟩ (hM H.size) (cwV n hts (zt_gi zg) rfl rfl rfl ⟨rfl, hwm.2.2⟩ hrm) ⟨zc_blind, va_recv hK hP hci hq0, fun U hU hW => ⟨rfl, by rw [hU], by rw [hU]; exact hP, va_K.moved hW.alike hK, hD.weaken (fun _ _ _ _ => trivial), zn_warm hW hn⟩⟩ rfl hln hl1.1 rfl (lv_room hrest) hd hf) hS (fun q _ h => hFc q h) hFc (fun u t H1 locs1 ht hvm hw hB hz1 hk1 hS1 => k H1 locs1 ls (by rw [← ht]; exact hB) (za_addr had hD) hS1 hl1)

theorem zz_callVNi (cx : zx F X cc own rm ml) {w2 : va_W} {y : MethodName} {cb : ByteArray} {maxL n index b : Nat} {ty : FieldType} {rm2 : Room} {As rest : List Value} {r : Int32} (hM : zc_i F ws w2 y cb maxL ty rm2 (.ref b :: As) r) (hwm : zw_m y cb maxL (some ty) n) {host : String} (hl : Cond.methodLinkNest own index y host ∈ zn_ws) (hwv : zw_v y) (q0 : Nat) {ci N : Nat} {T : u_T} {fs : List Value} (hq0 : ws[q0]? = some (b, .inr (ci, fs))) (hci : vw_Cl[ci]? = some (y.cls, T, N)) (hrm : rm2.frames + 1 ≤ rm.frames ∧ 8 + (maxL + 11) + rm2.locals ≤ rm.locals) (hln : As.length = n) (hrest : (rest.map fun v => v.category).sum ≤ 8) {c2 s2 : Nat} (hc2 : cells + rm2.cells = c2) (hs2 : slots + rm2.slots = s2) (hf : c2 ≤ rm.cells ∧ s2 ≤ rm.slots) (had : w2.map Prod.fst = ws.map Prod.fst) (hd : decode cc pc = .ok (.invokevirtual index, 3)) (k : zj F X c2 s2 w2 (pc + 3) L (.int r :: rest)) : zj F X cells slots ws pc L (As.reverse ++ .ref b :: rest) := by
  have zg : ∀ w ∈ (Cond.code y cb maxL (some ty) :: zt_ws), w ∈ zt_ws := by
    intro w hw
    rcases List.mem_cons.mp hw with rfl | hw
    · exact hwm.2.1
    · exact hw
  obtain ⟨l, D, tys⟩ := F
  obtain ⟨p, e, R, s, m, args, below, meth, c, A, nL, Q⟩ := X
  obtain ⟨hx, hb, hml, hown, hts, hK, hn, hlo, hA, hR, hL9⟩ := cx
  subst hR; subst hc2; subst hs2
  intro H locs ls hP hD hS hl1
  have hFc := za_free hD hS hA
  exact va_calli (va_runVN (As := As) (rest := rest) ⟨hx, hb, hml, hown, hts⟩ (hM H.size) ⟨va_cnB n hts (zt_gi zg) rfl rfl rfl (hn _ hl) (hts _ hwm.1) hwm.2.2 hrm, hts _ hwv.1, hts _ hwv.2⟩ ⟨zc_blind, va_recv hK hP hci hq0, fun U hU hW => ⟨rfl, by rw [hU], by rw [hU]; exact hP, va_K.moved hW.alike hK, hD.weaken (fun _ _ _ _ => trivial), zn_warm hW hn⟩⟩ rfl hln hl1.1 rfl (lv_room hrest) hd hf) hS (fun q _ h => hFc q h) hFc (fun r_ u t H1 locs1 ht hvm hw hB hz1 hk1 hS1 => by subst hw; exact k H1 locs1 ls (by rw [← ht]; exact hB) (za_addr had hD) hS1 hl1)

theorem zz_callVNv (cx : zx F X cc own rm ml) {w2 : va_W} {y : MethodName} {cb : ByteArray} {maxL n index b : Nat} {rm2 : Room} {As rest : List Value} (hM : zc_v F ws w2 y cb maxL rm2 (.ref b :: As)) (hwm : zw_m y cb maxL none n) {host : String} (hl : Cond.methodLinkNest own index y host ∈ zn_ws) (hwv : zw_v y) (q0 : Nat) {ci N : Nat} {T : u_T} {fs : List Value} (hq0 : ws[q0]? = some (b, .inr (ci, fs))) (hci : vw_Cl[ci]? = some (y.cls, T, N)) (hrm : rm2.frames + 1 ≤ rm.frames ∧ 8 + (maxL + 11) + rm2.locals ≤ rm.locals) (hln : As.length = n) (hrest : (rest.map fun v => v.category).sum ≤ 8) {c2 s2 : Nat} (hc2 : cells + rm2.cells = c2) (hs2 : slots + rm2.slots = s2) (hf : c2 ≤ rm.cells ∧ s2 ≤ rm.slots) (had : w2.map Prod.fst = ws.map Prod.fst) (hd : decode cc pc = .ok (.invokevirtual index, 3)) (k : zj F X c2 s2 w2 (pc + 3) L rest) : zj F X cells slots ws pc L (As.reverse ++ .ref b :: rest) := by
  have zg : ∀ w ∈ (Cond.code y cb maxL none :: zt_ws), w ∈ zt_ws := by
    intro w hw
    rcases List.mem_cons.mp hw with rfl | hw
    · exact hwm.2.1
    · exact hw
  obtain ⟨l, D, tys⟩ := F
  obtain ⟨p, e, R, s, m, args, below, meth, c, A, nL, Q⟩ := X
  obtain ⟨hx, hb, hml, hown, hts, hK, hn, hlo, hA, hR, hL9⟩ := cx
  subst hR; subst hc2; subst hs2
  intro H locs ls hP hD hS hl1
  have hFc := za_free hD hS hA
  exact va_callv (va_runVN (As := As) (rest := rest) ⟨hx, hb, hml, hown, hts⟩ (hM H.size) ⟨va_cnB n hts (zt_gi zg) rfl rfl rfl (hn _ hl) (hts _ hwm.1) hwm.2.2 hrm, hts _ hwv.1, hts _ hwv.2⟩ ⟨zc_blind, va_recv hK hP hci hq0, fun U hU hW => ⟨rfl, by rw [hU], by rw [hU]; exact hP, va_K.moved hW.alike hK, hD.weaken (fun _ _ _ _ => trivial), zn_warm hW hn⟩⟩ rfl hln hl1.1 rfl (lv_room hrest) hd hf) hS (fun q _ h => hFc q h) hFc (fun u t H1 locs1 ht hvm hw hB hz1 hk1 hS1 => k H1 locs1 ls (by rw [← ht]; exact hB) (za_addr had hD) hS1 hl1)

theorem zz_callSi (cx : zx F X cc own rm ml) {w2 : va_W} {y : MethodName} {cb : ByteArray} {maxL n index : Nat} {ty : FieldType} {rm2 : Room} {As rest : List Value} {r : Int32} (hM : zc_i F ws w2 y cb maxL ty rm2 As r) (hwm : zw_m y cb maxL (some ty) n) (hl : Cond.methodLink own index y ∈ zt_ws) (hst : Cond.static y ∈ zt_ws) (hrm : rm2.frames + 1 ≤ rm.frames ∧ 8 + (maxL + 11) + rm2.locals ≤ rm.locals) (hln : As.length = n) (hrest : (rest.map fun v => v.category).sum ≤ 8) {c2 s2 : Nat} (hc2 : cells + rm2.cells = c2) (hs2 : slots + rm2.slots = s2) (hf : c2 ≤ rm.cells ∧ s2 ≤ rm.slots) (had : w2.map Prod.fst = ws.map Prod.fst) (hd : decode cc pc = .ok (.invokestatic index, 3)) (k : zj F X c2 s2 w2 (pc + 3) L (.int r :: rest)) : zj F X cells slots ws pc L (As.reverse ++ rest) := by
  have zg : ∀ w ∈ va_wsS own index y (Cond.code y cb maxL (some ty) :: zt_ws), w ∈ zt_ws := by
    intro w hw
    unfold va_wsS at hw
    simp only [List.cons_append, List.nil_append, List.mem_cons] at hw
    rcases hw with rfl | rfl | rfl | rfl | hw
    · exact hl
    · exact hst
    · exact hwm.1
    · exact hwm.2.1
    · exact hw
  obtain ⟨l, D, tys⟩ := F
  obtain ⟨p, e, R, s, m, args, below, meth, c, A, nL, Q⟩ := X
  obtain ⟨hx, hb, hml, hown, hts, hK, hn, hlo, hA, hR, hL9⟩ := cx
  subst hR; subst hc2; subst hs2
  intro H locs ls hP hD hS hl1
  have hFc := za_free hD hS hA
  exact va_calli (va_runS (As := As) (rest := rest) ⟨hx, hb, hml, hown, hts⟩ (hM H.size) (va_cwS n hts (zt_gi zg) rfl rfl rfl hwm.2.2 hrm) ⟨zc_blind, fun U hU hW => ⟨rfl, by rw [hU], by rw [hU]; exact hP, va_K.moved hW.alike hK, hD.weaken (fun _ _ _ _ => trivial), zn_warm hW hn⟩⟩ rfl hln hl1.1 rfl (lv_room hrest) hd hf) hS (fun q _ h => hFc q h) hFc (fun r_ u t H1 locs1 ht hvm hw hB hz1 hk1 hS1 => by subst hw; exact k H1 locs1 ls (by rw [← ht]; exact hB) (za_addr had hD) hS1 hl1)

theorem zz_callSv (cx : zx F X cc own rm ml) {w2 : va_W} {y : MethodName} {cb : ByteArray} {maxL n index : Nat} {rm2 : Room} {As rest : List Value} (hM : zc_v F ws w2 y cb maxL rm2 As) (hwm : zw_m y cb maxL none n) (hl : Cond.methodLink own index y ∈ zt_ws) (hst : Cond.static y ∈ zt_ws) (hrm : rm2.frames + 1 ≤ rm.frames ∧ 8 + (maxL + 11) + rm2.locals ≤ rm.locals) (hln : As.length = n) (hrest : (rest.map fun v => v.category).sum ≤ 8) {c2 s2 : Nat} (hc2 : cells + rm2.cells = c2) (hs2 : slots + rm2.slots = s2) (hf : c2 ≤ rm.cells ∧ s2 ≤ rm.slots) (had : w2.map Prod.fst = ws.map Prod.fst) (hd : decode cc pc = .ok (.invokestatic index, 3)) (k : zj F X c2 s2 w2 (pc + 3) L rest) : zj F X cells slots ws pc L (As.reverse ++ rest) := by
  have zg : ∀ w ∈ va_wsS own index y (Cond.code y cb maxL none :: zt_ws), w ∈ zt_ws := by
    intro w hw
    unfold va_wsS at hw
    simp only [List.cons_append, List.nil_append, List.mem_cons] at hw
    rcases hw with rfl | rfl | rfl | rfl | hw
    · exact hl
    · exact hst
    · exact hwm.1
    · exact hwm.2.1
    · exact hw
  obtain ⟨l, D, tys⟩ := F
  obtain ⟨p, e, R, s, m, args, below, meth, c, A, nL, Q⟩ := X
  obtain ⟨hx, hb, hml, hown, hts, hK, hn, hlo, hA, hR, hL9⟩ := cx
  subst hR; subst hc2; subst hs2
  intro H locs ls hP hD hS hl1
  have hFc := za_free hD hS hA
  exact va_callv (va_runS (As := As) (rest := rest) ⟨hx, hb, hml, hown, hts⟩ (hM H.size) (va_cwS n hts (zt_gi zg) rfl rfl rfl hwm.2.2 hrm) ⟨zc_blind, fun U hU hW => ⟨rfl, by rw [hU], by rw [hU]; exact hP, va_K.moved hW.alike hK, hD.weaken (fun _ _ _ _ => trivial), zn_warm hW hn⟩⟩ rfl hln hl1.1 rfl (lv_room hrest) hd hf) hS (fun q _ h => hFc q h) hFc (fun u t H1 locs1 ht hvm hw hB hz1 hk1 hS1 => k H1 locs1 ls (by rw [← ht]; exact hB) (za_addr had hD) hS1 hl1)

end ZD
/-! ===== an array's places beyond its length don't matter ===== -/
theorem zr_cell {cA n : Nat} {f g : Nat → Int32} (h : ∀ j, j < n → f j = g j) : vp_cell cA (n, .inl f) = vp_cell cA (n, .inl g) := by
  have e : arrV cA n (fun j => Value.int (f j)) = arrV cA n (fun j => Value.int (g j)) := by
    unfold arrV
    congr 1
    apply Array.ext
    · simp
    · intro j h1 h2
      simp only [Array.getElem_ofFn]
      rw [h j (by simpa using h1)]
  exact e
theorem zr_set {D : va_G} {ws : va_W} {H : Heap} {q0 a cA n : Nat} {f g : Nat → Int32} (h : ∀ j, j < n → f j = g j) (hP : va_P D vw_Cl (ws.set q0 (a, .inl (cA, n, .inl f))) H) : va_P D vw_Cl (ws.set q0 (a, .inl (cA, n, .inl g))) H := by
  intro i q hi
  by_cases hq : i = q0
  · subst hq
    by_cases hl : i < ws.length
    · rw [List.getElem?_set_self hl] at hi
      cases hi
      have h1 := hP i (a, .inl (cA, n, .inl f)) (List.getElem?_set_self hl)
      show H[a]? = some (vp_cell cA (n, .inl g))
      rw [← zr_cell h]
      exact h1
    · rw [List.getElem?_eq_none (by rw [List.length_set]; omega)] at hi
      cases hi
  · rw [List.getElem?_set_ne (Ne.symm hq)] at hi
    exact hP i q (by rw [List.getElem?_set_ne (Ne.symm hq)]; exact hi)
theorem zr_addr {ws : va_W} {q0 a : Nat} {e1 e2 : va_E} : (ws.set q0 (a, e1)).map Prod.fst = (ws.set q0 (a, e2)).map Prod.fst := by
  rw [List.map_set, List.map_set]
theorem zr_addr0 {ws : va_W} {q0 a : Nat} {e1 e2 : va_E} (h : ws[q0]? = some (a, e1)) : (ws.set q0 (a, e2)).map Prod.fst = ws.map Prod.fst := by
  rw [List.map_set]
  obtain ⟨hl, he⟩ := List.getElem?_eq_some_iff.mp h
  apply List.ext_getElem?
  intro i
  by_cases hq : i = q0
  · subst hq
    rw [List.getElem?_set_self (by rw [List.length_map]; exact hl), List.getElem?_map, h]
    rfl
  · rw [List.getElem?_set_ne (Ne.symm hq)]
theorem zr_self {ws : va_W} {q0 : Nat} {e : Nat × va_E} (h : ws[q0]? = some e) : ws.set q0 e = ws := by
  apply List.ext_getElem?
  intro i
  by_cases hq : i = q0
  · subst hq
    rw [List.getElem?_set_self (List.getElem?_eq_some_iff.mp h).1, h]
  · rw [List.getElem?_set_ne (Ne.symm hq)]
theorem zz_arrx {F : zf_T} {X : zx_T} {cells slots pc : Nat} {ws : va_W} {L : List (Option Value)} {st : List Value} {q0 a cA n : Nat} {f g : Nat → Int32} (hfg : ∀ j, j < n → f j = g j) (k : zj F X cells slots (ws.set q0 (a, .inl (cA, n, .inl g))) pc L st) : zj F X cells slots (ws.set q0 (a, .inl (cA, n, .inl f))) pc L st := by
  obtain ⟨l, D, tys⟩ := F
  obtain ⟨p, e, R, s, m, args, below, meth, c, A, nL, Q⟩ := X
  exact fun H locs ls hP hD hS hl => k H locs ls (zr_set hfg hP) (za_addr zr_addr hD) hS hl
end
section
theorem zm_X0_init : zw_m yn_X0_init cn_X0_init 1 none 0 := ⟨zt_m 1 (by decide +kernel) (by decide +kernel), zt_m 17 rfl rfl, by decide, by decide, by decide +kernel⟩
theorem zu_X0_init : Cond.instanceMethod yn_X0_init ∈ zt_ws := zt_m 16 (by decide +kernel) (by decide +kernel)
theorem zm_X0_bar : zw_m yn_X0_bar cn_X0_bar 2 (some .int) 1 := ⟨zt_m 1 (by decide +kernel) (by decide +kernel), zt_m 330 rfl rfl, by decide, by decide, by decide +kernel⟩
theorem zv_X0_bar : zw_v yn_X0_bar := ⟨zt_m 328 (by decide +kernel) (by decide +kernel), zt_m 329 (by decide +kernel) (by decide +kernel)⟩
theorem zm_X0_repeat : zw_m yn_X0_repeat cn_X0_repeat 4 (some .int) 3 := ⟨zt_m 1 (by decide +kernel) (by decide +kernel), zt_m 411 rfl rfl, by decide, by decide, by decide +kernel⟩
theorem zv_X0_repeat : zw_v yn_X0_repeat := ⟨zt_m 409 (by decide +kernel) (by decide +kernel), zt_m 410 (by decide +kernel) (by decide +kernel)⟩
theorem zm_X0_ending : zw_m yn_X0_ending cn_X0_ending 5 (some .int) 4 := ⟨zt_m 1 (by decide +kernel) (by decide +kernel), zt_m 490 rfl rfl, by decide, by decide, by decide +kernel⟩
theorem zv_X0_ending : zw_v yn_X0_ending := ⟨zt_m 488 (by decide +kernel) (by decide +kernel), zt_m 489 (by decide +kernel) (by decide +kernel)⟩
theorem zm_X0_sign : zw_m yn_X0_sign cn_X0_sign 3 (some .int) 2 := ⟨zt_m 1 (by decide +kernel) (by decide +kernel), zt_m 520 rfl rfl, by decide, by decide, by decide +kernel⟩
theorem zv_X0_sign : zw_v yn_X0_sign := ⟨zt_m 518 (by decide +kernel) (by decide +kernel), zt_m 519 (by decide +kernel) (by decide +kernel)⟩
theorem zm_X0_jump : zw_m yn_X0_jump cn_X0_jump 5 none 4 := ⟨zt_m 1 (by decide +kernel) (by decide +kernel), zt_m 532 rfl rfl, by decide, by decide, by decide +kernel⟩
theorem zv_X0_jump : zw_v yn_X0_jump := ⟨zt_m 530 (by decide +kernel) (by decide +kernel), zt_m 531 (by decide +kernel) (by decide +kernel)⟩
theorem zm_X0_plain : zw_m yn_X0_plain cn_X0_plain 2 none 1 := ⟨zt_m 1 (by decide +kernel) (by decide +kernel), zt_m 545 rfl rfl, by decide, by decide, by decide +kernel⟩
theorem zv_X0_plain : zw_v yn_X0_plain := ⟨zt_m 543 (by decide +kernel) (by decide +kernel), zt_m 544 (by decide +kernel) (by decide +kernel)⟩
theorem zm_X0_unfold : zw_m yn_X0_unfold cn_X0_unfold 1 (some .int) 0 := ⟨zt_m 1 (by decide +kernel) (by decide +kernel), zt_m 229 rfl rfl, by decide, by decide, by decide +kernel⟩
theorem zv_X0_unfold : zw_v yn_X0_unfold := ⟨zt_m 227 (by decide +kernel) (by decide +kernel), zt_m 228 (by decide +kernel) (by decide +kernel)⟩
theorem zm_X0_fault : zw_m yn_X0_fault cn_X0_fault 1 (some .int) 0 := ⟨zt_m 1 (by decide +kernel) (by decide +kernel), zt_m 322 rfl rfl, by decide, by decide, by decide +kernel⟩
theorem zv_X0_fault : zw_v yn_X0_fault := ⟨zt_m 320 (by decide +kernel) (by decide +kernel), zt_m 321 (by decide +kernel) (by decide +kernel)⟩
theorem zm_X0_played : zw_m yn_X0_played cn_X0_played 3 (some .int) 2 := ⟨zt_m 1 (by decide +kernel) (by decide +kernel), zt_m 558 rfl rfl, by decide, by decide, by decide +kernel⟩
theorem zv_X0_played : zw_v yn_X0_played := ⟨zt_m 556 (by decide +kernel) (by decide +kernel), zt_m 557 (by decide +kernel) (by decide +kernel)⟩
theorem zm_X0_times : zw_m yn_X0_times cn_X0_times 2 (some .int) 1 := ⟨zt_m 1 (by decide +kernel) (by decide +kernel), zt_m 567 rfl rfl, by decide, by decide, by decide +kernel⟩
theorem zv_X0_times : zw_v yn_X0_times := ⟨zt_m 565 (by decide +kernel) (by decide +kernel), zt_m 566 (by decide +kernel) (by decide +kernel)⟩
theorem zm_X0_comes : zw_m yn_X0_comes cn_X0_comes 2 (some .int) 1 := ⟨zt_m 1 (by decide +kernel) (by decide +kernel), zt_m 574 rfl rfl, by decide, by decide, by decide +kernel⟩
theorem zv_X0_comes : zw_v yn_X0_comes := ⟨zt_m 572 (by decide +kernel) (by decide +kernel), zt_m 573 (by decide +kernel) (by decide +kernel)⟩
theorem zm_X0_fold : zw_m yn_X0_fold cn_X0_fold 4 (some .int) 2 := ⟨zt_m 1 (by decide +kernel) (by decide +kernel), zt_m 581 rfl rfl, by decide, by decide, by decide +kernel⟩
theorem zv_X0_fold : zw_v yn_X0_fold := ⟨zt_m 579 (by decide +kernel) (by decide +kernel), zt_m 580 (by decide +kernel) (by decide +kernel)⟩
theorem zm_X0_folded : zw_m yn_X0_folded cn_X0_folded 3 (some .int) 2 := ⟨zt_m 1 (by decide +kernel) (by decide +kernel), zt_m 629 rfl rfl, by decide, by decide, by decide +kernel⟩
theorem zv_X0_folded : zw_v yn_X0_folded := ⟨zt_m 627 (by decide +kernel) (by decide +kernel), zt_m 628 (by decide +kernel) (by decide +kernel)⟩
theorem zm_X0_told : zw_m yn_X0_told cn_X0_told 2 (some .int) 1 := ⟨zt_m 1 (by decide +kernel) (by decide +kernel), zt_m 638 rfl rfl, by decide, by decide, by decide +kernel⟩
theorem zv_X0_told : zw_v yn_X0_told := ⟨zt_m 636 (by decide +kernel) (by decide +kernel), zt_m 637 (by decide +kernel) (by decide +kernel)⟩
theorem zm_X1_init : zw_m yn_X1_init cn_X1_init 1 none 0 := ⟨zt_m 3 (by decide +kernel) (by decide +kernel), zt_m 31 rfl rfl, by decide, by decide, by decide +kernel⟩
theorem zu_X1_init : Cond.instanceMethod yn_X1_init ∈ zt_ws := zt_m 30 (by decide +kernel) (by decide +kernel)
theorem zm_X1_hasBar : zw_m yn_X1_hasBar cn_X1_hasBar 2 (some .boolean) 1 := ⟨zt_m 3 (by decide +kernel) (by decide +kernel), zt_m 415 rfl rfl, by decide, by decide, by decide +kernel⟩
theorem zv_X1_hasBar : zw_v yn_X1_hasBar := ⟨zt_m 414 (by decide +kernel) (by decide +kernel), zt_sel (n := 19) 23 (by decide +kernel) (by decide +kernel)⟩
theorem zm_X1_hasRepeat : zw_m yn_X1_hasRepeat cn_X1_hasRepeat 2 (some .boolean) 1 := ⟨zt_m 3 (by decide +kernel) (by decide +kernel), zt_m 494 rfl rfl, by decide, by decide, by decide +kernel⟩
theorem zv_X1_hasRepeat : zw_v yn_X1_hasRepeat := ⟨zt_m 493 (by decide +kernel) (by decide +kernel), zt_sel (n := 19) 32 (by decide +kernel) (by decide +kernel)⟩
theorem zm_X1_hasJump : zw_m yn_X1_hasJump cn_X1_hasJump 2 (some .boolean) 1 := ⟨zt_m 3 (by decide +kernel) (by decide +kernel), zt_m 254 rfl rfl, by decide, by decide, by decide +kernel⟩
theorem zv_X1_hasJump : zw_v yn_X1_hasJump := ⟨zt_m 253 (by decide +kernel) (by decide +kernel), zt_sel (n := 19) 5 (by decide +kernel) (by decide +kernel)⟩
theorem zm_X1_hasPasses : zw_m yn_X1_hasPasses cn_X1_hasPasses 4 (some .boolean) 2 := ⟨zt_m 3 (by decide +kernel) (by decide +kernel), zt_m 499 rfl rfl, by decide, by decide, by decide +kernel⟩
theorem zv_X1_hasPasses : zw_v yn_X1_hasPasses := ⟨zt_m 498 (by decide +kernel) (by decide +kernel), zt_sel (n := 19) 33 (by decide +kernel) (by decide +kernel)⟩
theorem zm_X1_addBar : zw_m yn_X1_addBar cn_X1_addBar 2 (some .int) 1 := ⟨zt_m 3 (by decide +kernel) (by decide +kernel), zt_m 402 rfl rfl, by decide, by decide, by decide +kernel⟩
theorem zv_X1_addBar : zw_v yn_X1_addBar := ⟨zt_m 401 (by decide +kernel) (by decide +kernel), zt_sel (n := 19) 22 (by decide +kernel) (by decide +kernel)⟩
theorem zm_X1_liesWithin : zw_m yn_X1_liesWithin cn_X1_liesWithin 4 (some .boolean) 4 := ⟨zt_m 3 (by decide +kernel) (by decide +kernel), zt_m 294 rfl rfl, by decide, by decide, by decide +kernel⟩
theorem zs_X1_liesWithin : Cond.static yn_X1_liesWithin ∈ zt_ws := zt_m 293 (by decide +kernel) (by decide +kernel)
theorem zm_X1_liesWell : zw_m yn_X1_liesWell cn_X1_liesWell 4 (some .boolean) 4 := ⟨zt_m 3 (by decide +kernel) (by decide +kernel), zt_m 458 rfl rfl, by decide, by decide, by decide +kernel⟩
theorem zs_X1_liesWell : Cond.static yn_X1_liesWell ∈ zt_ws := zt_m 457 (by decide +kernel) (by decide +kernel)
theorem zm_X1_takesRepeat : zw_m yn_X1_takesRepeat cn_X1_takesRepeat 3 (some .boolean) 2 := ⟨zt_m 3 (by decide +kernel) (by decide +kernel), zt_m 451 rfl rfl, by decide, by decide, by decide +kernel⟩
theorem zv_X1_takesRepeat : zw_v yn_X1_takesRepeat := ⟨zt_m 450 (by decide +kernel) (by decide +kernel), zt_sel (n := 19) 24 (by decide +kernel) (by decide +kernel)⟩
theorem zm_X1_takesEnding : zw_m yn_X1_takesEnding cn_X1_takesEnding 4 (some .boolean) 3 := ⟨zt_m 3 (by decide +kernel) (by decide +kernel), zt_m 504 rfl rfl, by decide, by decide, by decide +kernel⟩
theorem zv_X1_takesEnding : zw_v yn_X1_takesEnding := ⟨zt_m 503 (by decide +kernel) (by decide +kernel), zt_sel (n := 19) 34 (by decide +kernel) (by decide +kernel)⟩
theorem zm_X1_liesWellByRepeats : zw_m yn_X1_liesWellByRepeats cn_X1_liesWellByRepeats 4 (some .boolean) 2 := ⟨zt_m 3 (by decide +kernel) (by decide +kernel), zt_m 455 rfl rfl, by decide, by decide, by decide +kernel⟩
theorem zv_X1_liesWellByRepeats : zw_v yn_X1_liesWellByRepeats := ⟨zt_m 454 (by decide +kernel) (by decide +kernel), zt_sel (n := 19) 25 (by decide +kernel) (by decide +kernel)⟩
theorem zm_X1_hasSameRepeat : zw_m yn_X1_hasSameRepeat cn_X1_hasSameRepeat 4 (some .boolean) 2 := ⟨zt_m 3 (by decide +kernel) (by decide +kernel), zt_m 462 rfl rfl, by decide, by decide, by decide +kernel⟩
theorem zv_X1_hasSameRepeat : zw_v yn_X1_hasSameRepeat := ⟨zt_m 461 (by decide +kernel) (by decide +kernel), zt_sel (n := 19) 26 (by decide +kernel) (by decide +kernel)⟩
theorem zm_X1_liesWellByEndings : zw_m yn_X1_liesWellByEndings cn_X1_liesWellByEndings 4 (some .boolean) 2 := ⟨zt_m 3 (by decide +kernel) (by decide +kernel), zt_m 466 rfl rfl, by decide, by decide, by decide +kernel⟩
theorem zv_X1_liesWellByEndings : zw_v yn_X1_liesWellByEndings := ⟨zt_m 465 (by decide +kernel) (by decide +kernel), zt_sel (n := 19) 27 (by decide +kernel) (by decide +kernel)⟩
theorem zm_X1_isApartFromEndings : zw_m yn_X1_isApartFromEndings cn_X1_isApartFromEndings 4 (some .boolean) 2 := ⟨zt_m 3 (by decide +kernel) (by decide +kernel), zt_m 508 rfl rfl, by decide, by decide, by decide +kernel⟩
theorem zv_X1_isApartFromEndings : zw_v yn_X1_isApartFromEndings := ⟨zt_m 507 (by decide +kernel) (by decide +kernel), zt_sel (n := 19) 35 (by decide +kernel) (by decide +kernel)⟩
theorem zm_X1_isDepthLeft : zw_m yn_X1_isDepthLeft cn_X1_isDepthLeft 4 (some .boolean) 2 := ⟨zt_m 3 (by decide +kernel) (by decide +kernel), zt_m 470 rfl rfl, by decide, by decide, by decide +kernel⟩
theorem zv_X1_isDepthLeft : zw_v yn_X1_isDepthLeft := ⟨zt_m 469 (by decide +kernel) (by decide +kernel), zt_sel (n := 19) 28 (by decide +kernel) (by decide +kernel)⟩
theorem zm_X1_addRepeat : zw_m yn_X1_addRepeat cn_X1_addRepeat 5 (some .int) 3 := ⟨zt_m 3 (by decide +kernel) (by decide +kernel), zt_m 475 rfl rfl, by decide, by decide, by decide +kernel⟩
theorem zv_X1_addRepeat : zw_v yn_X1_addRepeat := ⟨zt_m 474 (by decide +kernel) (by decide +kernel), zt_sel (n := 19) 29 (by decide +kernel) (by decide +kernel)⟩
theorem zm_X1_putAround : zw_m yn_X1_putAround cn_X1_putAround 5 none 2 := ⟨zt_m 3 (by decide +kernel) (by decide +kernel), zt_m 479 rfl rfl, by decide, by decide, by decide +kernel⟩
theorem zv_X1_putAround : zw_v yn_X1_putAround := ⟨zt_m 478 (by decide +kernel) (by decide +kernel), zt_sel (n := 19) 30 (by decide +kernel) (by decide +kernel)⟩
theorem zm_X1_isRepeatWithin : zw_m yn_X1_isRepeatWithin cn_X1_isRepeatWithin 3 (some .boolean) 2 := ⟨zt_m 3 (by decide +kernel) (by decide +kernel), zt_m 483 rfl rfl, by decide, by decide, by decide +kernel⟩
theorem zv_X1_isRepeatWithin : zw_v yn_X1_isRepeatWithin := ⟨zt_m 482 (by decide +kernel) (by decide +kernel), zt_sel (n := 19) 31 (by decide +kernel) (by decide +kernel)⟩
theorem zm_X1_isRepeatWithinEnding : zw_m yn_X1_isRepeatWithinEnding cn_X1_isRepeatWithinEnding 3 (some .boolean) 2 := ⟨zt_m 3 (by decide +kernel) (by decide +kernel), zt_m 291 rfl rfl, by decide, by decide, by decide +kernel⟩
theorem zv_X1_isRepeatWithinEnding : zw_v yn_X1_isRepeatWithinEnding := ⟨zt_m 290 (by decide +kernel) (by decide +kernel), zt_sel (n := 19) 14 (by decide +kernel) (by decide +kernel)⟩
theorem zm_X1_repeatAround : zw_m yn_X1_repeatAround cn_X1_repeatAround 3 (some .int) 2 := ⟨zt_m 3 (by decide +kernel) (by decide +kernel), zt_m 279 rfl rfl, by decide, by decide, by decide +kernel⟩
theorem zv_X1_repeatAround : zw_v yn_X1_repeatAround := ⟨zt_m 278 (by decide +kernel) (by decide +kernel), zt_sel (n := 19) 11 (by decide +kernel) (by decide +kernel)⟩
theorem zm_X1_addEnding : zw_m yn_X1_addEnding cn_X1_addEnding 5 (some .int) 4 := ⟨zt_m 3 (by decide +kernel) (by decide +kernel), zt_m 513 rfl rfl, by decide, by decide, by decide +kernel⟩
theorem zv_X1_addEnding : zw_v yn_X1_addEnding := ⟨zt_m 512 (by decide +kernel) (by decide +kernel), zt_sel (n := 19) 36 (by decide +kernel) (by decide +kernel)⟩
theorem zm_X1_moveSign : zw_m yn_X1_moveSign cn_X1_moveSign 4 (some .int) 2 := ⟨zt_m 3 (by decide +kernel) (by decide +kernel), zt_m 525 rfl rfl, by decide, by decide, by decide +kernel⟩
theorem zv_X1_moveSign : zw_v yn_X1_moveSign := ⟨zt_m 524 (by decide +kernel) (by decide +kernel), zt_sel (n := 19) 37 (by decide +kernel) (by decide +kernel)⟩
theorem zm_X1_putJump : zw_m yn_X1_putJump cn_X1_putJump 5 none 4 := ⟨zt_m 3 (by decide +kernel) (by decide +kernel), zt_m 537 rfl rfl, by decide, by decide, by decide +kernel⟩
theorem zv_X1_putJump : zw_v yn_X1_putJump := ⟨zt_m 536 (by decide +kernel) (by decide +kernel), zt_sel (n := 19) 38 (by decide +kernel) (by decide +kernel)⟩
theorem zm_X1_takeJump : zw_m yn_X1_takeJump cn_X1_takeJump 2 none 1 := ⟨zt_m 3 (by decide +kernel) (by decide +kernel), zt_m 551 rfl rfl, by decide, by decide, by decide +kernel⟩
theorem zv_X1_takeJump : zw_v yn_X1_takeJump := ⟨zt_m 550 (by decide +kernel) (by decide +kernel), zt_sel (n := 19) 39 (by decide +kernel) (by decide +kernel)⟩
theorem zm_X1_lacksSign : zw_m yn_X1_lacksSign cn_X1_lacksSign 2 (some .boolean) 1 := ⟨zt_m 3 (by decide +kernel) (by decide +kernel), zt_m 262 rfl rfl, by decide, by decide, by decide +kernel⟩
theorem zv_X1_lacksSign : zw_v yn_X1_lacksSign := ⟨zt_m 261 (by decide +kernel) (by decide +kernel), zt_sel (n := 19) 7 (by decide +kernel) (by decide +kernel)⟩
theorem zm_X1_faultOfJump : zw_m yn_X1_faultOfJump cn_X1_faultOfJump 2 (some .int) 1 := ⟨zt_m 3 (by decide +kernel) (by decide +kernel), zt_m 258 rfl rfl, by decide, by decide, by decide +kernel⟩
theorem zv_X1_faultOfJump : zw_v yn_X1_faultOfJump := ⟨zt_m 257 (by decide +kernel) (by decide +kernel), zt_sel (n := 19) 6 (by decide +kernel) (by decide +kernel)⟩
theorem zm_X2_init : zw_m yn_X2_init cn_X2_init 1 none 0 := ⟨zt_m 2 (by decide +kernel) (by decide +kernel), zt_m 25 rfl rfl, by decide, by decide, by decide +kernel⟩
theorem zu_X2_init : Cond.instanceMethod yn_X2_init ∈ zt_ws := zt_m 24 (by decide +kernel) (by decide +kernel)
theorem zm_X2_go : zw_m yn_X2_go cn_X2_go 1 (some .int) 0 := ⟨zt_m 2 (by decide +kernel) (by decide +kernel), zt_m 233 rfl rfl, by decide, by decide, by decide +kernel⟩
theorem zv_X2_go : zw_v yn_X2_go := ⟨zt_m 232 (by decide +kernel) (by decide +kernel), zt_sel (n := 15) 0 (by decide +kernel) (by decide +kernel)⟩
theorem zm_X2_forget : zw_m yn_X2_forget cn_X2_forget 2 none 0 := ⟨zt_m 2 (by decide +kernel) (by decide +kernel), zt_m 237 rfl rfl, by decide, by decide, by decide +kernel⟩
theorem zv_X2_forget : zw_v yn_X2_forget := ⟨zt_m 236 (by decide +kernel) (by decide +kernel), zt_sel (n := 15) 1 (by decide +kernel) (by decide +kernel)⟩
theorem zm_X2_setFault : zw_m yn_X2_setFault cn_X2_setFault 3 none 2 := ⟨zt_m 2 (by decide +kernel) (by decide +kernel), zt_m 246 rfl rfl, by decide, by decide, by decide +kernel⟩
theorem zv_X2_setFault : zw_v yn_X2_setFault := ⟨zt_m 245 (by decide +kernel) (by decide +kernel), zt_sel (n := 15) 3 (by decide +kernel) (by decide +kernel)⟩
theorem zm_X2_findFaultOfJumps : zw_m yn_X2_findFaultOfJumps cn_X2_findFaultOfJumps 3 none 0 := ⟨zt_m 2 (by decide +kernel) (by decide +kernel), zt_m 250 rfl rfl, by decide, by decide, by decide +kernel⟩
theorem zv_X2_findFaultOfJumps : zw_v yn_X2_findFaultOfJumps := ⟨zt_m 249 (by decide +kernel) (by decide +kernel), zt_sel (n := 15) 4 (by decide +kernel) (by decide +kernel)⟩
theorem zm_X2_playFromFirstBar : zw_m yn_X2_playFromFirstBar cn_X2_playFromFirstBar 3 none 0 := ⟨zt_m 2 (by decide +kernel) (by decide +kernel), zt_m 266 rfl rfl, by decide, by decide, by decide +kernel⟩
theorem zv_X2_playFromFirstBar : zw_v yn_X2_playFromFirstBar := ⟨zt_m 265 (by decide +kernel) (by decide +kernel), zt_sel (n := 15) 8 (by decide +kernel) (by decide +kernel)⟩
theorem zm_X2_comeTo : zw_m yn_X2_comeTo cn_X2_comeTo 3 (some .int) 1 := ⟨zt_m 2 (by decide +kernel) (by decide +kernel), zt_m 271 rfl rfl, by decide, by decide, by decide +kernel⟩
theorem zv_X2_comeTo : zw_v yn_X2_comeTo := ⟨zt_m 270 (by decide +kernel) (by decide +kernel), zt_sel (n := 15) 9 (by decide +kernel) (by decide +kernel)⟩
theorem zm_X2_openAround : zw_m yn_X2_openAround cn_X2_openAround 5 none 1 := ⟨zt_m 2 (by decide +kernel) (by decide +kernel), zt_m 275 rfl rfl, by decide, by decide, by decide +kernel⟩
theorem zv_X2_openAround : zw_v yn_X2_openAround := ⟨zt_m 274 (by decide +kernel) (by decide +kernel), zt_sel (n := 15) 10 (by decide +kernel) (by decide +kernel)⟩
theorem zm_X2_isLeftOut : zw_m yn_X2_isLeftOut cn_X2_isLeftOut 3 (some .boolean) 1 := ⟨zt_m 2 (by decide +kernel) (by decide +kernel), zt_m 283 rfl rfl, by decide, by decide, by decide +kernel⟩
theorem zv_X2_isLeftOut : zw_v yn_X2_isLeftOut := ⟨zt_m 282 (by decide +kernel) (by decide +kernel), zt_sel (n := 15) 12 (by decide +kernel) (by decide +kernel)⟩
theorem zm_X2_leaveWithin : zw_m yn_X2_leaveWithin cn_X2_leaveWithin 3 none 1 := ⟨zt_m 2 (by decide +kernel) (by decide +kernel), zt_m 287 rfl rfl, by decide, by decide, by decide +kernel⟩
theorem zv_X2_leaveWithin : zw_v yn_X2_leaveWithin := ⟨zt_m 286 (by decide +kernel) (by decide +kernel), zt_sel (n := 15) 13 (by decide +kernel) (by decide +kernel)⟩
theorem zm_X2_leaveAll : zw_m yn_X2_leaveAll cn_X2_leaveAll 1 none 0 := ⟨zt_m 2 (by decide +kernel) (by decide +kernel), zt_m 242 rfl rfl, by decide, by decide, by decide +kernel⟩
theorem zv_X2_leaveAll : zw_v yn_X2_leaveAll := ⟨zt_m 241 (by decide +kernel) (by decide +kernel), zt_sel (n := 15) 2 (by decide +kernel) (by decide +kernel)⟩
theorem zm_X2_play : zw_m yn_X2_play cn_X2_play 3 none 1 := ⟨zt_m 2 (by decide +kernel) (by decide +kernel), zt_m 302 rfl rfl, by decide, by decide, by decide +kernel⟩
theorem zv_X2_play : zw_v yn_X2_play := ⟨zt_m 301 (by decide +kernel) (by decide +kernel), zt_sel (n := 15) 16 (by decide +kernel) (by decide +kernel)⟩
theorem zm_X2_behind : zw_m yn_X2_behind cn_X2_behind 2 (some .int) 1 := ⟨zt_m 2 (by decide +kernel) (by decide +kernel), zt_m 306 rfl rfl, by decide, by decide, by decide +kernel⟩
theorem zv_X2_behind : zw_v yn_X2_behind := ⟨zt_m 305 (by decide +kernel) (by decide +kernel), zt_sel (n := 15) 17 (by decide +kernel) (by decide +kernel)⟩
theorem zm_X2_isInLastPasses : zw_m yn_X2_isInLastPasses cn_X2_isInLastPasses 4 (some .boolean) 1 := ⟨zt_m 2 (by decide +kernel) (by decide +kernel), zt_m 310 rfl rfl, by decide, by decide, by decide +kernel⟩
theorem zv_X2_isInLastPasses : zw_v yn_X2_isInLastPasses := ⟨zt_m 309 (by decide +kernel) (by decide +kernel), zt_sel (n := 15) 18 (by decide +kernel) (by decide +kernel)⟩
theorem zm_X2_isLatestJumpTill : zw_m yn_X2_isLatestJumpTill cn_X2_isLatestJumpTill 2 (some .boolean) 1 := ⟨zt_m 2 (by decide +kernel) (by decide +kernel), zt_m 314 rfl rfl, by decide, by decide, by decide +kernel⟩
theorem zv_X2_isLatestJumpTill : zw_v yn_X2_isLatestJumpTill := ⟨zt_m 313 (by decide +kernel) (by decide +kernel), zt_sel (n := 15) 19 (by decide +kernel) (by decide +kernel)⟩
theorem zm_X2_act : zw_m yn_X2_act cn_X2_act 2 (some .int) 1 := ⟨zt_m 2 (by decide +kernel) (by decide +kernel), zt_m 318 rfl rfl, by decide, by decide, by decide +kernel⟩
theorem zv_X2_act : zw_v yn_X2_act := ⟨zt_m 317 (by decide +kernel) (by decide +kernel), zt_sel (n := 15) 20 (by decide +kernel) (by decide +kernel)⟩
theorem zm_X2_endOf : zw_m yn_X2_endOf cn_X2_endOf 4 (some .int) 1 := ⟨zt_m 2 (by decide +kernel) (by decide +kernel), zt_m 298 rfl rfl, by decide, by decide, by decide +kernel⟩
theorem zv_X2_endOf : zw_v yn_X2_endOf := ⟨zt_m 297 (by decide +kernel) (by decide +kernel), zt_sel (n := 15) 15 (by decide +kernel) (by decide +kernel)⟩
theorem zm_X3_init : zw_m yn_X3_init cn_X3_init 1 none 0 := ⟨zt_m 5 (by decide +kernel) (by decide +kernel), zt_m 175 rfl rfl, by decide, by decide, by decide +kernel⟩
theorem zu_X3_init : Cond.instanceMethod yn_X3_init ∈ zt_ws := zt_m 174 (by decide +kernel) (by decide +kernel)
theorem zm_X3_cell : zw_m yn_X3_cell cn_X3_cell 2 (some .int) 2 := ⟨zt_m 5 (by decide +kernel) (by decide +kernel), zt_m 594 rfl rfl, by decide, by decide, by decide +kernel⟩
theorem zs_X3_cell : Cond.static yn_X3_cell ∈ zt_ws := zt_m 593 (by decide +kernel) (by decide +kernel)
theorem zm_X3_writeRow : zw_m yn_X3_writeRow cn_X3_writeRow 4 (some .int) 1 := ⟨zt_m 5 (by decide +kernel) (by decide +kernel), zt_m 587 rfl rfl, by decide, by decide, by decide +kernel⟩
theorem zv_X3_writeRow : zw_v yn_X3_writeRow := ⟨zt_m 586 (by decide +kernel) (by decide +kernel), zt_sel (n := 11) 40 (by decide +kernel) (by decide +kernel)⟩
theorem zm_X3_compareContents : zw_m yn_X3_compareContents cn_X3_compareContents 5 none 1 := ⟨zt_m 5 (by decide +kernel) (by decide +kernel), zt_m 591 rfl rfl, by decide, by decide, by decide +kernel⟩
theorem zv_X3_compareContents : zw_v yn_X3_compareContents := ⟨zt_m 590 (by decide +kernel) (by decide +kernel), zt_sel (n := 11) 41 (by decide +kernel) (by decide +kernel)⟩
theorem zm_X3_choose : zw_m yn_X3_choose cn_X3_choose 4 none 2 := ⟨zt_m 5 (by decide +kernel) (by decide +kernel), zt_m 598 rfl rfl, by decide, by decide, by decide +kernel⟩
theorem zv_X3_choose : zw_v yn_X3_choose := ⟨zt_m 597 (by decide +kernel) (by decide +kernel), zt_sel (n := 11) 42 (by decide +kernel) (by decide +kernel)⟩
theorem zm_X3_chooseBlock : zw_m yn_X3_chooseBlock cn_X3_chooseBlock 5 none 2 := ⟨zt_m 5 (by decide +kernel) (by decide +kernel), zt_m 602 rfl rfl, by decide, by decide, by decide +kernel⟩
theorem zv_X3_chooseBlock : zw_v yn_X3_chooseBlock := ⟨zt_m 601 (by decide +kernel) (by decide +kernel), zt_sel (n := 11) 43 (by decide +kernel) (by decide +kernel)⟩
theorem zm_X3_chooseParts : zw_m yn_X3_chooseParts cn_X3_chooseParts 7 none 2 := ⟨zt_m 5 (by decide +kernel) (by decide +kernel), zt_m 606 rfl rfl, by decide, by decide, by decide +kernel⟩
theorem zv_X3_chooseParts : zw_v yn_X3_chooseParts := ⟨zt_m 605 (by decide +kernel) (by decide +kernel), zt_sel (n := 11) 44 (by decide +kernel) (by decide +kernel)⟩
theorem zm_X3_writeItems : zw_m yn_X3_writeItems cn_X3_writeItems 3 none 1 := ⟨zt_m 5 (by decide +kernel) (by decide +kernel), zt_m 610 rfl rfl, by decide, by decide, by decide +kernel⟩
theorem zv_X3_writeItems : zw_v yn_X3_writeItems := ⟨zt_m 609 (by decide +kernel) (by decide +kernel), zt_sel (n := 11) 45 (by decide +kernel) (by decide +kernel)⟩
theorem zm_X3_writePart : zw_m yn_X3_writePart cn_X3_writePart 4 none 2 := ⟨zt_m 5 (by decide +kernel) (by decide +kernel), zt_m 618 rfl rfl, by decide, by decide, by decide +kernel⟩
theorem zv_X3_writePart : zw_v yn_X3_writePart := ⟨zt_m 617 (by decide +kernel) (by decide +kernel), zt_sel (n := 11) 47 (by decide +kernel) (by decide +kernel)⟩
theorem zm_X3_putAside : zw_m yn_X3_putAside cn_X3_putAside 3 none 2 := ⟨zt_m 5 (by decide +kernel) (by decide +kernel), zt_m 614 rfl rfl, by decide, by decide, by decide +kernel⟩
theorem zv_X3_putAside : zw_v yn_X3_putAside := ⟨zt_m 613 (by decide +kernel) (by decide +kernel), zt_sel (n := 11) 46 (by decide +kernel) (by decide +kernel)⟩
theorem zm_X3_addItem : zw_m yn_X3_addItem cn_X3_addItem 3 none 2 := ⟨zt_m 5 (by decide +kernel) (by decide +kernel), zt_m 622 rfl rfl, by decide, by decide, by decide +kernel⟩
theorem zv_X3_addItem : zw_v yn_X3_addItem := ⟨zt_m 621 (by decide +kernel) (by decide +kernel), zt_sel (n := 11) 48 (by decide +kernel) (by decide +kernel)⟩
theorem zm_X4_init : zw_m yn_X4_init cn_X4_init 2 none 0 := ⟨zt_m 6 (by decide +kernel) (by decide +kernel), zt_m 644 rfl rfl, by decide, by decide, by decide +kernel⟩
theorem zu_X4_init : Cond.instanceMethod yn_X4_init ∈ zt_ws := zt_m 643 (by decide +kernel) (by decide +kernel)
theorem zm_X4_thrown : zw_m yn_X4_thrown cn_X4_thrown 1 (some .int) 0 := ⟨zt_m 6 (by decide +kernel) (by decide +kernel), zt_m 773 rfl rfl, by decide, by decide, by decide +kernel⟩
theorem zv_X4_thrown : zw_v yn_X4_thrown := ⟨zt_m 771 (by decide +kernel) (by decide +kernel), zt_m 772 (by decide +kernel) (by decide +kernel)⟩
theorem zm_X4_refuses : zw_m yn_X4_refuses cn_X4_refuses 4 (some .boolean) 3 := ⟨zt_m 6 (by decide +kernel) (by decide +kernel), zt_m 781 rfl rfl, by decide, by decide, by decide +kernel⟩
theorem zv_X4_refuses : zw_v yn_X4_refuses := ⟨zt_m 780 (by decide +kernel) (by decide +kernel), zt_sel (n := 41) 49 (by decide +kernel) (by decide +kernel)⟩
theorem zm_X4_isBar : zw_m yn_X4_isBar cn_X4_isBar 2 (some .boolean) 1 := ⟨zt_m 6 (by decide +kernel) (by decide +kernel), zt_m 789 rfl rfl, by decide, by decide, by decide +kernel⟩
theorem zv_X4_isBar : zw_v yn_X4_isBar := ⟨zt_m 788 (by decide +kernel) (by decide +kernel), zt_sel (n := 41) 50 (by decide +kernel) (by decide +kernel)⟩
theorem zm_X4_bar : zw_m yn_X4_bar cn_X4_bar 2 (some .int) 1 := ⟨zt_m 6 (by decide +kernel) (by decide +kernel), zt_m 777 rfl rfl, by decide, by decide, by decide +kernel⟩
theorem zv_X4_bar : zw_v yn_X4_bar := ⟨zt_m 775 (by decide +kernel) (by decide +kernel), zt_m 776 (by decide +kernel) (by decide +kernel)⟩
theorem zm_X4_isApart : zw_m yn_X4_isApart cn_X4_isApart 4 (some .boolean) 4 := ⟨zt_m 6 (by decide +kernel) (by decide +kernel), zt_m 799 rfl rfl, by decide, by decide, by decide +kernel⟩
theorem zs_X4_isApart : Cond.static yn_X4_isApart ∈ zt_ws := zt_m 798 (by decide +kernel) (by decide +kernel)
theorem zm_X4_isWithin : zw_m yn_X4_isWithin cn_X4_isWithin 4 (some .boolean) 4 := ⟨zt_m 6 (by decide +kernel) (by decide +kernel), zt_m 802 rfl rfl, by decide, by decide, by decide +kernel⟩
theorem zs_X4_isWithin : Cond.static yn_X4_isWithin ∈ zt_ws := zt_m 801 (by decide +kernel) (by decide +kernel)
theorem zm_X4_liesWell : zw_m yn_X4_liesWell cn_X4_liesWell 4 (some .boolean) 4 := ⟨zt_m 6 (by decide +kernel) (by decide +kernel), zt_m 796 rfl rfl, by decide, by decide, by decide +kernel⟩
theorem zs_X4_liesWell : Cond.static yn_X4_liesWell ∈ zt_ws := zt_m 795 (by decide +kernel) (by decide +kernel)
theorem zm_X4_isAround : zw_m yn_X4_isAround cn_X4_isAround 3 (some .boolean) 2 := ⟨zt_m 6 (by decide +kernel) (by decide +kernel), zt_m 806 rfl rfl, by decide, by decide, by decide +kernel⟩
theorem zv_X4_isAround : zw_v yn_X4_isAround := ⟨zt_m 805 (by decide +kernel) (by decide +kernel), zt_sel (n := 41) 52 (by decide +kernel) (by decide +kernel)⟩
theorem zm_X4_mayRepeat : zw_m yn_X4_mayRepeat cn_X4_mayRepeat 6 (some .boolean) 2 := ⟨zt_m 6 (by decide +kernel) (by decide +kernel), zt_m 793 rfl rfl, by decide, by decide, by decide +kernel⟩
theorem zv_X4_mayRepeat : zw_v yn_X4_mayRepeat := ⟨zt_m 792 (by decide +kernel) (by decide +kernel), zt_sel (n := 41) 51 (by decide +kernel) (by decide +kernel)⟩
theorem zm_X4_repeat : zw_m yn_X4_repeat cn_X4_repeat 6 (some .int) 3 := ⟨zt_m 6 (by decide +kernel) (by decide +kernel), zt_m 785 rfl rfl, by decide, by decide, by decide +kernel⟩
theorem zv_X4_repeat : zw_v yn_X4_repeat := ⟨zt_m 783 (by decide +kernel) (by decide +kernel), zt_m 784 (by decide +kernel) (by decide +kernel)⟩
theorem zm_X4_mayEnd : zw_m yn_X4_mayEnd cn_X4_mayEnd 5 (some .boolean) 3 := ⟨zt_m 6 (by decide +kernel) (by decide +kernel), zt_m 814 rfl rfl, by decide, by decide, by decide +kernel⟩
theorem zv_X4_mayEnd : zw_v yn_X4_mayEnd := ⟨zt_m 813 (by decide +kernel) (by decide +kernel), zt_sel (n := 41) 53 (by decide +kernel) (by decide +kernel)⟩
theorem zm_X4_ending : zw_m yn_X4_ending cn_X4_ending 7 (some .int) 4 := ⟨zt_m 6 (by decide +kernel) (by decide +kernel), zt_m 810 rfl rfl, by decide, by decide, by decide +kernel⟩
theorem zv_X4_ending : zw_v yn_X4_ending := ⟨zt_m 808 (by decide +kernel) (by decide +kernel), zt_m 809 (by decide +kernel) (by decide +kernel)⟩
theorem zm_X4_sign : zw_m yn_X4_sign cn_X4_sign 4 (some .int) 2 := ⟨zt_m 6 (by decide +kernel) (by decide +kernel), zt_m 818 rfl rfl, by decide, by decide, by decide +kernel⟩
theorem zv_X4_sign : zw_v yn_X4_sign := ⟨zt_m 816 (by decide +kernel) (by decide +kernel), zt_m 817 (by decide +kernel) (by decide +kernel)⟩
theorem zm_X4_jump : zw_m yn_X4_jump cn_X4_jump 5 none 4 := ⟨zt_m 6 (by decide +kernel) (by decide +kernel), zt_m 822 rfl rfl, by decide, by decide, by decide +kernel⟩
theorem zv_X4_jump : zw_v yn_X4_jump := ⟨zt_m 820 (by decide +kernel) (by decide +kernel), zt_m 821 (by decide +kernel) (by decide +kernel)⟩
theorem zm_X4_plain : zw_m yn_X4_plain cn_X4_plain 2 none 1 := ⟨zt_m 6 (by decide +kernel) (by decide +kernel), zt_m 826 rfl rfl, by decide, by decide, by decide +kernel⟩
theorem zv_X4_plain : zw_v yn_X4_plain := ⟨zt_m 824 (by decide +kernel) (by decide +kernel), zt_m 825 (by decide +kernel) (by decide +kernel)⟩
theorem zm_X4_missing : zw_m yn_X4_missing cn_X4_missing 2 (some .int) 1 := ⟨zt_m 6 (by decide +kernel) (by decide +kernel), zt_m 842 rfl rfl, by decide, by decide, by decide +kernel⟩
theorem zv_X4_missing : zw_v yn_X4_missing := ⟨zt_m 841 (by decide +kernel) (by decide +kernel), zt_sel (n := 41) 56 (by decide +kernel) (by decide +kernel)⟩
theorem zm_X4_forget : zw_m yn_X4_forget cn_X4_forget 2 none 0 := ⟨zt_m 6 (by decide +kernel) (by decide +kernel), zt_m 834 rfl rfl, by decide, by decide, by decide +kernel⟩
theorem zv_X4_forget : zw_v yn_X4_forget := ⟨zt_m 833 (by decide +kernel) (by decide +kernel), zt_sel (n := 41) 54 (by decide +kernel) (by decide +kernel)⟩
theorem zm_X4_leaveAll : zw_m yn_X4_leaveAll cn_X4_leaveAll 2 none 0 := ⟨zt_m 6 (by decide +kernel) (by decide +kernel), zt_m 838 rfl rfl, by decide, by decide, by decide +kernel⟩
theorem zv_X4_leaveAll : zw_v yn_X4_leaveAll := ⟨zt_m 837 (by decide +kernel) (by decide +kernel), zt_sel (n := 41) 55 (by decide +kernel) (by decide +kernel)⟩
theorem zm_X4_unfold : zw_m yn_X4_unfold cn_X4_unfold 2 (some .int) 0 := ⟨zt_m 6 (by decide +kernel) (by decide +kernel), zt_m 830 rfl rfl, by decide, by decide, by decide +kernel⟩
theorem zv_X4_unfold : zw_v yn_X4_unfold := ⟨zt_m 828 (by decide +kernel) (by decide +kernel), zt_m 829 (by decide +kernel) (by decide +kernel)⟩
theorem zm_X4_comeTo : zw_m yn_X4_comeTo cn_X4_comeTo 4 none 1 := ⟨zt_m 6 (by decide +kernel) (by decide +kernel), zt_m 846 rfl rfl, by decide, by decide, by decide +kernel⟩
theorem zv_X4_comeTo : zw_v yn_X4_comeTo := ⟨zt_m 845 (by decide +kernel) (by decide +kernel), zt_sel (n := 41) 57 (by decide +kernel) (by decide +kernel)⟩
theorem zm_X4_leaveWithin : zw_m yn_X4_leaveWithin cn_X4_leaveWithin 5 none 3 := ⟨zt_m 6 (by decide +kernel) (by decide +kernel), zt_m 850 rfl rfl, by decide, by decide, by decide +kernel⟩
theorem zv_X4_leaveWithin : zw_v yn_X4_leaveWithin := ⟨zt_m 849 (by decide +kernel) (by decide +kernel), zt_sel (n := 41) 58 (by decide +kernel) (by decide +kernel)⟩
theorem zm_X4_aroundIt : zw_m yn_X4_aroundIt cn_X4_aroundIt 6 (some .int) 2 := ⟨zt_m 6 (by decide +kernel) (by decide +kernel), zt_m 862 rfl rfl, by decide, by decide, by decide +kernel⟩
theorem zv_X4_aroundIt : zw_v yn_X4_aroundIt := ⟨zt_m 861 (by decide +kernel) (by decide +kernel), zt_sel (n := 41) 61 (by decide +kernel) (by decide +kernel)⟩
theorem zm_X4_play : zw_m yn_X4_play cn_X4_play 6 none 1 := ⟨zt_m 6 (by decide +kernel) (by decide +kernel), zt_m 858 rfl rfl, by decide, by decide, by decide +kernel⟩
theorem zv_X4_play : zw_v yn_X4_play := ⟨zt_m 857 (by decide +kernel) (by decide +kernel), zt_sel (n := 41) 60 (by decide +kernel) (by decide +kernel)⟩
theorem zm_X4_theEnd : zw_m yn_X4_theEnd cn_X4_theEnd 4 none 1 := ⟨zt_m 6 (by decide +kernel) (by decide +kernel), zt_m 854 rfl rfl, by decide, by decide, by decide +kernel⟩
theorem zv_X4_theEnd : zw_v yn_X4_theEnd := ⟨zt_m 853 (by decide +kernel) (by decide +kernel), zt_sel (n := 41) 59 (by decide +kernel) (by decide +kernel)⟩
theorem zm_X4_fault : zw_m yn_X4_fault cn_X4_fault 1 (some .int) 0 := ⟨zt_m 6 (by decide +kernel) (by decide +kernel), zt_m 866 rfl rfl, by decide, by decide, by decide +kernel⟩
theorem zv_X4_fault : zw_v yn_X4_fault := ⟨zt_m 864 (by decide +kernel) (by decide +kernel), zt_m 865 (by decide +kernel) (by decide +kernel)⟩
theorem zm_X4_played : zw_m yn_X4_played cn_X4_played 3 (some .int) 2 := ⟨zt_m 6 (by decide +kernel) (by decide +kernel), zt_m 870 rfl rfl, by decide, by decide, by decide +kernel⟩
theorem zv_X4_played : zw_v yn_X4_played := ⟨zt_m 868 (by decide +kernel) (by decide +kernel), zt_m 869 (by decide +kernel) (by decide +kernel)⟩
theorem zm_X4_times : zw_m yn_X4_times cn_X4_times 4 (some .int) 1 := ⟨zt_m 6 (by decide +kernel) (by decide +kernel), zt_m 874 rfl rfl, by decide, by decide, by decide +kernel⟩
theorem zv_X4_times : zw_v yn_X4_times := ⟨zt_m 872 (by decide +kernel) (by decide +kernel), zt_m 873 (by decide +kernel) (by decide +kernel)⟩
theorem zm_X4_comes : zw_m yn_X4_comes cn_X4_comes 2 (some .int) 1 := ⟨zt_m 6 (by decide +kernel) (by decide +kernel), zt_m 878 rfl rfl, by decide, by decide, by decide +kernel⟩
theorem zv_X4_comes : zw_v yn_X4_comes := ⟨zt_m 876 (by decide +kernel) (by decide +kernel), zt_m 877 (by decide +kernel) (by decide +kernel)⟩
theorem zm_X4_fold : zw_m yn_X4_fold cn_X4_fold 6 (some .int) 2 := ⟨zt_m 6 (by decide +kernel) (by decide +kernel), zt_m 882 rfl rfl, by decide, by decide, by decide +kernel⟩
theorem zv_X4_fold : zw_v yn_X4_fold := ⟨zt_m 880 (by decide +kernel) (by decide +kernel), zt_m 881 (by decide +kernel) (by decide +kernel)⟩
theorem zm_X4_isAgain : zw_m yn_X4_isAgain cn_X4_isAgain 6 (some .boolean) 3 := ⟨zt_m 6 (by decide +kernel) (by decide +kernel), zt_m 890 rfl rfl, by decide, by decide, by decide +kernel⟩
theorem zv_X4_isAgain : zw_v yn_X4_isAgain := ⟨zt_m 889 (by decide +kernel) (by decide +kernel), zt_sel (n := 41) 63 (by decide +kernel) (by decide +kernel)⟩
theorem zm_X4_findWay : zw_m yn_X4_findWay cn_X4_findWay 6 none 2 := ⟨zt_m 6 (by decide +kernel) (by decide +kernel), zt_m 886 rfl rfl, by decide, by decide, by decide +kernel⟩
theorem zv_X4_findWay : zw_v yn_X4_findWay := ⟨zt_m 885 (by decide +kernel) (by decide +kernel), zt_sel (n := 41) 62 (by decide +kernel) (by decide +kernel)⟩
theorem zm_X4_item : zw_m yn_X4_item cn_X4_item 3 none 2 := ⟨zt_m 6 (by decide +kernel) (by decide +kernel), zt_m 898 rfl rfl, by decide, by decide, by decide +kernel⟩
theorem zv_X4_item : zw_v yn_X4_item := ⟨zt_m 897 (by decide +kernel) (by decide +kernel), zt_sel (n := 41) 65 (by decide +kernel) (by decide +kernel)⟩
theorem zm_X4_write : zw_m yn_X4_write cn_X4_write 6 none 1 := ⟨zt_m 6 (by decide +kernel) (by decide +kernel), zt_m 894 rfl rfl, by decide, by decide, by decide +kernel⟩
theorem zv_X4_write : zw_v yn_X4_write := ⟨zt_m 893 (by decide +kernel) (by decide +kernel), zt_sel (n := 41) 64 (by decide +kernel) (by decide +kernel)⟩
theorem zm_X4_folded : zw_m yn_X4_folded cn_X4_folded 3 (some .int) 2 := ⟨zt_m 6 (by decide +kernel) (by decide +kernel), zt_m 902 rfl rfl, by decide, by decide, by decide +kernel⟩
theorem zv_X4_folded : zw_v yn_X4_folded := ⟨zt_m 900 (by decide +kernel) (by decide +kernel), zt_m 901 (by decide +kernel) (by decide +kernel)⟩
theorem zm_X4_told : zw_m yn_X4_told cn_X4_told 4 (some .int) 1 := ⟨zt_m 6 (by decide +kernel) (by decide +kernel), zt_m 906 rfl rfl, by decide, by decide, by decide +kernel⟩
theorem zv_X4_told : zw_v yn_X4_told := ⟨zt_m 904 (by decide +kernel) (by decide +kernel), zt_m 905 (by decide +kernel) (by decide +kernel)⟩
theorem zm_XA_fill : zw_m yn_XA_fill cn_XA_fill 4 none 2 := ⟨zt_m 4 (by decide +kernel) (by decide +kernel), zt_m 35 rfl rfl, by decide, by decide, by decide +kernel⟩
theorem zs_XA_fill : Cond.static yn_XA_fill ∈ zt_ws := zt_m 34 (by decide +kernel) (by decide +kernel)
end
