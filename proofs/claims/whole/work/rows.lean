section
-- ===== PART A: goes FIRST, ahead of the names: the tables' words, and 'selects' of the private methods out of them =====
/-- a private method of a class that the tables say can be made, by its rows of tables_1 -/
def lw_okq (q : MethodName × Nat) : Prop := (q.1.cls ≠ "java/lang/invoke/MethodHandle" ∧ q.1.cls ≠ "java/lang/invoke/VarHandle") ∧ Cond.instantiable q.1.cls q.2 ∈ tables_1 ∧ Cond.privateMethod q.1 ∈ tables_1 ∧ Cond.instanceMethod q.1 ∈ tables_1
theorem lw_p0 : lw_okq (⟨"RepeatWays$Way", "go", "()I"⟩, 15) := ⟨⟨by decide +kernel, by decide +kernel⟩, List.mem_of_getElem? (i := 22) (by decide +kernel), List.mem_of_getElem? (i := 231) (by decide +kernel), List.mem_of_getElem? (i := 232) (by decide +kernel)⟩
theorem lw_p1 : lw_okq (⟨"RepeatWays$Way", "forget", "()V"⟩, 15) := ⟨⟨by decide +kernel, by decide +kernel⟩, List.mem_of_getElem? (i := 22) (by decide +kernel), List.mem_of_getElem? (i := 235) (by decide +kernel), List.mem_of_getElem? (i := 236) (by decide +kernel)⟩
theorem lw_p2 : lw_okq (⟨"RepeatWays$Way", "leaveAll", "()V"⟩, 15) := ⟨⟨by decide +kernel, by decide +kernel⟩, List.mem_of_getElem? (i := 22) (by decide +kernel), List.mem_of_getElem? (i := 240) (by decide +kernel), List.mem_of_getElem? (i := 241) (by decide +kernel)⟩
theorem lw_p3 : lw_okq (⟨"RepeatWays$Way", "setFault", "(II)V"⟩, 15) := ⟨⟨by decide +kernel, by decide +kernel⟩, List.mem_of_getElem? (i := 22) (by decide +kernel), List.mem_of_getElem? (i := 244) (by decide +kernel), List.mem_of_getElem? (i := 245) (by decide +kernel)⟩
theorem lw_p4 : lw_okq (⟨"RepeatWays$Way", "findFaultOfJumps", "()V"⟩, 15) := ⟨⟨by decide +kernel, by decide +kernel⟩, List.mem_of_getElem? (i := 22) (by decide +kernel), List.mem_of_getElem? (i := 248) (by decide +kernel), List.mem_of_getElem? (i := 249) (by decide +kernel)⟩
theorem lw_p5 : lw_okq (⟨"RepeatWays$Score", "hasJump", "(I)Z"⟩, 19) := ⟨⟨by decide +kernel, by decide +kernel⟩, List.mem_of_getElem? (i := 28) (by decide +kernel), List.mem_of_getElem? (i := 252) (by decide +kernel), List.mem_of_getElem? (i := 253) (by decide +kernel)⟩
theorem lw_p6 : lw_okq (⟨"RepeatWays$Score", "faultOfJump", "(I)I"⟩, 19) := ⟨⟨by decide +kernel, by decide +kernel⟩, List.mem_of_getElem? (i := 28) (by decide +kernel), List.mem_of_getElem? (i := 256) (by decide +kernel), List.mem_of_getElem? (i := 257) (by decide +kernel)⟩
theorem lw_p7 : lw_okq (⟨"RepeatWays$Score", "lacksSign", "(I)Z"⟩, 19) := ⟨⟨by decide +kernel, by decide +kernel⟩, List.mem_of_getElem? (i := 28) (by decide +kernel), List.mem_of_getElem? (i := 260) (by decide +kernel), List.mem_of_getElem? (i := 261) (by decide +kernel)⟩
theorem lw_p8 : lw_okq (⟨"RepeatWays$Way", "playFromFirstBar", "()V"⟩, 15) := ⟨⟨by decide +kernel, by decide +kernel⟩, List.mem_of_getElem? (i := 22) (by decide +kernel), List.mem_of_getElem? (i := 264) (by decide +kernel), List.mem_of_getElem? (i := 265) (by decide +kernel)⟩
theorem lw_p9 : lw_okq (⟨"RepeatWays$Way", "comeTo", "(I)I"⟩, 15) := ⟨⟨by decide +kernel, by decide +kernel⟩, List.mem_of_getElem? (i := 22) (by decide +kernel), List.mem_of_getElem? (i := 269) (by decide +kernel), List.mem_of_getElem? (i := 270) (by decide +kernel)⟩
theorem lw_p10 : lw_okq (⟨"RepeatWays$Way", "openAround", "(I)V"⟩, 15) := ⟨⟨by decide +kernel, by decide +kernel⟩, List.mem_of_getElem? (i := 22) (by decide +kernel), List.mem_of_getElem? (i := 273) (by decide +kernel), List.mem_of_getElem? (i := 274) (by decide +kernel)⟩
theorem lw_p11 : lw_okq (⟨"RepeatWays$Score", "repeatAround", "(II)I"⟩, 19) := ⟨⟨by decide +kernel, by decide +kernel⟩, List.mem_of_getElem? (i := 28) (by decide +kernel), List.mem_of_getElem? (i := 277) (by decide +kernel), List.mem_of_getElem? (i := 278) (by decide +kernel)⟩
theorem lw_p12 : lw_okq (⟨"RepeatWays$Way", "isLeftOut", "(I)Z"⟩, 15) := ⟨⟨by decide +kernel, by decide +kernel⟩, List.mem_of_getElem? (i := 22) (by decide +kernel), List.mem_of_getElem? (i := 281) (by decide +kernel), List.mem_of_getElem? (i := 282) (by decide +kernel)⟩
theorem lw_p13 : lw_okq (⟨"RepeatWays$Way", "leaveWithin", "(I)V"⟩, 15) := ⟨⟨by decide +kernel, by decide +kernel⟩, List.mem_of_getElem? (i := 22) (by decide +kernel), List.mem_of_getElem? (i := 285) (by decide +kernel), List.mem_of_getElem? (i := 286) (by decide +kernel)⟩
theorem lw_p14 : lw_okq (⟨"RepeatWays$Score", "isRepeatWithinEnding", "(II)Z"⟩, 19) := ⟨⟨by decide +kernel, by decide +kernel⟩, List.mem_of_getElem? (i := 28) (by decide +kernel), List.mem_of_getElem? (i := 289) (by decide +kernel), List.mem_of_getElem? (i := 290) (by decide +kernel)⟩
theorem lw_p15 : lw_okq (⟨"RepeatWays$Way", "endOf", "(I)I"⟩, 15) := ⟨⟨by decide +kernel, by decide +kernel⟩, List.mem_of_getElem? (i := 22) (by decide +kernel), List.mem_of_getElem? (i := 296) (by decide +kernel), List.mem_of_getElem? (i := 297) (by decide +kernel)⟩
def lw_privs_1 : List (MethodName × Nat) := [(⟨"RepeatWays$Way", "go", "()I"⟩, 15), (⟨"RepeatWays$Way", "forget", "()V"⟩, 15), (⟨"RepeatWays$Way", "leaveAll", "()V"⟩, 15), (⟨"RepeatWays$Way", "setFault", "(II)V"⟩, 15), (⟨"RepeatWays$Way", "findFaultOfJumps", "()V"⟩, 15), (⟨"RepeatWays$Score", "hasJump", "(I)Z"⟩, 19), (⟨"RepeatWays$Score", "faultOfJump", "(I)I"⟩, 19), (⟨"RepeatWays$Score", "lacksSign", "(I)Z"⟩, 19), (⟨"RepeatWays$Way", "playFromFirstBar", "()V"⟩, 15), (⟨"RepeatWays$Way", "comeTo", "(I)I"⟩, 15), (⟨"RepeatWays$Way", "openAround", "(I)V"⟩, 15), (⟨"RepeatWays$Score", "repeatAround", "(II)I"⟩, 19), (⟨"RepeatWays$Way", "isLeftOut", "(I)Z"⟩, 15), (⟨"RepeatWays$Way", "leaveWithin", "(I)V"⟩, 15), (⟨"RepeatWays$Score", "isRepeatWithinEnding", "(II)Z"⟩, 19), (⟨"RepeatWays$Way", "endOf", "(I)I"⟩, 15)]
theorem lw_r1 : ∀ q ∈ lw_privs_1, lw_okq q := List.forall_mem_cons.mpr ⟨lw_p0, List.forall_mem_cons.mpr ⟨lw_p1, List.forall_mem_cons.mpr ⟨lw_p2, List.forall_mem_cons.mpr ⟨lw_p3, List.forall_mem_cons.mpr ⟨lw_p4, List.forall_mem_cons.mpr ⟨lw_p5, List.forall_mem_cons.mpr ⟨lw_p6, List.forall_mem_cons.mpr ⟨lw_p7, List.forall_mem_cons.mpr ⟨lw_p8, List.forall_mem_cons.mpr ⟨lw_p9, List.forall_mem_cons.mpr ⟨lw_p10, List.forall_mem_cons.mpr ⟨lw_p11, List.forall_mem_cons.mpr ⟨lw_p12, List.forall_mem_cons.mpr ⟨lw_p13, List.forall_mem_cons.mpr ⟨lw_p14, List.forall_mem_cons.mpr ⟨lw_p15, fun _ h => absurd h List.not_mem_nil⟩⟩⟩⟩⟩⟩⟩⟩⟩⟩⟩⟩⟩⟩⟩⟩
theorem lw_p16 : lw_okq (⟨"RepeatWays$Way", "play", "(I)V"⟩, 15) := ⟨⟨by decide +kernel, by decide +kernel⟩, List.mem_of_getElem? (i := 22) (by decide +kernel), List.mem_of_getElem? (i := 300) (by decide +kernel), List.mem_of_getElem? (i := 301) (by decide +kernel)⟩
theorem lw_p17 : lw_okq (⟨"RepeatWays$Way", "behind", "(I)I"⟩, 15) := ⟨⟨by decide +kernel, by decide +kernel⟩, List.mem_of_getElem? (i := 22) (by decide +kernel), List.mem_of_getElem? (i := 304) (by decide +kernel), List.mem_of_getElem? (i := 305) (by decide +kernel)⟩
theorem lw_p18 : lw_okq (⟨"RepeatWays$Way", "isInLastPasses", "(I)Z"⟩, 15) := ⟨⟨by decide +kernel, by decide +kernel⟩, List.mem_of_getElem? (i := 22) (by decide +kernel), List.mem_of_getElem? (i := 308) (by decide +kernel), List.mem_of_getElem? (i := 309) (by decide +kernel)⟩
theorem lw_p19 : lw_okq (⟨"RepeatWays$Way", "isLatestJumpTill", "(I)Z"⟩, 15) := ⟨⟨by decide +kernel, by decide +kernel⟩, List.mem_of_getElem? (i := 22) (by decide +kernel), List.mem_of_getElem? (i := 312) (by decide +kernel), List.mem_of_getElem? (i := 313) (by decide +kernel)⟩
theorem lw_p20 : lw_okq (⟨"RepeatWays$Way", "act", "(I)I"⟩, 15) := ⟨⟨by decide +kernel, by decide +kernel⟩, List.mem_of_getElem? (i := 22) (by decide +kernel), List.mem_of_getElem? (i := 316) (by decide +kernel), List.mem_of_getElem? (i := 317) (by decide +kernel)⟩
theorem lw_p21 : lw_okq (⟨"java/lang/Throwable", "fillInStackTrace", "(I)Ljava/lang/Throwable;"⟩, 6) := ⟨⟨by decide +kernel, by decide +kernel⟩, List.mem_of_getElem? (i := 370) (by decide +kernel), List.mem_of_getElem? (i := 368) (by decide +kernel), List.mem_of_getElem? (i := 369) (by decide +kernel)⟩
theorem lw_p22 : lw_okq (⟨"RepeatWays$Score", "addBar", "(I)I"⟩, 19) := ⟨⟨by decide +kernel, by decide +kernel⟩, List.mem_of_getElem? (i := 28) (by decide +kernel), List.mem_of_getElem? (i := 400) (by decide +kernel), List.mem_of_getElem? (i := 401) (by decide +kernel)⟩
theorem lw_p23 : lw_okq (⟨"RepeatWays$Score", "hasBar", "(I)Z"⟩, 19) := ⟨⟨by decide +kernel, by decide +kernel⟩, List.mem_of_getElem? (i := 28) (by decide +kernel), List.mem_of_getElem? (i := 413) (by decide +kernel), List.mem_of_getElem? (i := 414) (by decide +kernel)⟩
theorem lw_p24 : lw_okq (⟨"RepeatWays$Score", "takesRepeat", "(II)Z"⟩, 19) := ⟨⟨by decide +kernel, by decide +kernel⟩, List.mem_of_getElem? (i := 28) (by decide +kernel), List.mem_of_getElem? (i := 449) (by decide +kernel), List.mem_of_getElem? (i := 450) (by decide +kernel)⟩
theorem lw_p25 : lw_okq (⟨"RepeatWays$Score", "liesWellByRepeats", "(II)Z"⟩, 19) := ⟨⟨by decide +kernel, by decide +kernel⟩, List.mem_of_getElem? (i := 28) (by decide +kernel), List.mem_of_getElem? (i := 453) (by decide +kernel), List.mem_of_getElem? (i := 454) (by decide +kernel)⟩
theorem lw_p26 : lw_okq (⟨"RepeatWays$Score", "hasSameRepeat", "(II)Z"⟩, 19) := ⟨⟨by decide +kernel, by decide +kernel⟩, List.mem_of_getElem? (i := 28) (by decide +kernel), List.mem_of_getElem? (i := 460) (by decide +kernel), List.mem_of_getElem? (i := 461) (by decide +kernel)⟩
theorem lw_p27 : lw_okq (⟨"RepeatWays$Score", "liesWellByEndings", "(II)Z"⟩, 19) := ⟨⟨by decide +kernel, by decide +kernel⟩, List.mem_of_getElem? (i := 28) (by decide +kernel), List.mem_of_getElem? (i := 464) (by decide +kernel), List.mem_of_getElem? (i := 465) (by decide +kernel)⟩
theorem lw_p28 : lw_okq (⟨"RepeatWays$Score", "isDepthLeft", "(II)Z"⟩, 19) := ⟨⟨by decide +kernel, by decide +kernel⟩, List.mem_of_getElem? (i := 28) (by decide +kernel), List.mem_of_getElem? (i := 468) (by decide +kernel), List.mem_of_getElem? (i := 469) (by decide +kernel)⟩
theorem lw_p29 : lw_okq (⟨"RepeatWays$Score", "addRepeat", "(III)I"⟩, 19) := ⟨⟨by decide +kernel, by decide +kernel⟩, List.mem_of_getElem? (i := 28) (by decide +kernel), List.mem_of_getElem? (i := 473) (by decide +kernel), List.mem_of_getElem? (i := 474) (by decide +kernel)⟩
theorem lw_p30 : lw_okq (⟨"RepeatWays$Score", "putAround", "(II)V"⟩, 19) := ⟨⟨by decide +kernel, by decide +kernel⟩, List.mem_of_getElem? (i := 28) (by decide +kernel), List.mem_of_getElem? (i := 477) (by decide +kernel), List.mem_of_getElem? (i := 478) (by decide +kernel)⟩
theorem lw_p31 : lw_okq (⟨"RepeatWays$Score", "isRepeatWithin", "(II)Z"⟩, 19) := ⟨⟨by decide +kernel, by decide +kernel⟩, List.mem_of_getElem? (i := 28) (by decide +kernel), List.mem_of_getElem? (i := 481) (by decide +kernel), List.mem_of_getElem? (i := 482) (by decide +kernel)⟩
def lw_privs_2 : List (MethodName × Nat) := [(⟨"RepeatWays$Way", "play", "(I)V"⟩, 15), (⟨"RepeatWays$Way", "behind", "(I)I"⟩, 15), (⟨"RepeatWays$Way", "isInLastPasses", "(I)Z"⟩, 15), (⟨"RepeatWays$Way", "isLatestJumpTill", "(I)Z"⟩, 15), (⟨"RepeatWays$Way", "act", "(I)I"⟩, 15), (⟨"java/lang/Throwable", "fillInStackTrace", "(I)Ljava/lang/Throwable;"⟩, 6), (⟨"RepeatWays$Score", "addBar", "(I)I"⟩, 19), (⟨"RepeatWays$Score", "hasBar", "(I)Z"⟩, 19), (⟨"RepeatWays$Score", "takesRepeat", "(II)Z"⟩, 19), (⟨"RepeatWays$Score", "liesWellByRepeats", "(II)Z"⟩, 19), (⟨"RepeatWays$Score", "hasSameRepeat", "(II)Z"⟩, 19), (⟨"RepeatWays$Score", "liesWellByEndings", "(II)Z"⟩, 19), (⟨"RepeatWays$Score", "isDepthLeft", "(II)Z"⟩, 19), (⟨"RepeatWays$Score", "addRepeat", "(III)I"⟩, 19), (⟨"RepeatWays$Score", "putAround", "(II)V"⟩, 19), (⟨"RepeatWays$Score", "isRepeatWithin", "(II)Z"⟩, 19)]
theorem lw_r2 : ∀ q ∈ lw_privs_2, lw_okq q := List.forall_mem_cons.mpr ⟨lw_p16, List.forall_mem_cons.mpr ⟨lw_p17, List.forall_mem_cons.mpr ⟨lw_p18, List.forall_mem_cons.mpr ⟨lw_p19, List.forall_mem_cons.mpr ⟨lw_p20, List.forall_mem_cons.mpr ⟨lw_p21, List.forall_mem_cons.mpr ⟨lw_p22, List.forall_mem_cons.mpr ⟨lw_p23, List.forall_mem_cons.mpr ⟨lw_p24, List.forall_mem_cons.mpr ⟨lw_p25, List.forall_mem_cons.mpr ⟨lw_p26, List.forall_mem_cons.mpr ⟨lw_p27, List.forall_mem_cons.mpr ⟨lw_p28, List.forall_mem_cons.mpr ⟨lw_p29, List.forall_mem_cons.mpr ⟨lw_p30, List.forall_mem_cons.mpr ⟨lw_p31, fun _ h => absurd h List.not_mem_nil⟩⟩⟩⟩⟩⟩⟩⟩⟩⟩⟩⟩⟩⟩⟩⟩
theorem lw_p32 : lw_okq (⟨"RepeatWays$Score", "hasRepeat", "(I)Z"⟩, 19) := ⟨⟨by decide +kernel, by decide +kernel⟩, List.mem_of_getElem? (i := 28) (by decide +kernel), List.mem_of_getElem? (i := 492) (by decide +kernel), List.mem_of_getElem? (i := 493) (by decide +kernel)⟩
theorem lw_p33 : lw_okq (⟨"RepeatWays$Score", "hasPasses", "(II)Z"⟩, 19) := ⟨⟨by decide +kernel, by decide +kernel⟩, List.mem_of_getElem? (i := 28) (by decide +kernel), List.mem_of_getElem? (i := 497) (by decide +kernel), List.mem_of_getElem? (i := 498) (by decide +kernel)⟩
theorem lw_p34 : lw_okq (⟨"RepeatWays$Score", "takesEnding", "(III)Z"⟩, 19) := ⟨⟨by decide +kernel, by decide +kernel⟩, List.mem_of_getElem? (i := 28) (by decide +kernel), List.mem_of_getElem? (i := 502) (by decide +kernel), List.mem_of_getElem? (i := 503) (by decide +kernel)⟩
theorem lw_p35 : lw_okq (⟨"RepeatWays$Score", "isApartFromEndings", "(II)Z"⟩, 19) := ⟨⟨by decide +kernel, by decide +kernel⟩, List.mem_of_getElem? (i := 28) (by decide +kernel), List.mem_of_getElem? (i := 506) (by decide +kernel), List.mem_of_getElem? (i := 507) (by decide +kernel)⟩
theorem lw_p36 : lw_okq (⟨"RepeatWays$Score", "addEnding", "(IIII)I"⟩, 19) := ⟨⟨by decide +kernel, by decide +kernel⟩, List.mem_of_getElem? (i := 28) (by decide +kernel), List.mem_of_getElem? (i := 511) (by decide +kernel), List.mem_of_getElem? (i := 512) (by decide +kernel)⟩
theorem lw_p37 : lw_okq (⟨"RepeatWays$Score", "moveSign", "(II)I"⟩, 19) := ⟨⟨by decide +kernel, by decide +kernel⟩, List.mem_of_getElem? (i := 28) (by decide +kernel), List.mem_of_getElem? (i := 523) (by decide +kernel), List.mem_of_getElem? (i := 524) (by decide +kernel)⟩
theorem lw_p38 : lw_okq (⟨"RepeatWays$Score", "putJump", "(IIIZ)V"⟩, 19) := ⟨⟨by decide +kernel, by decide +kernel⟩, List.mem_of_getElem? (i := 28) (by decide +kernel), List.mem_of_getElem? (i := 535) (by decide +kernel), List.mem_of_getElem? (i := 536) (by decide +kernel)⟩
theorem lw_p39 : lw_okq (⟨"RepeatWays$Score", "takeJump", "(I)V"⟩, 19) := ⟨⟨by decide +kernel, by decide +kernel⟩, List.mem_of_getElem? (i := 28) (by decide +kernel), List.mem_of_getElem? (i := 549) (by decide +kernel), List.mem_of_getElem? (i := 550) (by decide +kernel)⟩
theorem lw_p40 : lw_okq (⟨"RepeatWays$Writing", "writeRow", "(I)I"⟩, 11) := ⟨⟨by decide +kernel, by decide +kernel⟩, List.mem_of_getElem? (i := 172) (by decide +kernel), List.mem_of_getElem? (i := 585) (by decide +kernel), List.mem_of_getElem? (i := 586) (by decide +kernel)⟩
theorem lw_p41 : lw_okq (⟨"RepeatWays$Writing", "compareContents", "(I)V"⟩, 11) := ⟨⟨by decide +kernel, by decide +kernel⟩, List.mem_of_getElem? (i := 172) (by decide +kernel), List.mem_of_getElem? (i := 589) (by decide +kernel), List.mem_of_getElem? (i := 590) (by decide +kernel)⟩
theorem lw_p42 : lw_okq (⟨"RepeatWays$Writing", "choose", "(II)V"⟩, 11) := ⟨⟨by decide +kernel, by decide +kernel⟩, List.mem_of_getElem? (i := 172) (by decide +kernel), List.mem_of_getElem? (i := 596) (by decide +kernel), List.mem_of_getElem? (i := 597) (by decide +kernel)⟩
theorem lw_p43 : lw_okq (⟨"RepeatWays$Writing", "chooseBlock", "(II)V"⟩, 11) := ⟨⟨by decide +kernel, by decide +kernel⟩, List.mem_of_getElem? (i := 172) (by decide +kernel), List.mem_of_getElem? (i := 600) (by decide +kernel), List.mem_of_getElem? (i := 601) (by decide +kernel)⟩
theorem lw_p44 : lw_okq (⟨"RepeatWays$Writing", "chooseParts", "(II)V"⟩, 11) := ⟨⟨by decide +kernel, by decide +kernel⟩, List.mem_of_getElem? (i := 172) (by decide +kernel), List.mem_of_getElem? (i := 604) (by decide +kernel), List.mem_of_getElem? (i := 605) (by decide +kernel)⟩
theorem lw_p45 : lw_okq (⟨"RepeatWays$Writing", "writeItems", "(I)V"⟩, 11) := ⟨⟨by decide +kernel, by decide +kernel⟩, List.mem_of_getElem? (i := 172) (by decide +kernel), List.mem_of_getElem? (i := 608) (by decide +kernel), List.mem_of_getElem? (i := 609) (by decide +kernel)⟩
theorem lw_p46 : lw_okq (⟨"RepeatWays$Writing", "putAside", "(II)V"⟩, 11) := ⟨⟨by decide +kernel, by decide +kernel⟩, List.mem_of_getElem? (i := 172) (by decide +kernel), List.mem_of_getElem? (i := 612) (by decide +kernel), List.mem_of_getElem? (i := 613) (by decide +kernel)⟩
theorem lw_p47 : lw_okq (⟨"RepeatWays$Writing", "writePart", "(II)V"⟩, 11) := ⟨⟨by decide +kernel, by decide +kernel⟩, List.mem_of_getElem? (i := 172) (by decide +kernel), List.mem_of_getElem? (i := 616) (by decide +kernel), List.mem_of_getElem? (i := 617) (by decide +kernel)⟩
def lw_privs_3 : List (MethodName × Nat) := [(⟨"RepeatWays$Score", "hasRepeat", "(I)Z"⟩, 19), (⟨"RepeatWays$Score", "hasPasses", "(II)Z"⟩, 19), (⟨"RepeatWays$Score", "takesEnding", "(III)Z"⟩, 19), (⟨"RepeatWays$Score", "isApartFromEndings", "(II)Z"⟩, 19), (⟨"RepeatWays$Score", "addEnding", "(IIII)I"⟩, 19), (⟨"RepeatWays$Score", "moveSign", "(II)I"⟩, 19), (⟨"RepeatWays$Score", "putJump", "(IIIZ)V"⟩, 19), (⟨"RepeatWays$Score", "takeJump", "(I)V"⟩, 19), (⟨"RepeatWays$Writing", "writeRow", "(I)I"⟩, 11), (⟨"RepeatWays$Writing", "compareContents", "(I)V"⟩, 11), (⟨"RepeatWays$Writing", "choose", "(II)V"⟩, 11), (⟨"RepeatWays$Writing", "chooseBlock", "(II)V"⟩, 11), (⟨"RepeatWays$Writing", "chooseParts", "(II)V"⟩, 11), (⟨"RepeatWays$Writing", "writeItems", "(I)V"⟩, 11), (⟨"RepeatWays$Writing", "putAside", "(II)V"⟩, 11), (⟨"RepeatWays$Writing", "writePart", "(II)V"⟩, 11)]
theorem lw_r3 : ∀ q ∈ lw_privs_3, lw_okq q := List.forall_mem_cons.mpr ⟨lw_p32, List.forall_mem_cons.mpr ⟨lw_p33, List.forall_mem_cons.mpr ⟨lw_p34, List.forall_mem_cons.mpr ⟨lw_p35, List.forall_mem_cons.mpr ⟨lw_p36, List.forall_mem_cons.mpr ⟨lw_p37, List.forall_mem_cons.mpr ⟨lw_p38, List.forall_mem_cons.mpr ⟨lw_p39, List.forall_mem_cons.mpr ⟨lw_p40, List.forall_mem_cons.mpr ⟨lw_p41, List.forall_mem_cons.mpr ⟨lw_p42, List.forall_mem_cons.mpr ⟨lw_p43, List.forall_mem_cons.mpr ⟨lw_p44, List.forall_mem_cons.mpr ⟨lw_p45, List.forall_mem_cons.mpr ⟨lw_p46, List.forall_mem_cons.mpr ⟨lw_p47, fun _ h => absurd h List.not_mem_nil⟩⟩⟩⟩⟩⟩⟩⟩⟩⟩⟩⟩⟩⟩⟩⟩
theorem lw_p48 : lw_okq (⟨"RepeatWays$Writing", "addItem", "(II)V"⟩, 11) := ⟨⟨by decide +kernel, by decide +kernel⟩, List.mem_of_getElem? (i := 172) (by decide +kernel), List.mem_of_getElem? (i := 620) (by decide +kernel), List.mem_of_getElem? (i := 621) (by decide +kernel)⟩
theorem lw_p49 : lw_okq (⟨"RepeatWaysModel", "refuses", "(ZZZ)Z"⟩, 41) := ⟨⟨by decide +kernel, by decide +kernel⟩, List.mem_of_getElem? (i := 641) (by decide +kernel), List.mem_of_getElem? (i := 779) (by decide +kernel), List.mem_of_getElem? (i := 780) (by decide +kernel)⟩
theorem lw_p50 : lw_okq (⟨"RepeatWaysModel", "isBar", "(I)Z"⟩, 41) := ⟨⟨by decide +kernel, by decide +kernel⟩, List.mem_of_getElem? (i := 641) (by decide +kernel), List.mem_of_getElem? (i := 787) (by decide +kernel), List.mem_of_getElem? (i := 788) (by decide +kernel)⟩
theorem lw_p51 : lw_okq (⟨"RepeatWaysModel", "mayRepeat", "(II)Z"⟩, 41) := ⟨⟨by decide +kernel, by decide +kernel⟩, List.mem_of_getElem? (i := 641) (by decide +kernel), List.mem_of_getElem? (i := 791) (by decide +kernel), List.mem_of_getElem? (i := 792) (by decide +kernel)⟩
theorem lw_p52 : lw_okq (⟨"RepeatWaysModel", "isAround", "(II)Z"⟩, 41) := ⟨⟨by decide +kernel, by decide +kernel⟩, List.mem_of_getElem? (i := 641) (by decide +kernel), List.mem_of_getElem? (i := 804) (by decide +kernel), List.mem_of_getElem? (i := 805) (by decide +kernel)⟩
theorem lw_p53 : lw_okq (⟨"RepeatWaysModel", "mayEnd", "(III)Z"⟩, 41) := ⟨⟨by decide +kernel, by decide +kernel⟩, List.mem_of_getElem? (i := 641) (by decide +kernel), List.mem_of_getElem? (i := 812) (by decide +kernel), List.mem_of_getElem? (i := 813) (by decide +kernel)⟩
theorem lw_p54 : lw_okq (⟨"RepeatWaysModel", "forget", "()V"⟩, 41) := ⟨⟨by decide +kernel, by decide +kernel⟩, List.mem_of_getElem? (i := 641) (by decide +kernel), List.mem_of_getElem? (i := 832) (by decide +kernel), List.mem_of_getElem? (i := 833) (by decide +kernel)⟩
theorem lw_p55 : lw_okq (⟨"RepeatWaysModel", "leaveAll", "()V"⟩, 41) := ⟨⟨by decide +kernel, by decide +kernel⟩, List.mem_of_getElem? (i := 641) (by decide +kernel), List.mem_of_getElem? (i := 836) (by decide +kernel), List.mem_of_getElem? (i := 837) (by decide +kernel)⟩
theorem lw_p56 : lw_okq (⟨"RepeatWaysModel", "missing", "(I)I"⟩, 41) := ⟨⟨by decide +kernel, by decide +kernel⟩, List.mem_of_getElem? (i := 641) (by decide +kernel), List.mem_of_getElem? (i := 840) (by decide +kernel), List.mem_of_getElem? (i := 841) (by decide +kernel)⟩
theorem lw_p57 : lw_okq (⟨"RepeatWaysModel", "comeTo", "(I)V"⟩, 41) := ⟨⟨by decide +kernel, by decide +kernel⟩, List.mem_of_getElem? (i := 641) (by decide +kernel), List.mem_of_getElem? (i := 844) (by decide +kernel), List.mem_of_getElem? (i := 845) (by decide +kernel)⟩
theorem lw_p58 : lw_okq (⟨"RepeatWaysModel", "leaveWithin", "(III)V"⟩, 41) := ⟨⟨by decide +kernel, by decide +kernel⟩, List.mem_of_getElem? (i := 641) (by decide +kernel), List.mem_of_getElem? (i := 848) (by decide +kernel), List.mem_of_getElem? (i := 849) (by decide +kernel)⟩
theorem lw_p59 : lw_okq (⟨"RepeatWaysModel", "theEnd", "(I)V"⟩, 41) := ⟨⟨by decide +kernel, by decide +kernel⟩, List.mem_of_getElem? (i := 641) (by decide +kernel), List.mem_of_getElem? (i := 852) (by decide +kernel), List.mem_of_getElem? (i := 853) (by decide +kernel)⟩
theorem lw_p60 : lw_okq (⟨"RepeatWaysModel", "play", "(I)V"⟩, 41) := ⟨⟨by decide +kernel, by decide +kernel⟩, List.mem_of_getElem? (i := 641) (by decide +kernel), List.mem_of_getElem? (i := 856) (by decide +kernel), List.mem_of_getElem? (i := 857) (by decide +kernel)⟩
theorem lw_p61 : lw_okq (⟨"RepeatWaysModel", "aroundIt", "(IZ)I"⟩, 41) := ⟨⟨by decide +kernel, by decide +kernel⟩, List.mem_of_getElem? (i := 641) (by decide +kernel), List.mem_of_getElem? (i := 860) (by decide +kernel), List.mem_of_getElem? (i := 861) (by decide +kernel)⟩
theorem lw_p62 : lw_okq (⟨"RepeatWaysModel", "findWay", "(II)V"⟩, 41) := ⟨⟨by decide +kernel, by decide +kernel⟩, List.mem_of_getElem? (i := 641) (by decide +kernel), List.mem_of_getElem? (i := 884) (by decide +kernel), List.mem_of_getElem? (i := 885) (by decide +kernel)⟩
theorem lw_p63 : lw_okq (⟨"RepeatWaysModel", "isAgain", "(III)Z"⟩, 41) := ⟨⟨by decide +kernel, by decide +kernel⟩, List.mem_of_getElem? (i := 641) (by decide +kernel), List.mem_of_getElem? (i := 888) (by decide +kernel), List.mem_of_getElem? (i := 889) (by decide +kernel)⟩
def lw_privs_4 : List (MethodName × Nat) := [(⟨"RepeatWays$Writing", "addItem", "(II)V"⟩, 11), (⟨"RepeatWaysModel", "refuses", "(ZZZ)Z"⟩, 41), (⟨"RepeatWaysModel", "isBar", "(I)Z"⟩, 41), (⟨"RepeatWaysModel", "mayRepeat", "(II)Z"⟩, 41), (⟨"RepeatWaysModel", "isAround", "(II)Z"⟩, 41), (⟨"RepeatWaysModel", "mayEnd", "(III)Z"⟩, 41), (⟨"RepeatWaysModel", "forget", "()V"⟩, 41), (⟨"RepeatWaysModel", "leaveAll", "()V"⟩, 41), (⟨"RepeatWaysModel", "missing", "(I)I"⟩, 41), (⟨"RepeatWaysModel", "comeTo", "(I)V"⟩, 41), (⟨"RepeatWaysModel", "leaveWithin", "(III)V"⟩, 41), (⟨"RepeatWaysModel", "theEnd", "(I)V"⟩, 41), (⟨"RepeatWaysModel", "play", "(I)V"⟩, 41), (⟨"RepeatWaysModel", "aroundIt", "(IZ)I"⟩, 41), (⟨"RepeatWaysModel", "findWay", "(II)V"⟩, 41), (⟨"RepeatWaysModel", "isAgain", "(III)Z"⟩, 41)]
theorem lw_r4 : ∀ q ∈ lw_privs_4, lw_okq q := List.forall_mem_cons.mpr ⟨lw_p48, List.forall_mem_cons.mpr ⟨lw_p49, List.forall_mem_cons.mpr ⟨lw_p50, List.forall_mem_cons.mpr ⟨lw_p51, List.forall_mem_cons.mpr ⟨lw_p52, List.forall_mem_cons.mpr ⟨lw_p53, List.forall_mem_cons.mpr ⟨lw_p54, List.forall_mem_cons.mpr ⟨lw_p55, List.forall_mem_cons.mpr ⟨lw_p56, List.forall_mem_cons.mpr ⟨lw_p57, List.forall_mem_cons.mpr ⟨lw_p58, List.forall_mem_cons.mpr ⟨lw_p59, List.forall_mem_cons.mpr ⟨lw_p60, List.forall_mem_cons.mpr ⟨lw_p61, List.forall_mem_cons.mpr ⟨lw_p62, List.forall_mem_cons.mpr ⟨lw_p63, fun _ h => absurd h List.not_mem_nil⟩⟩⟩⟩⟩⟩⟩⟩⟩⟩⟩⟩⟩⟩⟩⟩
theorem lw_p64 : lw_okq (⟨"RepeatWaysModel", "write", "(I)V"⟩, 41) := ⟨⟨by decide +kernel, by decide +kernel⟩, List.mem_of_getElem? (i := 641) (by decide +kernel), List.mem_of_getElem? (i := 892) (by decide +kernel), List.mem_of_getElem? (i := 893) (by decide +kernel)⟩
theorem lw_p65 : lw_okq (⟨"RepeatWaysModel", "item", "(II)V"⟩, 41) := ⟨⟨by decide +kernel, by decide +kernel⟩, List.mem_of_getElem? (i := 641) (by decide +kernel), List.mem_of_getElem? (i := 896) (by decide +kernel), List.mem_of_getElem? (i := 897) (by decide +kernel)⟩
def lw_privs_5 : List (MethodName × Nat) := [(⟨"RepeatWaysModel", "write", "(I)V"⟩, 41), (⟨"RepeatWaysModel", "item", "(II)V"⟩, 41)]
theorem lw_r5 : ∀ q ∈ lw_privs_5, lw_okq q := List.forall_mem_cons.mpr ⟨lw_p64, List.forall_mem_cons.mpr ⟨lw_p65, fun _ h => absurd h List.not_mem_nil⟩⟩
def lw_privs : List (MethodName × Nat) := lw_privs_1 ++ (lw_privs_2 ++ (lw_privs_3 ++ (lw_privs_4 ++ (lw_privs_5))))
def lw_tbl : List Cond := k2_sels lw_privs ++ tables_1
theorem lw_privs_ok : ∀ q ∈ lw_privs, lw_okq q := by
  show ∀ q ∈ lw_privs_1 ++ (lw_privs_2 ++ (lw_privs_3 ++ (lw_privs_4 ++ (lw_privs_5)))), lw_okq q
  exact List.forall_mem_append.mpr ⟨lw_r1, List.forall_mem_append.mpr ⟨lw_r2, List.forall_mem_append.mpr ⟨lw_r3, List.forall_mem_append.mpr ⟨lw_r4, lw_r5⟩⟩⟩⟩
end
section
/-! ===== own names ===== -/
def rn_X0 : String := "RepeatWays"
def tn_X0 : u_T := fun k => match k with
  | 0 => ("RepeatWays", "way", "LRepeatWays$Way;", true)
  | 1 => ("RepeatWays", "score", "LRepeatWays$Score;", true)
  | _ => ("RepeatWays", "writing", "LRepeatWays$Writing;", true)
def ft_X0 : Nat → FieldType := fun k => match k with
  | 0 => .object "RepeatWays$Way"
  | 1 => .object "RepeatWays$Score"
  | _ => .object "RepeatWays$Writing"
theorem nm_X0 : ∀ a, a < 3 → ∀ b, b < 3 → a ≠ b → (tn_X0 a).2.1 ≠ (tn_X0 b).2.1 := by decide +kernel
theorem fk_X0 : ∀ k, k < 3 → parseFieldDescriptor (tn_X0 k).2.2.1 = some (ft_X0 k) := by decide +kernel
def rn_X1 : String := "RepeatWays$Score"
def tn_X1 : u_T := fun k => match k with
  | 0 => ("RepeatWays$Score", "contents", "[I", true)
  | 1 => ("RepeatWays$Score", "repeatFrom", "[I", true)
  | 2 => ("RepeatWays$Score", "repeatTo", "[I", true)
  | 3 => ("RepeatWays$Score", "repeatTimes", "[I", true)
  | 4 => ("RepeatWays$Score", "endingRepeat", "[I", true)
  | 5 => ("RepeatWays$Score", "endingFrom", "[I", true)
  | 6 => ("RepeatWays$Score", "endingTo", "[I", true)
  | 7 => ("RepeatWays$Score", "endingPasses", "[I", true)
  | 8 => ("RepeatWays$Score", "signBar", "[I", true)
  | 9 => ("RepeatWays$Score", "jumpTo", "[I", true)
  | 10 => ("RepeatWays$Score", "jumpTill", "[I", true)
  | 11 => ("RepeatWays$Score", "jumpRepeats", "[Z", true)
  | 12 => ("RepeatWays$Score", "around", "[I", true)
  | 13 => ("RepeatWays$Score", "depth", "[I", true)
  | 14 => ("RepeatWays$Score", "endingAt", "[I", true)
  | 15 => ("RepeatWays$Score", "bars", "I", false)
  | 16 => ("RepeatWays$Score", "repeats", "I", false)
  | 17 => ("RepeatWays$Score", "endings", "I", false)
  | _ => ("RepeatWays$Score", "jumps", "I", false)
def ft_X1 : Nat → FieldType := fun k => match k with
  | 0 => .array .int
  | 1 => .array .int
  | 2 => .array .int
  | 3 => .array .int
  | 4 => .array .int
  | 5 => .array .int
  | 6 => .array .int
  | 7 => .array .int
  | 8 => .array .int
  | 9 => .array .int
  | 10 => .array .int
  | 11 => .array .boolean
  | 12 => .array .int
  | 13 => .array .int
  | 14 => .array .int
  | 15 => .int
  | 16 => .int
  | 17 => .int
  | _ => .int
theorem nm_X1 : ∀ a, a < 19 → ∀ b, b < 19 → a ≠ b → (tn_X1 a).2.1 ≠ (tn_X1 b).2.1 := by decide +kernel
theorem fk_X1 : ∀ k, k < 19 → parseFieldDescriptor (tn_X1 k).2.2.1 = some (ft_X1 k) := by decide +kernel
def rn_X2 : String := "RepeatWays$Way"
def tn_X2 : u_T := fun k => match k with
  | 0 => ("RepeatWays$Way", "score", "LRepeatWays$Score;", true)
  | 1 => ("RepeatWays$Way", "barAt", "[I", true)
  | 2 => ("RepeatWays$Way", "jumpsBefore", "[I", true)
  | 3 => ("RepeatWays$Way", "innerPass", "[I", true)
  | 4 => ("RepeatWays$Way", "outerPass", "[I", true)
  | 5 => ("RepeatWays$Way", "playedOf", "[I", true)
  | 6 => ("RepeatWays$Way", "comeToOf", "[I", true)
  | 7 => ("RepeatWays$Way", "pass", "[I", true)
  | 8 => ("RepeatWays$Way", "acted", "[Z", true)
  | 9 => ("RepeatWays$Way", "count", "I", false)
  | 10 => ("RepeatWays$Way", "jumps", "I", false)
  | 11 => ("RepeatWays$Way", "latestJump", "I", false)
  | 12 => ("RepeatWays$Way", "wasAtCoda", "Z", false)
  | 13 => ("RepeatWays$Way", "faultKind", "I", false)
  | _ => ("RepeatWays$Way", "faultBar", "I", false)
def ft_X2 : Nat → FieldType := fun k => match k with
  | 0 => .object "RepeatWays$Score"
  | 1 => .array .int
  | 2 => .array .int
  | 3 => .array .int
  | 4 => .array .int
  | 5 => .array .int
  | 6 => .array .int
  | 7 => .array .int
  | 8 => .array .boolean
  | 9 => .int
  | 10 => .int
  | 11 => .int
  | 12 => .boolean
  | 13 => .int
  | _ => .int
theorem nm_X2 : ∀ a, a < 15 → ∀ b, b < 15 → a ≠ b → (tn_X2 a).2.1 ≠ (tn_X2 b).2.1 := by decide +kernel
theorem fk_X2 : ∀ k, k < 15 → parseFieldDescriptor (tn_X2 k).2.2.1 = some (ft_X2 k) := by decide +kernel
def rn_X3 : String := "RepeatWays$Writing"
def tn_X3 : u_T := fun k => match k with
  | 0 => ("RepeatWays$Writing", "row", "[I", true)
  | 1 => ("RepeatWays$Writing", "alike", "[I", true)
  | 2 => ("RepeatWays$Writing", "fewest", "[I", true)
  | 3 => ("RepeatWays$Writing", "chosen", "[I", true)
  | 4 => ("RepeatWays$Writing", "waitingStart", "[I", true)
  | 5 => ("RepeatWays$Writing", "waitingLength", "[I", true)
  | 6 => ("RepeatWays$Writing", "itemKind", "[I", true)
  | 7 => ("RepeatWays$Writing", "itemValue", "[I", true)
  | 8 => ("RepeatWays$Writing", "waiting", "I", false)
  | 9 => ("RepeatWays$Writing", "items", "I", false)
  | _ => ("RepeatWays$Writing", "bars", "I", false)
def ft_X3 : Nat → FieldType := fun k => match k with
  | 0 => .array .int
  | 1 => .array .int
  | 2 => .array .int
  | 3 => .array .int
  | 4 => .array .int
  | 5 => .array .int
  | 6 => .array .int
  | 7 => .array .int
  | 8 => .int
  | 9 => .int
  | _ => .int
theorem nm_X3 : ∀ a, a < 11 → ∀ b, b < 11 → a ≠ b → (tn_X3 a).2.1 ≠ (tn_X3 b).2.1 := by decide +kernel
theorem fk_X3 : ∀ k, k < 11 → parseFieldDescriptor (tn_X3 k).2.2.1 = some (ft_X3 k) := by decide +kernel
def rn_X4 : String := "RepeatWaysModel"
def tn_X4 : u_T := fun k => match k with
  | 0 => ("RepeatWaysModel", "thrown", "I", false)
  | 1 => ("RepeatWaysModel", "bars", "I", false)
  | 2 => ("RepeatWaysModel", "contents", "[I", true)
  | 3 => ("RepeatWaysModel", "repeats", "I", false)
  | 4 => ("RepeatWaysModel", "repeatFrom", "[I", true)
  | 5 => ("RepeatWaysModel", "repeatTo", "[I", true)
  | 6 => ("RepeatWaysModel", "repeatTimes", "[I", true)
  | 7 => ("RepeatWaysModel", "endings", "I", false)
  | 8 => ("RepeatWaysModel", "endingOf", "[I", true)
  | 9 => ("RepeatWaysModel", "endingFrom", "[I", true)
  | 10 => ("RepeatWaysModel", "endingTo", "[I", true)
  | 11 => ("RepeatWaysModel", "endingPasses", "[I", true)
  | 12 => ("RepeatWaysModel", "signAt", "[I", true)
  | 13 => ("RepeatWaysModel", "hasJump", "[Z", true)
  | 14 => ("RepeatWaysModel", "jumpTo", "[I", true)
  | 15 => ("RepeatWaysModel", "jumpTill", "[I", true)
  | 16 => ("RepeatWaysModel", "jumpRepeats", "[Z", true)
  | 17 => ("RepeatWaysModel", "faultBar", "I", false)
  | 18 => ("RepeatWaysModel", "many", "I", false)
  | 19 => ("RepeatWaysModel", "playedBar", "[I", true)
  | 20 => ("RepeatWaysModel", "playedJumps", "[I", true)
  | 21 => ("RepeatWaysModel", "playedInner", "[I", true)
  | 22 => ("RepeatWaysModel", "playedOuter", "[I", true)
  | 23 => ("RepeatWaysModel", "cameTo", "[I", true)
  | 24 => ("RepeatWaysModel", "acted", "I", false)
  | 25 => ("RepeatWaysModel", "pass", "[I", true)
  | 26 => ("RepeatWaysModel", "hasActed", "[Z", true)
  | 27 => ("RepeatWaysModel", "latest", "I", false)
  | 28 => ("RepeatWaysModel", "wasAtCoda", "Z", false)
  | 29 => ("RepeatWaysModel", "comes", "I", false)
  | 30 => ("RepeatWaysModel", "isTooLong", "Z", false)
  | 31 => ("RepeatWaysModel", "row", "[I", true)
  | 32 => ("RepeatWaysModel", "fewest", "[I", true)
  | 33 => ("RepeatWaysModel", "block", "[I", true)
  | 34 => ("RepeatWaysModel", "firstPart", "[I", true)
  | 35 => ("RepeatWaysModel", "items", "I", false)
  | 36 => ("RepeatWaysModel", "itemKind", "[I", true)
  | 37 => ("RepeatWaysModel", "itemValue", "[I", true)
  | 38 => ("RepeatWaysModel", "itemBars", "I", false)
  | 39 => ("RepeatWaysModel", "waitAt", "[I", true)
  | _ => ("RepeatWaysModel", "waitLong", "[I", true)
def ft_X4 : Nat → FieldType := fun k => match k with
  | 0 => .int
  | 1 => .int
  | 2 => .array .int
  | 3 => .int
  | 4 => .array .int
  | 5 => .array .int
  | 6 => .array .int
  | 7 => .int
  | 8 => .array .int
  | 9 => .array .int
  | 10 => .array .int
  | 11 => .array .int
  | 12 => .array .int
  | 13 => .array .boolean
  | 14 => .array .int
  | 15 => .array .int
  | 16 => .array .boolean
  | 17 => .int
  | 18 => .int
  | 19 => .array .int
  | 20 => .array .int
  | 21 => .array .int
  | 22 => .array .int
  | 23 => .array .int
  | 24 => .int
  | 25 => .array .int
  | 26 => .array .boolean
  | 27 => .int
  | 28 => .boolean
  | 29 => .int
  | 30 => .boolean
  | 31 => .array .int
  | 32 => .array .int
  | 33 => .array .int
  | 34 => .array .int
  | 35 => .int
  | 36 => .array .int
  | 37 => .array .int
  | 38 => .int
  | 39 => .array .int
  | _ => .array .int
theorem nm_X4 : ∀ a, a < 41 → ∀ b, b < 41 → a ≠ b → (tn_X4 a).2.1 ≠ (tn_X4 b).2.1 := by decide +kernel
theorem fk_X4 : ∀ k, k < 41 → parseFieldDescriptor (tn_X4 k).2.2.1 = some (ft_X4 k) := by decide +kernel
def rn_XL : String := "RepeatWaysLaw"
abbrev vw_Cl : List vw_C := [(rn_X0, tn_X0, 3), (rn_X1, tn_X1, 19), (rn_X2, tn_X2, 15), (rn_X3, tn_X3, 11), (rn_X4, tn_X4, 41)]
abbrev cn_X0_init : ByteArray := prog_1_method_1_code
def yn_X0_init : MethodName := ⟨rn_X0, "<init>", "()V"⟩
abbrev cn_X0_bar : ByteArray := prog_1_method_2_code
def yn_X0_bar : MethodName := ⟨rn_X0, "bar", "(I)I"⟩
abbrev cn_X0_repeat : ByteArray := prog_1_method_3_code
def yn_X0_repeat : MethodName := ⟨rn_X0, "repeat", "(III)I"⟩
abbrev cn_X0_ending : ByteArray := prog_1_method_4_code
def yn_X0_ending : MethodName := ⟨rn_X0, "ending", "(IIII)I"⟩
abbrev cn_X0_sign : ByteArray := prog_1_method_5_code
def yn_X0_sign : MethodName := ⟨rn_X0, "sign", "(II)I"⟩
abbrev cn_X0_jump : ByteArray := prog_1_method_6_code
def yn_X0_jump : MethodName := ⟨rn_X0, "jump", "(IIIZ)V"⟩
abbrev cn_X0_plain : ByteArray := prog_1_method_7_code
def yn_X0_plain : MethodName := ⟨rn_X0, "plain", "(I)V"⟩
abbrev cn_X0_unfold : ByteArray := prog_1_method_8_code
def yn_X0_unfold : MethodName := ⟨rn_X0, "unfold", "()I"⟩
abbrev cn_X0_fault : ByteArray := prog_1_method_9_code
def yn_X0_fault : MethodName := ⟨rn_X0, "fault", "()I"⟩
abbrev cn_X0_played : ByteArray := prog_1_method_10_code
def yn_X0_played : MethodName := ⟨rn_X0, "played", "(II)I"⟩
abbrev cn_X0_times : ByteArray := prog_1_method_11_code
def yn_X0_times : MethodName := ⟨rn_X0, "times", "(I)I"⟩
abbrev cn_X0_comes : ByteArray := prog_1_method_12_code
def yn_X0_comes : MethodName := ⟨rn_X0, "comes", "(I)I"⟩
abbrev cn_X0_fold : ByteArray := prog_1_method_13_code
def yn_X0_fold : MethodName := ⟨rn_X0, "fold", "(II)I"⟩
abbrev cn_X0_folded : ByteArray := prog_1_method_14_code
def yn_X0_folded : MethodName := ⟨rn_X0, "folded", "(II)I"⟩
abbrev cn_X0_told : ByteArray := prog_1_method_15_code
def yn_X0_told : MethodName := ⟨rn_X0, "told", "(I)I"⟩
abbrev cn_X1_init : ByteArray := prog_2_method_1_code
def yn_X1_init : MethodName := ⟨rn_X1, "<init>", "()V"⟩
abbrev cn_X1_hasBar : ByteArray := prog_2_method_2_code
def yn_X1_hasBar : MethodName := ⟨rn_X1, "hasBar", "(I)Z"⟩
abbrev cn_X1_hasRepeat : ByteArray := prog_2_method_3_code
def yn_X1_hasRepeat : MethodName := ⟨rn_X1, "hasRepeat", "(I)Z"⟩
abbrev cn_X1_hasJump : ByteArray := prog_2_method_4_code
def yn_X1_hasJump : MethodName := ⟨rn_X1, "hasJump", "(I)Z"⟩
abbrev cn_X1_hasPasses : ByteArray := prog_2_method_5_code
def yn_X1_hasPasses : MethodName := ⟨rn_X1, "hasPasses", "(II)Z"⟩
abbrev cn_X1_addBar : ByteArray := prog_2_method_6_code
def yn_X1_addBar : MethodName := ⟨rn_X1, "addBar", "(I)I"⟩
abbrev cn_X1_liesWithin : ByteArray := prog_2_method_7_code
def yn_X1_liesWithin : MethodName := ⟨rn_X1, "liesWithin", "(IIII)Z"⟩
abbrev cn_X1_liesWell : ByteArray := prog_2_method_8_code
def yn_X1_liesWell : MethodName := ⟨rn_X1, "liesWell", "(IIII)Z"⟩
abbrev cn_X1_takesRepeat : ByteArray := prog_2_method_9_code
def yn_X1_takesRepeat : MethodName := ⟨rn_X1, "takesRepeat", "(II)Z"⟩
abbrev cn_X1_takesEnding : ByteArray := prog_2_method_10_code
def yn_X1_takesEnding : MethodName := ⟨rn_X1, "takesEnding", "(III)Z"⟩
abbrev cn_X1_liesWellByRepeats : ByteArray := prog_2_method_11_code
def yn_X1_liesWellByRepeats : MethodName := ⟨rn_X1, "liesWellByRepeats", "(II)Z"⟩
abbrev cn_X1_hasSameRepeat : ByteArray := prog_2_method_12_code
def yn_X1_hasSameRepeat : MethodName := ⟨rn_X1, "hasSameRepeat", "(II)Z"⟩
abbrev cn_X1_liesWellByEndings : ByteArray := prog_2_method_13_code
def yn_X1_liesWellByEndings : MethodName := ⟨rn_X1, "liesWellByEndings", "(II)Z"⟩
abbrev cn_X1_isApartFromEndings : ByteArray := prog_2_method_14_code
def yn_X1_isApartFromEndings : MethodName := ⟨rn_X1, "isApartFromEndings", "(II)Z"⟩
abbrev cn_X1_isDepthLeft : ByteArray := prog_2_method_15_code
def yn_X1_isDepthLeft : MethodName := ⟨rn_X1, "isDepthLeft", "(II)Z"⟩
abbrev cn_X1_addRepeat : ByteArray := prog_2_method_16_code
def yn_X1_addRepeat : MethodName := ⟨rn_X1, "addRepeat", "(III)I"⟩
abbrev cn_X1_putAround : ByteArray := prog_2_method_17_code
def yn_X1_putAround : MethodName := ⟨rn_X1, "putAround", "(II)V"⟩
abbrev cn_X1_isRepeatWithin : ByteArray := prog_2_method_18_code
def yn_X1_isRepeatWithin : MethodName := ⟨rn_X1, "isRepeatWithin", "(II)Z"⟩
abbrev cn_X1_isRepeatWithinEnding : ByteArray := prog_2_method_19_code
def yn_X1_isRepeatWithinEnding : MethodName := ⟨rn_X1, "isRepeatWithinEnding", "(II)Z"⟩
abbrev cn_X1_repeatAround : ByteArray := prog_2_method_20_code
def yn_X1_repeatAround : MethodName := ⟨rn_X1, "repeatAround", "(II)I"⟩
abbrev cn_X1_addEnding : ByteArray := prog_2_method_21_code
def yn_X1_addEnding : MethodName := ⟨rn_X1, "addEnding", "(IIII)I"⟩
abbrev cn_X1_moveSign : ByteArray := prog_2_method_22_code
def yn_X1_moveSign : MethodName := ⟨rn_X1, "moveSign", "(II)I"⟩
abbrev cn_X1_putJump : ByteArray := prog_2_method_23_code
def yn_X1_putJump : MethodName := ⟨rn_X1, "putJump", "(IIIZ)V"⟩
abbrev cn_X1_takeJump : ByteArray := prog_2_method_24_code
def yn_X1_takeJump : MethodName := ⟨rn_X1, "takeJump", "(I)V"⟩
abbrev cn_X1_lacksSign : ByteArray := prog_2_method_25_code
def yn_X1_lacksSign : MethodName := ⟨rn_X1, "lacksSign", "(I)Z"⟩
abbrev cn_X1_faultOfJump : ByteArray := prog_2_method_26_code
def yn_X1_faultOfJump : MethodName := ⟨rn_X1, "faultOfJump", "(I)I"⟩
abbrev cn_X2_init : ByteArray := prog_3_method_1_code
def yn_X2_init : MethodName := ⟨rn_X2, "<init>", "()V"⟩
abbrev cn_X2_go : ByteArray := prog_3_method_2_code
def yn_X2_go : MethodName := ⟨rn_X2, "go", "()I"⟩
abbrev cn_X2_forget : ByteArray := prog_3_method_3_code
def yn_X2_forget : MethodName := ⟨rn_X2, "forget", "()V"⟩
abbrev cn_X2_setFault : ByteArray := prog_3_method_4_code
def yn_X2_setFault : MethodName := ⟨rn_X2, "setFault", "(II)V"⟩
abbrev cn_X2_findFaultOfJumps : ByteArray := prog_3_method_5_code
def yn_X2_findFaultOfJumps : MethodName := ⟨rn_X2, "findFaultOfJumps", "()V"⟩
abbrev cn_X2_playFromFirstBar : ByteArray := prog_3_method_6_code
def yn_X2_playFromFirstBar : MethodName := ⟨rn_X2, "playFromFirstBar", "()V"⟩
abbrev cn_X2_comeTo : ByteArray := prog_3_method_7_code
def yn_X2_comeTo : MethodName := ⟨rn_X2, "comeTo", "(I)I"⟩
abbrev cn_X2_openAround : ByteArray := prog_3_method_8_code
def yn_X2_openAround : MethodName := ⟨rn_X2, "openAround", "(I)V"⟩
abbrev cn_X2_isLeftOut : ByteArray := prog_3_method_9_code
def yn_X2_isLeftOut : MethodName := ⟨rn_X2, "isLeftOut", "(I)Z"⟩
abbrev cn_X2_leaveWithin : ByteArray := prog_3_method_10_code
def yn_X2_leaveWithin : MethodName := ⟨rn_X2, "leaveWithin", "(I)V"⟩
abbrev cn_X2_leaveAll : ByteArray := prog_3_method_11_code
def yn_X2_leaveAll : MethodName := ⟨rn_X2, "leaveAll", "()V"⟩
abbrev cn_X2_play : ByteArray := prog_3_method_12_code
def yn_X2_play : MethodName := ⟨rn_X2, "play", "(I)V"⟩
abbrev cn_X2_behind : ByteArray := prog_3_method_13_code
def yn_X2_behind : MethodName := ⟨rn_X2, "behind", "(I)I"⟩
abbrev cn_X2_isInLastPasses : ByteArray := prog_3_method_14_code
def yn_X2_isInLastPasses : MethodName := ⟨rn_X2, "isInLastPasses", "(I)Z"⟩
abbrev cn_X2_isLatestJumpTill : ByteArray := prog_3_method_15_code
def yn_X2_isLatestJumpTill : MethodName := ⟨rn_X2, "isLatestJumpTill", "(I)Z"⟩
abbrev cn_X2_act : ByteArray := prog_3_method_16_code
def yn_X2_act : MethodName := ⟨rn_X2, "act", "(I)I"⟩
abbrev cn_X2_endOf : ByteArray := prog_3_method_17_code
def yn_X2_endOf : MethodName := ⟨rn_X2, "endOf", "(I)I"⟩
abbrev cn_X3_init : ByteArray := prog_4_method_1_code
def yn_X3_init : MethodName := ⟨rn_X3, "<init>", "()V"⟩
abbrev cn_X3_cell : ByteArray := prog_4_method_2_code
def yn_X3_cell : MethodName := ⟨rn_X3, "cell", "(II)I"⟩
abbrev cn_X3_writeRow : ByteArray := prog_4_method_3_code
def yn_X3_writeRow : MethodName := ⟨rn_X3, "writeRow", "(I)I"⟩
abbrev cn_X3_compareContents : ByteArray := prog_4_method_4_code
def yn_X3_compareContents : MethodName := ⟨rn_X3, "compareContents", "(I)V"⟩
abbrev cn_X3_choose : ByteArray := prog_4_method_5_code
def yn_X3_choose : MethodName := ⟨rn_X3, "choose", "(II)V"⟩
abbrev cn_X3_chooseBlock : ByteArray := prog_4_method_6_code
def yn_X3_chooseBlock : MethodName := ⟨rn_X3, "chooseBlock", "(II)V"⟩
abbrev cn_X3_chooseParts : ByteArray := prog_4_method_7_code
def yn_X3_chooseParts : MethodName := ⟨rn_X3, "chooseParts", "(II)V"⟩
abbrev cn_X3_writeItems : ByteArray := prog_4_method_8_code
def yn_X3_writeItems : MethodName := ⟨rn_X3, "writeItems", "(I)V"⟩
abbrev cn_X3_writePart : ByteArray := prog_4_method_9_code
def yn_X3_writePart : MethodName := ⟨rn_X3, "writePart", "(II)V"⟩
abbrev cn_X3_putAside : ByteArray := prog_4_method_10_code
def yn_X3_putAside : MethodName := ⟨rn_X3, "putAside", "(II)V"⟩
abbrev cn_X3_addItem : ByteArray := prog_4_method_11_code
def yn_X3_addItem : MethodName := ⟨rn_X3, "addItem", "(II)V"⟩
abbrev cn_X4_init : ByteArray := prog_6_method_1_code
def yn_X4_init : MethodName := ⟨rn_X4, "<init>", "()V"⟩
abbrev cn_X4_thrown : ByteArray := prog_6_method_2_code
def yn_X4_thrown : MethodName := ⟨rn_X4, "thrown", "()I"⟩
abbrev cn_X4_refuses : ByteArray := prog_6_method_3_code
def yn_X4_refuses : MethodName := ⟨rn_X4, "refuses", "(ZZZ)Z"⟩
abbrev cn_X4_isBar : ByteArray := prog_6_method_4_code
def yn_X4_isBar : MethodName := ⟨rn_X4, "isBar", "(I)Z"⟩
abbrev cn_X4_bar : ByteArray := prog_6_method_5_code
def yn_X4_bar : MethodName := ⟨rn_X4, "bar", "(I)I"⟩
abbrev cn_X4_isApart : ByteArray := prog_6_method_6_code
def yn_X4_isApart : MethodName := ⟨rn_X4, "isApart", "(IIII)Z"⟩
abbrev cn_X4_isWithin : ByteArray := prog_6_method_7_code
def yn_X4_isWithin : MethodName := ⟨rn_X4, "isWithin", "(IIII)Z"⟩
abbrev cn_X4_liesWell : ByteArray := prog_6_method_8_code
def yn_X4_liesWell : MethodName := ⟨rn_X4, "liesWell", "(IIII)Z"⟩
abbrev cn_X4_isAround : ByteArray := prog_6_method_9_code
def yn_X4_isAround : MethodName := ⟨rn_X4, "isAround", "(II)Z"⟩
abbrev cn_X4_mayRepeat : ByteArray := prog_6_method_10_code
def yn_X4_mayRepeat : MethodName := ⟨rn_X4, "mayRepeat", "(II)Z"⟩
abbrev cn_X4_repeat : ByteArray := prog_6_method_11_code
def yn_X4_repeat : MethodName := ⟨rn_X4, "repeat", "(III)I"⟩
abbrev cn_X4_mayEnd : ByteArray := prog_6_method_12_code
def yn_X4_mayEnd : MethodName := ⟨rn_X4, "mayEnd", "(III)Z"⟩
abbrev cn_X4_ending : ByteArray := prog_6_method_13_code
def yn_X4_ending : MethodName := ⟨rn_X4, "ending", "(IIII)I"⟩
abbrev cn_X4_sign : ByteArray := prog_6_method_14_code
def yn_X4_sign : MethodName := ⟨rn_X4, "sign", "(II)I"⟩
abbrev cn_X4_jump : ByteArray := prog_6_method_15_code
def yn_X4_jump : MethodName := ⟨rn_X4, "jump", "(IIIZ)V"⟩
abbrev cn_X4_plain : ByteArray := prog_6_method_16_code
def yn_X4_plain : MethodName := ⟨rn_X4, "plain", "(I)V"⟩
abbrev cn_X4_missing : ByteArray := prog_6_method_17_code
def yn_X4_missing : MethodName := ⟨rn_X4, "missing", "(I)I"⟩
abbrev cn_X4_forget : ByteArray := prog_6_method_18_code
def yn_X4_forget : MethodName := ⟨rn_X4, "forget", "()V"⟩
abbrev cn_X4_leaveAll : ByteArray := prog_6_method_19_code
def yn_X4_leaveAll : MethodName := ⟨rn_X4, "leaveAll", "()V"⟩
abbrev cn_X4_unfold : ByteArray := prog_6_method_20_code
def yn_X4_unfold : MethodName := ⟨rn_X4, "unfold", "()I"⟩
abbrev cn_X4_comeTo : ByteArray := prog_6_method_21_code
def yn_X4_comeTo : MethodName := ⟨rn_X4, "comeTo", "(I)V"⟩
abbrev cn_X4_leaveWithin : ByteArray := prog_6_method_22_code
def yn_X4_leaveWithin : MethodName := ⟨rn_X4, "leaveWithin", "(III)V"⟩
abbrev cn_X4_aroundIt : ByteArray := prog_6_method_23_code
def yn_X4_aroundIt : MethodName := ⟨rn_X4, "aroundIt", "(IZ)I"⟩
abbrev cn_X4_play : ByteArray := prog_6_method_24_code
def yn_X4_play : MethodName := ⟨rn_X4, "play", "(I)V"⟩
abbrev cn_X4_theEnd : ByteArray := prog_6_method_25_code
def yn_X4_theEnd : MethodName := ⟨rn_X4, "theEnd", "(I)V"⟩
abbrev cn_X4_fault : ByteArray := prog_6_method_26_code
def yn_X4_fault : MethodName := ⟨rn_X4, "fault", "()I"⟩
abbrev cn_X4_played : ByteArray := prog_6_method_27_code
def yn_X4_played : MethodName := ⟨rn_X4, "played", "(II)I"⟩
abbrev cn_X4_times : ByteArray := prog_6_method_28_code
def yn_X4_times : MethodName := ⟨rn_X4, "times", "(I)I"⟩
abbrev cn_X4_comes : ByteArray := prog_6_method_29_code
def yn_X4_comes : MethodName := ⟨rn_X4, "comes", "(I)I"⟩
abbrev cn_X4_fold : ByteArray := prog_6_method_30_code
def yn_X4_fold : MethodName := ⟨rn_X4, "fold", "(II)I"⟩
abbrev cn_X4_isAgain : ByteArray := prog_6_method_31_code
def yn_X4_isAgain : MethodName := ⟨rn_X4, "isAgain", "(III)Z"⟩
abbrev cn_X4_findWay : ByteArray := prog_6_method_32_code
def yn_X4_findWay : MethodName := ⟨rn_X4, "findWay", "(II)V"⟩
abbrev cn_X4_item : ByteArray := prog_6_method_33_code
def yn_X4_item : MethodName := ⟨rn_X4, "item", "(II)V"⟩
abbrev cn_X4_write : ByteArray := prog_6_method_34_code
def yn_X4_write : MethodName := ⟨rn_X4, "write", "(I)V"⟩
abbrev cn_X4_folded : ByteArray := prog_6_method_35_code
def yn_X4_folded : MethodName := ⟨rn_X4, "folded", "(II)I"⟩
abbrev cn_X4_told : ByteArray := prog_6_method_36_code
def yn_X4_told : MethodName := ⟨rn_X4, "told", "(I)I"⟩
abbrev cn_XA_fill : ByteArray := prog_14_method_103_code
def yn_XA_fill : MethodName := ⟨"java/util/Arrays", "fill", "([II)V"⟩
abbrev cn_XL_bar : ByteArray := method_3_code
def yn_XL_bar : MethodName := ⟨rn_XL, "bar", "(LRepeatWays;I[J)I"⟩
abbrev cn_XL_repeat : ByteArray := method_4_code
def yn_XL_repeat : MethodName := ⟨rn_XL, "repeat", "(LRepeatWays;III[J)I"⟩
abbrev cn_XL_ending : ByteArray := method_5_code
def yn_XL_ending : MethodName := ⟨rn_XL, "ending", "(LRepeatWays;IIII[J)I"⟩
abbrev cn_XL_sign : ByteArray := method_6_code
def yn_XL_sign : MethodName := ⟨rn_XL, "sign", "(LRepeatWays;II[J)I"⟩
abbrev cn_XL_jump : ByteArray := method_7_code
def yn_XL_jump : MethodName := ⟨rn_XL, "jump", "(LRepeatWays;IIIZ)I"⟩
abbrev cn_XL_plain : ByteArray := method_8_code
def yn_XL_plain : MethodName := ⟨rn_XL, "plain", "(LRepeatWays;I)I"⟩
abbrev cn_XL_played : ByteArray := method_9_code
def yn_XL_played : MethodName := ⟨rn_XL, "played", "(LRepeatWays;II[J)I"⟩
abbrev cn_XL_times : ByteArray := method_10_code
def yn_XL_times : MethodName := ⟨rn_XL, "times", "(LRepeatWays;I[J)I"⟩
abbrev cn_XL_comes : ByteArray := method_11_code
def yn_XL_comes : MethodName := ⟨rn_XL, "comes", "(LRepeatWays;I[J)I"⟩
abbrev cn_XL_fold : ByteArray := method_12_code
def yn_XL_fold : MethodName := ⟨rn_XL, "fold", "(LRepeatWays;II[J)I"⟩
abbrev cn_XL_folded : ByteArray := method_13_code
def yn_XL_folded : MethodName := ⟨rn_XL, "folded", "(LRepeatWays;II[J)I"⟩
abbrev cn_XL_told : ByteArray := method_14_code
def yn_XL_told : MethodName := ⟨rn_XL, "told", "(LRepeatWays;I[J)I"⟩
end
section
/-! ===== own base: the state of a side, in pure words ===== -/
abbrev gs_T : Type := (Nat → Int32) × (Nat → Nat → Int32)
def gs_sv (G : gs_T) (k : Nat) (x : Int32) : gs_T := (va_up G.1 k x, G.2)
def gs_a (G : gs_T) (k : Nat) (i : Int32) : Int32 := G.2 k i.toNatClampNeg
def gs_sa (G : gs_T) (k : Nat) (i x : Int32) : gs_T := (G.1, va_up G.2 k (upd (G.2 k) i.toNatClampNeg x))
def gs_sf (G : gs_T) (k : Nat) (x : Int32) : gs_T := (G.1, va_up G.2 k (fun _ => x))
def gs_ck {α : Type} (i : Int32) (n : Nat) (t : Option α) : Option α := if i < 0 ∨ n ≤ i.toNatClampNeg then none else t
def gs_nz {α : Type} (d : Int32) (t : Option α) : Option α := if d = 0 then none else t
def gs_bz {α : Type} (x : Int32) (t : Option α) : Option α := if x = 0 ∨ x = 1 then t else none
theorem gs_ck_some {α : Type} {i : Int32} {n : Nat} {t : Option α} {r : α} (h : gs_ck i n t = some r) : vp_in i n ∧ t = some r := by
  unfold gs_ck at h
  by_cases hc : i < 0 ∨ n ≤ i.toNatClampNeg
  · rw [if_pos hc] at h; cases h
  · rw [if_neg hc] at h; exact ⟨hc, h⟩
theorem gs_nz_some {α : Type} {d : Int32} {t : Option α} {r : α} (h : gs_nz d t = some r) : ¬ d = 0 ∧ t = some r := by
  unfold gs_nz at h
  by_cases hc : d = 0
  · rw [if_pos hc] at h; cases h
  · rw [if_neg hc] at h; exact ⟨hc, h⟩
theorem gs_bz_some {α : Type} {x : Int32} {t : Option α} {r : α} (h : gs_bz x t = some r) : (x = 0 ∨ x = 1) ∧ t = some r := by
  unfold gs_bz at h
  by_cases hc : x = 0 ∨ x = 1
  · rw [if_pos hc] at h; exact ⟨hc, h⟩
  · rw [if_neg hc] at h; cases h
theorem gs_if {α : Type} {c : Prop} {dc : Decidable c} {a b : Option α} {r : α} {P : Prop} (h : @ite _ c dc a b = some r) (ha : c → a = some r → P) (hb : ¬ c → b = some r → P) : P := by
  by_cases hc : c
  · rw [if_pos hc] at h; exact ha hc h
  · rw [if_neg hc] at h; exact hb hc h
theorem gs_bind {α β : Type} {o : Option α} {f : α → Option β} {r : β} {P : Prop} (h : o.bind f = some r) (k : ∀ q, o = some q → f q = some r → P) : P := by
  cases o with
  | none => cases h
  | some q => exact k q rfl h
theorem gs_narz {x : Int32} (h : x = 0 ∨ x = 1) : narrow .boolean (.int x) = .int x := by
  rcases h with rfl | rfl <;> rfl
/-! ===== locals, by place ===== -/
def lz_c1 : Option Value → Bool
  | some v => v.category == 1
  | none => true
def lz_has (ls : Array Slot) (nL : Nat) (L : List (Option Value)) : Prop := ls.size = nL ∧ lv_wf ls ∧ ∀ (i : Nat) (v : Value), L[i]? = some (some v) → ls[i]? = some (.val v)
def lz_l (L : List (Option Value)) : List (Nat × Value) := (List.range L.length).filterMap (fun i => (L[i]?).bind (fun o => o.map (fun v => (i, v))))
theorem lz_mem {L : List (Option Value)} {q : Nat × Value} : q ∈ lz_l L ↔ L[q.1]? = some (some q.2) := by
  unfold lz_l
  rw [List.mem_filterMap]
  constructor
  · rintro ⟨i, -, hi⟩
    cases hL : L[i]? with
    | none => rw [hL] at hi; cases hi
    | some o =>
      rw [hL] at hi
      cases o with
      | none => cases hi
      | some v => cases hi; exact hL
  · intro h
    refine ⟨q.1, List.mem_range.mpr (List.getElem?_eq_some_iff.mp h).1, ?_⟩
    rw [h]
    rfl
theorem lz_lv {ls : Array Slot} {nL : Nat} {L : List (Option Value)} (h : lz_has ls nL L) : lv_has ls nL (lz_l L) := ⟨h.1, h.2.1, fun q hq => h.2.2 q.1 q.2 (lz_mem.mp hq)⟩
theorem lz_back {ls : Array Slot} {nL : Nat} {L : List (Option Value)} {i : Nat} {v : Value} (h : lv_has ls nL ((i, v) :: (lz_l L).filter (fun q => !(q.1 == i) && !(q.1 + 1 == i && q.2.category == 2)))) (hL : L.all lz_c1 = true) : lz_has ls nL (L.set i (some v)) := by
  refine ⟨h.1, h.2.1, fun j w hj => ?_⟩
  by_cases hji : j = i
  · subst hji
    by_cases hl : j < L.length
    · rw [List.getElem?_set_self hl] at hj
      cases hj
      exact h.2.2 (j, v) List.mem_cons_self
    · rw [List.getElem?_eq_none (by rw [List.length_set]; omega)] at hj
      cases hj
  · rw [List.getElem?_set_ne (Ne.symm hji)] at hj
    refine h.2.2 (j, w) (List.mem_cons_of_mem _ (List.mem_filter.mpr ⟨lz_mem.mpr hj, ?_⟩))
    have hc : lz_c1 (some w) = true := List.all_eq_true.mp hL _ (List.mem_of_getElem? hj)
    have hc1 : w.category = 1 := by simpa [lz_c1] using hc
    simp [hji, hc1]
theorem lz_drop {ls : Array Slot} {nL : Nat} {L L' : List (Option Value)} (h : lz_has ls nL L) (hd : ∀ (i : Nat) (v : Value), L'[i]? = some (some v) → L[i]? = some (some v)) : lz_has ls nL L' := ⟨h.1, h.2.1, fun i v hi => h.2.2 i v (hd i v hi)⟩
/-- fewer values -/
def lz_le : List (Option Value) → List (Option Value) → Prop
  | [], _ => True
  | none :: a, _ :: b => lz_le a b
  | some v :: a, some w :: b => v = w ∧ lz_le a b
  | none :: a, [] => lz_le a []
  | some _ :: _, none :: _ => False
  | some _ :: _, [] => False
theorem lz_le_at : ∀ {L' L : List (Option Value)}, lz_le L' L → ∀ (i : Nat) (v : Value), L'[i]? = some (some v) → L[i]? = some (some v)
  | [], _, _, i, v, h => by simp at h
  | none :: a, b :: c, hl, i, v, h => by
    cases i with
    | zero => simp at h
    | succ i => exact lz_le_at (L' := a) (L := c) hl i v h
  | none :: a, [], hl, i, v, h => by
    cases i with
    | zero => simp at h
    | succ i => have := lz_le_at (L' := a) (L := []) hl i v h; simp at this
  | some x :: a, some y :: c, hl, i, v, h => by
    cases i with
    | zero => rw [← hl.1]; exact h
    | succ i => exact lz_le_at (L' := a) (L := c) hl.2 i v h
  | some x :: a, none :: c, hl, i, v, h => hl.elim
  | some x :: a, [], hl, i, v, h => hl.elim
end
section
/-! ===== own word rows ===== -/
def zt_ws : List Cond := lw_tbl.filter goodWord
theorem zt_good : zt_ws.all goodWord = true := List.all_eq_true.mpr (fun _ hw => (List.mem_filter.mp hw).2)
theorem zt_m {w : Cond} (i : Nat) (h : tables_1[i]? = some w) (hg : goodWord w = true) : w ∈ zt_ws := List.mem_filter.mpr ⟨List.mem_append_right _ (List.mem_of_getElem? h), hg⟩
theorem zt_sel {y : MethodName} {n : Nat} (i : Nat) (h : lw_privs[i]? = some (y, n)) (hg : goodWord (Cond.selects y.cls y y) = true) : Cond.selects y.cls y y ∈ zt_ws := List.mem_filter.mpr ⟨List.mem_append_left _ (List.mem_map.mpr ⟨(y, n), List.mem_of_getElem? h, rfl⟩), hg⟩
theorem zt_all {ws : List Cond} (is : List Nat) (h : is.map (fun i => tables_1[i]?) = ws.map some) (hg : ws.all goodWord = true) : ∀ w ∈ ws, w ∈ zt_ws := by
  intro w hw
  have h1 : some w ∈ ws.map some := List.mem_map.mpr ⟨w, hw, rfl⟩
  rw [← h] at h1
  obtain ⟨i, -, hi⟩ := List.mem_map.mp h1
  exact zt_m i hi (List.all_eq_true.mp hg w hw)
def zn_is : Cond → Bool
  | .fieldLinkNest _ _ _ _ _ _ => true
  | .methodLinkNest _ _ _ _ => true
  | _ => false
def zn_ws : List Cond := tables_1.filter zn_is
theorem zn_all : zn_ws.all zn_is = true := List.all_eq_true.mpr (fun _ hw => (List.mem_filter.mp hw).2)
theorem zn_m {w : Cond} (i : Nat) (h : tables_1[i]? = some w) (hg : zn_is w = true) : w ∈ zn_ws := List.mem_filter.mpr ⟨List.mem_of_getElem? h, hg⟩
theorem zi_X0 : ∀ w ∈ u_ws rn_X0 tn_X0 3, w ∈ zt_ws := zt_all [219, 221, 223] (by decide +kernel) (by decide +kernel)
theorem zi_X1 : ∀ w ∈ u_ws rn_X1 tn_X1 19, w ∈ zt_ws := zt_all [74, 76, 78, 80, 82, 84, 86, 88, 90, 92, 94, 96, 98, 100, 102, 104, 106, 108, 110] (by decide +kernel) (by decide +kernel)
theorem zi_X2 : ∀ w ∈ u_ws rn_X2 tn_X2 15, w ∈ zt_ws := zt_all [140, 142, 144, 146, 148, 150, 152, 154, 156, 158, 160, 162, 164, 166, 168] (by decide +kernel) (by decide +kernel)
theorem zi_X3 : ∀ w ∈ u_ws rn_X3 tn_X3 11, w ∈ zt_ws := zt_all [193, 195, 197, 199, 201, 203, 205, 207, 209, 211, 213] (by decide +kernel) (by decide +kernel)
theorem zi_X4 : ∀ w ∈ u_ws rn_X4 tn_X4 41, w ∈ zt_ws := zt_all [687, 689, 691, 693, 695, 697, 699, 701, 703, 705, 707, 709, 711, 713, 715, 717, 719, 721, 723, 725, 727, 729, 731, 733, 735, 737, 739, 741, 743, 745, 747, 749, 751, 753, 755, 757, 759, 761, 763, 765, 767] (by decide +kernel) (by decide +kernel)
theorem zk_XL_8 : Cond.classLink rn_XL 8 "RepeatWays" ∈ zt_ws := zt_m 13 (by decide +kernel) (by decide +kernel)
theorem zk_XL_57 : Cond.methodLink rn_XL 57 yn_X0_init ∈ zt_ws := zt_m 15 (by decide +kernel) (by decide +kernel)
theorem zk_X0_1 : Cond.methodLink rn_X0 1 ⟨"java/lang/Object", "<init>", "()V"⟩ ∈ zt_ws := zt_m 18 (by decide +kernel) (by decide +kernel)
theorem zk_X0_7 : Cond.classLink rn_X0 7 "RepeatWays$Way" ∈ zt_ws := zt_m 21 (by decide +kernel) (by decide +kernel)
theorem zk_X0_9 : Cond.methodLinkNest rn_X0 9 yn_X2_init "RepeatWays" ∈ zn_ws := zn_m 23 (by decide +kernel) (by decide +kernel)
theorem zk_X2_3 : Cond.methodLink rn_X2 3 ⟨"java/lang/Object", "<init>", "()V"⟩ ∈ zt_ws := zt_m 26 (by decide +kernel) (by decide +kernel)
theorem zk_X2_9 : Cond.classLink rn_X2 9 "RepeatWays$Score" ∈ zt_ws := zt_m 27 (by decide +kernel) (by decide +kernel)
theorem zk_X2_11 : Cond.methodLinkNest rn_X2 11 yn_X1_init "RepeatWays" ∈ zn_ws := zn_m 29 (by decide +kernel) (by decide +kernel)
theorem zk_X1_3 : Cond.methodLink rn_X1 3 ⟨"java/lang/Object", "<init>", "()V"⟩ ∈ zt_ws := zt_m 32 (by decide +kernel) (by decide +kernel)
theorem zk_X1_58 : Cond.methodLink rn_X1 58 yn_XA_fill ∈ zt_ws := zt_m 33 (by decide +kernel) (by decide +kernel)
theorem zk_X1_9 : Cond.fieldLink rn_X1 9 "RepeatWays$Score" "contents" "[I" ∈ zt_ws := zt_m 36 (by decide +kernel) (by decide +kernel)
theorem zk_X0_126 : Cond.fieldLinkNest rn_X0 126 "RepeatWays$Score" "contents" "[I" "RepeatWays" ∈ zn_ws := zn_m 37 (by decide +kernel) (by decide +kernel)
theorem zk_X1_15 : Cond.fieldLink rn_X1 15 "RepeatWays$Score" "repeatFrom" "[I" ∈ zt_ws := zt_m 38 (by decide +kernel) (by decide +kernel)
theorem zk_X2_173 : Cond.fieldLinkNest rn_X2 173 "RepeatWays$Score" "repeatFrom" "[I" "RepeatWays" ∈ zn_ws := zn_m 39 (by decide +kernel) (by decide +kernel)
theorem zk_X1_18 : Cond.fieldLink rn_X1 18 "RepeatWays$Score" "repeatTo" "[I" ∈ zt_ws := zt_m 40 (by decide +kernel) (by decide +kernel)
theorem zk_X2_170 : Cond.fieldLinkNest rn_X2 170 "RepeatWays$Score" "repeatTo" "[I" "RepeatWays" ∈ zn_ws := zn_m 41 (by decide +kernel) (by decide +kernel)
theorem zk_X1_21 : Cond.fieldLink rn_X1 21 "RepeatWays$Score" "repeatTimes" "[I" ∈ zt_ws := zt_m 42 (by decide +kernel) (by decide +kernel)
theorem zk_X2_136 : Cond.fieldLinkNest rn_X2 136 "RepeatWays$Score" "repeatTimes" "[I" "RepeatWays" ∈ zn_ws := zn_m 43 (by decide +kernel) (by decide +kernel)
theorem zk_X1_24 : Cond.fieldLink rn_X1 24 "RepeatWays$Score" "endingRepeat" "[I" ∈ zt_ws := zt_m 44 (by decide +kernel) (by decide +kernel)
theorem zk_X2_139 : Cond.fieldLinkNest rn_X2 139 "RepeatWays$Score" "endingRepeat" "[I" "RepeatWays" ∈ zn_ws := zn_m 45 (by decide +kernel) (by decide +kernel)
theorem zk_X1_27 : Cond.fieldLink rn_X1 27 "RepeatWays$Score" "endingFrom" "[I" ∈ zt_ws := zt_m 46 (by decide +kernel) (by decide +kernel)
theorem zk_X1_30 : Cond.fieldLink rn_X1 30 "RepeatWays$Score" "endingTo" "[I" ∈ zt_ws := zt_m 47 (by decide +kernel) (by decide +kernel)
theorem zk_X2_114 : Cond.fieldLinkNest rn_X2 114 "RepeatWays$Score" "endingTo" "[I" "RepeatWays" ∈ zn_ws := zn_m 48 (by decide +kernel) (by decide +kernel)
theorem zk_X1_33 : Cond.fieldLink rn_X1 33 "RepeatWays$Score" "endingPasses" "[I" ∈ zt_ws := zt_m 49 (by decide +kernel) (by decide +kernel)
theorem zk_X2_142 : Cond.fieldLinkNest rn_X2 142 "RepeatWays$Score" "endingPasses" "[I" "RepeatWays" ∈ zn_ws := zn_m 50 (by decide +kernel) (by decide +kernel)
theorem zk_X1_36 : Cond.fieldLink rn_X1 36 "RepeatWays$Score" "signBar" "[I" ∈ zt_ws := zt_m 51 (by decide +kernel) (by decide +kernel)
theorem zk_X2_155 : Cond.fieldLinkNest rn_X2 155 "RepeatWays$Score" "signBar" "[I" "RepeatWays" ∈ zn_ws := zn_m 52 (by decide +kernel) (by decide +kernel)
theorem zk_X1_39 : Cond.fieldLink rn_X1 39 "RepeatWays$Score" "jumpTo" "[I" ∈ zt_ws := zt_m 53 (by decide +kernel) (by decide +kernel)
theorem zk_X2_167 : Cond.fieldLinkNest rn_X2 167 "RepeatWays$Score" "jumpTo" "[I" "RepeatWays" ∈ zn_ws := zn_m 54 (by decide +kernel) (by decide +kernel)
theorem zk_X1_42 : Cond.fieldLink rn_X1 42 "RepeatWays$Score" "jumpTill" "[I" ∈ zt_ws := zt_m 55 (by decide +kernel) (by decide +kernel)
theorem zk_X2_164 : Cond.fieldLinkNest rn_X2 164 "RepeatWays$Score" "jumpTill" "[I" "RepeatWays" ∈ zn_ws := zn_m 56 (by decide +kernel) (by decide +kernel)
theorem zk_X1_45 : Cond.fieldLink rn_X1 45 "RepeatWays$Score" "jumpRepeats" "[Z" ∈ zt_ws := zt_m 57 (by decide +kernel) (by decide +kernel)
theorem zk_X2_126 : Cond.fieldLinkNest rn_X2 126 "RepeatWays$Score" "jumpRepeats" "[Z" "RepeatWays" ∈ zn_ws := zn_m 58 (by decide +kernel) (by decide +kernel)
theorem zk_X1_49 : Cond.fieldLink rn_X1 49 "RepeatWays$Score" "around" "[I" ∈ zt_ws := zt_m 59 (by decide +kernel) (by decide +kernel)
theorem zk_X1_52 : Cond.fieldLink rn_X1 52 "RepeatWays$Score" "depth" "[I" ∈ zt_ws := zt_m 60 (by decide +kernel) (by decide +kernel)
theorem zk_X2_129 : Cond.fieldLinkNest rn_X2 129 "RepeatWays$Score" "depth" "[I" "RepeatWays" ∈ zn_ws := zn_m 61 (by decide +kernel) (by decide +kernel)
theorem zk_X1_55 : Cond.fieldLink rn_X1 55 "RepeatWays$Score" "endingAt" "[I" ∈ zt_ws := zt_m 62 (by decide +kernel) (by decide +kernel)
theorem zk_X2_105 : Cond.fieldLinkNest rn_X2 105 "RepeatWays$Score" "endingAt" "[I" "RepeatWays" ∈ zn_ws := zn_m 63 (by decide +kernel) (by decide +kernel)
theorem zk_X0_28 : Cond.fieldLinkNest rn_X0 28 "RepeatWays$Score" "bars" "I" "RepeatWays" ∈ zn_ws := zn_m 64 (by decide +kernel) (by decide +kernel)
theorem zk_X1_64 : Cond.fieldLink rn_X1 64 "RepeatWays$Score" "bars" "I" ∈ zt_ws := zt_m 65 (by decide +kernel) (by decide +kernel)
theorem zk_X2_86 : Cond.fieldLinkNest rn_X2 86 "RepeatWays$Score" "bars" "I" "RepeatWays" ∈ zn_ws := zn_m 66 (by decide +kernel) (by decide +kernel)
theorem zk_X1_68 : Cond.fieldLink rn_X1 68 "RepeatWays$Score" "repeats" "I" ∈ zt_ws := zt_m 67 (by decide +kernel) (by decide +kernel)
theorem zk_X2_145 : Cond.fieldLinkNest rn_X2 145 "RepeatWays$Score" "repeats" "I" "RepeatWays" ∈ zn_ws := zn_m 68 (by decide +kernel) (by decide +kernel)
theorem zk_X0_169 : Cond.fieldLinkNest rn_X0 169 "RepeatWays$Score" "repeats" "I" "RepeatWays" ∈ zn_ws := zn_m 69 (by decide +kernel) (by decide +kernel)
theorem zk_X1_88 : Cond.fieldLink rn_X1 88 "RepeatWays$Score" "endings" "I" ∈ zt_ws := zt_m 70 (by decide +kernel) (by decide +kernel)
theorem zk_X0_172 : Cond.fieldLinkNest rn_X0 172 "RepeatWays$Score" "endings" "I" "RepeatWays" ∈ zn_ws := zn_m 71 (by decide +kernel) (by decide +kernel)
theorem zk_X0_175 : Cond.fieldLinkNest rn_X0 175 "RepeatWays$Score" "jumps" "I" "RepeatWays" ∈ zn_ws := zn_m 72 (by decide +kernel) (by decide +kernel)
theorem zk_X1_108 : Cond.fieldLink rn_X1 108 "RepeatWays$Score" "jumps" "I" ∈ zt_ws := zt_m 73 (by decide +kernel) (by decide +kernel)
theorem zk_X2_12 : Cond.fieldLink rn_X2 12 "RepeatWays$Way" "score" "LRepeatWays$Score;" ∈ zt_ws := zt_m 115 (by decide +kernel) (by decide +kernel)
theorem zk_X0_16 : Cond.fieldLinkNest rn_X0 16 "RepeatWays$Way" "score" "LRepeatWays$Score;" "RepeatWays" ∈ zn_ws := zn_m 116 (by decide +kernel) (by decide +kernel)
theorem zk_X2_18 : Cond.fieldLink rn_X2 18 "RepeatWays$Way" "barAt" "[I" ∈ zt_ws := zt_m 117 (by decide +kernel) (by decide +kernel)
theorem zk_X0_122 : Cond.fieldLinkNest rn_X0 122 "RepeatWays$Way" "barAt" "[I" "RepeatWays" ∈ zn_ws := zn_m 118 (by decide +kernel) (by decide +kernel)
theorem zk_X2_22 : Cond.fieldLink rn_X2 22 "RepeatWays$Way" "jumpsBefore" "[I" ∈ zt_ws := zt_m 119 (by decide +kernel) (by decide +kernel)
theorem zk_X0_129 : Cond.fieldLinkNest rn_X0 129 "RepeatWays$Way" "jumpsBefore" "[I" "RepeatWays" ∈ zn_ws := zn_m 120 (by decide +kernel) (by decide +kernel)
theorem zk_X2_25 : Cond.fieldLink rn_X2 25 "RepeatWays$Way" "innerPass" "[I" ∈ zt_ws := zt_m 121 (by decide +kernel) (by decide +kernel)
theorem zk_X0_132 : Cond.fieldLinkNest rn_X0 132 "RepeatWays$Way" "innerPass" "[I" "RepeatWays" ∈ zn_ws := zn_m 122 (by decide +kernel) (by decide +kernel)
theorem zk_X2_28 : Cond.fieldLink rn_X2 28 "RepeatWays$Way" "outerPass" "[I" ∈ zt_ws := zt_m 123 (by decide +kernel) (by decide +kernel)
theorem zk_X0_135 : Cond.fieldLinkNest rn_X0 135 "RepeatWays$Way" "outerPass" "[I" "RepeatWays" ∈ zn_ws := zn_m 124 (by decide +kernel) (by decide +kernel)
theorem zk_X2_31 : Cond.fieldLink rn_X2 31 "RepeatWays$Way" "playedOf" "[I" ∈ zt_ws := zt_m 125 (by decide +kernel) (by decide +kernel)
theorem zk_X0_140 : Cond.fieldLinkNest rn_X0 140 "RepeatWays$Way" "playedOf" "[I" "RepeatWays" ∈ zn_ws := zn_m 126 (by decide +kernel) (by decide +kernel)
theorem zk_X2_34 : Cond.fieldLink rn_X2 34 "RepeatWays$Way" "comeToOf" "[I" ∈ zt_ws := zt_m 127 (by decide +kernel) (by decide +kernel)
theorem zk_X0_143 : Cond.fieldLinkNest rn_X0 143 "RepeatWays$Way" "comeToOf" "[I" "RepeatWays" ∈ zn_ws := zn_m 128 (by decide +kernel) (by decide +kernel)
theorem zk_X2_37 : Cond.fieldLink rn_X2 37 "RepeatWays$Way" "pass" "[I" ∈ zt_ws := zt_m 129 (by decide +kernel) (by decide +kernel)
theorem zk_X2_40 : Cond.fieldLink rn_X2 40 "RepeatWays$Way" "acted" "[Z" ∈ zt_ws := zt_m 130 (by decide +kernel) (by decide +kernel)
theorem zk_X2_67 : Cond.fieldLink rn_X2 67 "RepeatWays$Way" "count" "I" ∈ zt_ws := zt_m 131 (by decide +kernel) (by decide +kernel)
theorem zk_X0_117 : Cond.fieldLinkNest rn_X0 117 "RepeatWays$Way" "count" "I" "RepeatWays" ∈ zn_ws := zn_m 132 (by decide +kernel) (by decide +kernel)
theorem zk_X2_70 : Cond.fieldLink rn_X2 70 "RepeatWays$Way" "jumps" "I" ∈ zt_ws := zt_m 133 (by decide +kernel) (by decide +kernel)
theorem zk_X0_178 : Cond.fieldLinkNest rn_X0 178 "RepeatWays$Way" "jumps" "I" "RepeatWays" ∈ zn_ws := zn_m 134 (by decide +kernel) (by decide +kernel)
theorem zk_X2_44 : Cond.fieldLink rn_X2 44 "RepeatWays$Way" "latestJump" "I" ∈ zt_ws := zt_m 135 (by decide +kernel) (by decide +kernel)
theorem zk_X2_73 : Cond.fieldLink rn_X2 73 "RepeatWays$Way" "wasAtCoda" "Z" ∈ zt_ws := zt_m 136 (by decide +kernel) (by decide +kernel)
theorem zk_X2_48 : Cond.fieldLink rn_X2 48 "RepeatWays$Way" "faultKind" "I" ∈ zt_ws := zt_m 137 (by decide +kernel) (by decide +kernel)
theorem zk_X2_51 : Cond.fieldLink rn_X2 51 "RepeatWays$Way" "faultBar" "I" ∈ zt_ws := zt_m 138 (by decide +kernel) (by decide +kernel)
theorem zk_X0_114 : Cond.fieldLinkNest rn_X0 114 "RepeatWays$Way" "faultBar" "I" "RepeatWays" ∈ zn_ws := zn_m 139 (by decide +kernel) (by decide +kernel)
theorem zk_X0_21 : Cond.classLink rn_X0 21 "RepeatWays$Writing" ∈ zt_ws := zt_m 171 (by decide +kernel) (by decide +kernel)
theorem zk_X0_23 : Cond.methodLinkNest rn_X0 23 yn_X3_init "RepeatWays" ∈ zn_ws := zn_m 173 (by decide +kernel) (by decide +kernel)
theorem zk_X3_3 : Cond.methodLink rn_X3 3 ⟨"java/lang/Object", "<init>", "()V"⟩ ∈ zt_ws := zt_m 176 (by decide +kernel) (by decide +kernel)
theorem zk_X3_9 : Cond.fieldLink rn_X3 9 "RepeatWays$Writing" "row" "[I" ∈ zt_ws := zt_m 177 (by decide +kernel) (by decide +kernel)
theorem zk_X0_150 : Cond.fieldLinkNest rn_X0 150 "RepeatWays$Writing" "row" "[I" "RepeatWays" ∈ zn_ws := zn_m 178 (by decide +kernel) (by decide +kernel)
theorem zk_X3_15 : Cond.fieldLink rn_X3 15 "RepeatWays$Writing" "alike" "[I" ∈ zt_ws := zt_m 179 (by decide +kernel) (by decide +kernel)
theorem zk_X3_18 : Cond.fieldLink rn_X3 18 "RepeatWays$Writing" "fewest" "[I" ∈ zt_ws := zt_m 180 (by decide +kernel) (by decide +kernel)
theorem zk_X3_21 : Cond.fieldLink rn_X3 21 "RepeatWays$Writing" "chosen" "[I" ∈ zt_ws := zt_m 181 (by decide +kernel) (by decide +kernel)
theorem zk_X3_24 : Cond.fieldLink rn_X3 24 "RepeatWays$Writing" "waitingStart" "[I" ∈ zt_ws := zt_m 182 (by decide +kernel) (by decide +kernel)
theorem zk_X3_27 : Cond.fieldLink rn_X3 27 "RepeatWays$Writing" "waitingLength" "[I" ∈ zt_ws := zt_m 183 (by decide +kernel) (by decide +kernel)
theorem zk_X3_30 : Cond.fieldLink rn_X3 30 "RepeatWays$Writing" "itemKind" "[I" ∈ zt_ws := zt_m 184 (by decide +kernel) (by decide +kernel)
theorem zk_X0_161 : Cond.fieldLinkNest rn_X0 161 "RepeatWays$Writing" "itemKind" "[I" "RepeatWays" ∈ zn_ws := zn_m 185 (by decide +kernel) (by decide +kernel)
theorem zk_X3_33 : Cond.fieldLink rn_X3 33 "RepeatWays$Writing" "itemValue" "[I" ∈ zt_ws := zt_m 186 (by decide +kernel) (by decide +kernel)
theorem zk_X0_164 : Cond.fieldLinkNest rn_X0 164 "RepeatWays$Writing" "itemValue" "[I" "RepeatWays" ∈ zn_ws := zn_m 187 (by decide +kernel) (by decide +kernel)
theorem zk_X3_64 : Cond.fieldLink rn_X3 64 "RepeatWays$Writing" "waiting" "I" ∈ zt_ws := zt_m 188 (by decide +kernel) (by decide +kernel)
theorem zk_X3_61 : Cond.fieldLink rn_X3 61 "RepeatWays$Writing" "items" "I" ∈ zt_ws := zt_m 189 (by decide +kernel) (by decide +kernel)
theorem zk_X0_156 : Cond.fieldLinkNest rn_X0 156 "RepeatWays$Writing" "items" "I" "RepeatWays" ∈ zn_ws := zn_m 190 (by decide +kernel) (by decide +kernel)
theorem zk_X3_47 : Cond.fieldLink rn_X3 47 "RepeatWays$Writing" "bars" "I" ∈ zt_ws := zt_m 191 (by decide +kernel) (by decide +kernel)
theorem zk_X0_179 : Cond.fieldLinkNest rn_X0 179 "RepeatWays$Writing" "bars" "I" "RepeatWays" ∈ zn_ws := zn_m 192 (by decide +kernel) (by decide +kernel)
theorem zk_X0_10 : Cond.fieldLink rn_X0 10 "RepeatWays" "way" "LRepeatWays$Way;" ∈ zt_ws := zt_m 216 (by decide +kernel) (by decide +kernel)
theorem zk_X0_20 : Cond.fieldLink rn_X0 20 "RepeatWays" "score" "LRepeatWays$Score;" ∈ zt_ws := zt_m 217 (by decide +kernel) (by decide +kernel)
theorem zk_X0_24 : Cond.fieldLink rn_X0 24 "RepeatWays" "writing" "LRepeatWays$Writing;" ∈ zt_ws := zt_m 218 (by decide +kernel) (by decide +kernel)
theorem zk_XL_91 : Cond.methodLink rn_XL 91 yn_X0_unfold ∈ zt_ws := zt_m 226 (by decide +kernel) (by decide +kernel)
theorem zk_X0_110 : Cond.methodLinkNest rn_X0 110 yn_X2_go "RepeatWays" ∈ zn_ws := zn_m 230 (by decide +kernel) (by decide +kernel)
theorem zk_X2_54 : Cond.methodLink rn_X2 54 yn_X2_forget ∈ zt_ws := zt_m 234 (by decide +kernel) (by decide +kernel)
theorem zk_X2_77 : Cond.methodLink rn_X2 77 yn_XA_fill ∈ zt_ws := zt_m 238 (by decide +kernel) (by decide +kernel)
theorem zk_X2_83 : Cond.methodLink rn_X2 83 yn_X2_leaveAll ∈ zt_ws := zt_m 239 (by decide +kernel) (by decide +kernel)
theorem zk_X2_57 : Cond.methodLink rn_X2 57 yn_X2_setFault ∈ zt_ws := zt_m 243 (by decide +kernel) (by decide +kernel)
theorem zk_X2_61 : Cond.methodLink rn_X2 61 yn_X2_findFaultOfJumps ∈ zt_ws := zt_m 247 (by decide +kernel) (by decide +kernel)
theorem zk_X2_89 : Cond.methodLinkNest rn_X2 89 yn_X1_hasJump "RepeatWays" ∈ zn_ws := zn_m 251 (by decide +kernel) (by decide +kernel)
theorem zk_X2_93 : Cond.methodLinkNest rn_X2 93 yn_X1_faultOfJump "RepeatWays" ∈ zn_ws := zn_m 255 (by decide +kernel) (by decide +kernel)
theorem zk_X1_111 : Cond.methodLink rn_X1 111 yn_X1_lacksSign ∈ zt_ws := zt_m 259 (by decide +kernel) (by decide +kernel)
theorem zk_X2_64 : Cond.methodLink rn_X2 64 yn_X2_playFromFirstBar ∈ zt_ws := zt_m 263 (by decide +kernel) (by decide +kernel)
theorem zk_X2_97 : Cond.constant rn_X2 97 (1000000 : Int32) ∈ zt_ws := zt_m 267 (by decide +kernel) (by decide +kernel)
theorem zk_X2_98 : Cond.methodLink rn_X2 98 yn_X2_comeTo ∈ zt_ws := zt_m 268 (by decide +kernel) (by decide +kernel)
theorem zk_X2_101 : Cond.methodLink rn_X2 101 yn_X2_openAround ∈ zt_ws := zt_m 272 (by decide +kernel) (by decide +kernel)
theorem zk_X2_132 : Cond.methodLinkNest rn_X2 132 yn_X1_repeatAround "RepeatWays" ∈ zn_ws := zn_m 276 (by decide +kernel) (by decide +kernel)
theorem zk_X2_108 : Cond.methodLink rn_X2 108 yn_X2_isLeftOut ∈ zt_ws := zt_m 280 (by decide +kernel) (by decide +kernel)
theorem zk_X2_111 : Cond.methodLink rn_X2 111 yn_X2_leaveWithin ∈ zt_ws := zt_m 284 (by decide +kernel) (by decide +kernel)
theorem zk_X2_148 : Cond.methodLinkNest rn_X2 148 yn_X1_isRepeatWithinEnding "RepeatWays" ∈ zn_ws := zn_m 288 (by decide +kernel) (by decide +kernel)
theorem zk_X1_71 : Cond.methodLink rn_X1 71 yn_X1_liesWithin ∈ zt_ws := zt_m 292 (by decide +kernel) (by decide +kernel)
theorem zk_X2_117 : Cond.methodLink rn_X2 117 yn_X2_endOf ∈ zt_ws := zt_m 295 (by decide +kernel) (by decide +kernel)
theorem zk_X2_120 : Cond.methodLink rn_X2 120 yn_X2_play ∈ zt_ws := zt_m 299 (by decide +kernel) (by decide +kernel)
theorem zk_X2_123 : Cond.methodLink rn_X2 123 yn_X2_behind ∈ zt_ws := zt_m 303 (by decide +kernel) (by decide +kernel)
theorem zk_X2_152 : Cond.methodLink rn_X2 152 yn_X2_isInLastPasses ∈ zt_ws := zt_m 307 (by decide +kernel) (by decide +kernel)
theorem zk_X2_158 : Cond.methodLink rn_X2 158 yn_X2_isLatestJumpTill ∈ zt_ws := zt_m 311 (by decide +kernel) (by decide +kernel)
theorem zk_X2_161 : Cond.methodLink rn_X2 161 yn_X2_act ∈ zt_ws := zt_m 315 (by decide +kernel) (by decide +kernel)
theorem zk_XL_95 : Cond.methodLink rn_XL 95 yn_X0_fault ∈ zt_ws := zt_m 319 (by decide +kernel) (by decide +kernel)
theorem zk_XL_61 : Cond.methodLink rn_XL 61 yn_XL_bar ∈ zt_ws := zt_m 323 (by decide +kernel) (by decide +kernel)
theorem zk_XL_13 : Cond.classLink rn_XL 13 "java/lang/IllegalStateException" ∈ zt_ws := zt_m 326 (by decide +kernel) (by decide +kernel)
theorem zk_XL_7 : Cond.methodLink rn_XL 7 yn_X0_bar ∈ zt_ws := zt_m 327 (by decide +kernel) (by decide +kernel)
theorem zk_X0_34 : Cond.classLink rn_X0 34 "java/lang/IllegalStateException" ∈ zt_ws := zt_m 331 (by decide +kernel) (by decide +kernel)
theorem zk_X0_38 : Cond.methodLink rn_X0 38 ⟨"java/lang/IllegalStateException", "<init>", "(Ljava/lang/String;)V"⟩ ∈ zt_ws := zt_m 373 (by decide +kernel) (by decide +kernel)
theorem zk_X0_41 : Cond.methodLinkNest rn_X0 41 yn_X1_addBar "RepeatWays" ∈ zn_ws := zn_m 399 (by decide +kernel) (by decide +kernel)
theorem zk_XL_71 : Cond.methodLink rn_XL 71 yn_XL_repeat ∈ zt_ws := zt_m 403 (by decide +kernel) (by decide +kernel)
theorem zk_XL_19 : Cond.classLink rn_XL 19 "java/lang/IndexOutOfBoundsException" ∈ zt_ws := zt_m 406 (by decide +kernel) (by decide +kernel)
theorem zk_XL_21 : Cond.classLink rn_XL 21 "java/lang/IllegalArgumentException" ∈ zt_ws := zt_m 407 (by decide +kernel) (by decide +kernel)
theorem zk_XL_15 : Cond.methodLink rn_XL 15 yn_X0_repeat ∈ zt_ws := zt_m 408 (by decide +kernel) (by decide +kernel)
theorem zk_X0_45 : Cond.methodLinkNest rn_X0 45 yn_X1_hasBar "RepeatWays" ∈ zn_ws := zn_m 412 (by decide +kernel) (by decide +kernel)
theorem zk_X0_49 : Cond.classLink rn_X0 49 "java/lang/IndexOutOfBoundsException" ∈ zt_ws := zt_m 416 (by decide +kernel) (by decide +kernel)
theorem zk_X0_53 : Cond.methodLink rn_X0 53 ⟨"java/lang/IndexOutOfBoundsException", "<init>", "(Ljava/lang/String;)V"⟩ ∈ zt_ws := zt_m 426 (by decide +kernel) (by decide +kernel)
theorem zk_X0_54 : Cond.classLink rn_X0 54 "java/lang/IllegalArgumentException" ∈ zt_ws := zt_m 432 (by decide +kernel) (by decide +kernel)
theorem zk_X0_58 : Cond.methodLink rn_X0 58 ⟨"java/lang/IllegalArgumentException", "<init>", "(Ljava/lang/String;)V"⟩ ∈ zt_ws := zt_m 442 (by decide +kernel) (by decide +kernel)
theorem zk_X0_59 : Cond.methodLinkNest rn_X0 59 yn_X1_takesRepeat "RepeatWays" ∈ zn_ws := zn_m 448 (by decide +kernel) (by decide +kernel)
theorem zk_X1_75 : Cond.methodLink rn_X1 75 yn_X1_liesWellByRepeats ∈ zt_ws := zt_m 452 (by decide +kernel) (by decide +kernel)
theorem zk_X1_94 : Cond.methodLink rn_X1 94 yn_X1_liesWell ∈ zt_ws := zt_m 456 (by decide +kernel) (by decide +kernel)
theorem zk_X1_79 : Cond.methodLink rn_X1 79 yn_X1_hasSameRepeat ∈ zt_ws := zt_m 459 (by decide +kernel) (by decide +kernel)
theorem zk_X1_82 : Cond.methodLink rn_X1 82 yn_X1_liesWellByEndings ∈ zt_ws := zt_m 463 (by decide +kernel) (by decide +kernel)
theorem zk_X1_85 : Cond.methodLink rn_X1 85 yn_X1_isDepthLeft ∈ zt_ws := zt_m 467 (by decide +kernel) (by decide +kernel)
theorem zk_X0_65 : Cond.methodLinkNest rn_X0 65 yn_X1_addRepeat "RepeatWays" ∈ zn_ws := zn_m 472 (by decide +kernel) (by decide +kernel)
theorem zk_X1_97 : Cond.methodLink rn_X1 97 yn_X1_putAround ∈ zt_ws := zt_m 476 (by decide +kernel) (by decide +kernel)
theorem zk_X1_101 : Cond.methodLink rn_X1 101 yn_X1_isRepeatWithin ∈ zt_ws := zt_m 480 (by decide +kernel) (by decide +kernel)
theorem zk_XL_75 : Cond.methodLink rn_XL 75 yn_XL_ending ∈ zt_ws := zt_m 484 (by decide +kernel) (by decide +kernel)
theorem zk_XL_23 : Cond.methodLink rn_XL 23 yn_X0_ending ∈ zt_ws := zt_m 487 (by decide +kernel) (by decide +kernel)
theorem zk_X0_69 : Cond.methodLinkNest rn_X0 69 yn_X1_hasRepeat "RepeatWays" ∈ zn_ws := zn_m 491 (by decide +kernel) (by decide +kernel)
theorem zk_X0_74 : Cond.methodLinkNest rn_X0 74 yn_X1_hasPasses "RepeatWays" ∈ zn_ws := zn_m 496 (by decide +kernel) (by decide +kernel)
theorem zk_X0_79 : Cond.methodLinkNest rn_X0 79 yn_X1_takesEnding "RepeatWays" ∈ zn_ws := zn_m 501 (by decide +kernel) (by decide +kernel)
theorem zk_X1_91 : Cond.methodLink rn_X1 91 yn_X1_isApartFromEndings ∈ zt_ws := zt_m 505 (by decide +kernel) (by decide +kernel)
theorem zk_X0_85 : Cond.methodLinkNest rn_X0 85 yn_X1_addEnding "RepeatWays" ∈ zn_ws := zn_m 510 (by decide +kernel) (by decide +kernel)
theorem zk_XL_79 : Cond.methodLink rn_XL 79 yn_XL_sign ∈ zt_ws := zt_m 514 (by decide +kernel) (by decide +kernel)
theorem zk_XL_27 : Cond.methodLink rn_XL 27 yn_X0_sign ∈ zt_ws := zt_m 517 (by decide +kernel) (by decide +kernel)
theorem zk_X0_91 : Cond.methodLinkNest rn_X0 91 yn_X1_moveSign "RepeatWays" ∈ zn_ws := zn_m 522 (by decide +kernel) (by decide +kernel)
theorem zk_XL_83 : Cond.methodLink rn_XL 83 yn_XL_jump ∈ zt_ws := zt_m 526 (by decide +kernel) (by decide +kernel)
theorem zk_XL_31 : Cond.methodLink rn_XL 31 yn_X0_jump ∈ zt_ws := zt_m 529 (by decide +kernel) (by decide +kernel)
theorem zk_X0_97 : Cond.methodLinkNest rn_X0 97 yn_X1_putJump "RepeatWays" ∈ zn_ws := zn_m 534 (by decide +kernel) (by decide +kernel)
theorem zk_X1_104 : Cond.methodLink rn_X1 104 yn_X1_hasJump ∈ zt_ws := zt_m 538 (by decide +kernel) (by decide +kernel)
theorem zk_XL_87 : Cond.methodLink rn_XL 87 yn_XL_plain ∈ zt_ws := zt_m 539 (by decide +kernel) (by decide +kernel)
theorem zk_XL_35 : Cond.methodLink rn_XL 35 yn_X0_plain ∈ zt_ws := zt_m 542 (by decide +kernel) (by decide +kernel)
theorem zk_X0_101 : Cond.methodLinkNest rn_X0 101 yn_X1_hasJump "RepeatWays" ∈ zn_ws := zn_m 546 (by decide +kernel) (by decide +kernel)
theorem zk_X0_106 : Cond.methodLinkNest rn_X0 106 yn_X1_takeJump "RepeatWays" ∈ zn_ws := zn_m 548 (by decide +kernel) (by decide +kernel)
theorem zk_XL_99 : Cond.methodLink rn_XL 99 yn_XL_played ∈ zt_ws := zt_m 552 (by decide +kernel) (by decide +kernel)
theorem zk_XL_39 : Cond.methodLink rn_XL 39 yn_X0_played ∈ zt_ws := zt_m 555 (by decide +kernel) (by decide +kernel)
theorem zk_XL_102 : Cond.methodLink rn_XL 102 yn_XL_times ∈ zt_ws := zt_m 561 (by decide +kernel) (by decide +kernel)
theorem zk_XL_42 : Cond.methodLink rn_XL 42 yn_X0_times ∈ zt_ws := zt_m 564 (by decide +kernel) (by decide +kernel)
theorem zk_XL_105 : Cond.methodLink rn_XL 105 yn_XL_comes ∈ zt_ws := zt_m 568 (by decide +kernel) (by decide +kernel)
theorem zk_XL_45 : Cond.methodLink rn_XL 45 yn_X0_comes ∈ zt_ws := zt_m 571 (by decide +kernel) (by decide +kernel)
theorem zk_XL_108 : Cond.methodLink rn_XL 108 yn_XL_fold ∈ zt_ws := zt_m 575 (by decide +kernel) (by decide +kernel)
theorem zk_XL_48 : Cond.methodLink rn_XL 48 yn_X0_fold ∈ zt_ws := zt_m 578 (by decide +kernel) (by decide +kernel)
theorem zk_X0_153 : Cond.methodLinkNest rn_X0 153 yn_X3_writeRow "RepeatWays" ∈ zn_ws := zn_m 584 (by decide +kernel) (by decide +kernel)
theorem zk_X3_36 : Cond.methodLink rn_X3 36 yn_X3_compareContents ∈ zt_ws := zt_m 588 (by decide +kernel) (by decide +kernel)
theorem zk_X3_51 : Cond.methodLink rn_X3 51 yn_X3_cell ∈ zt_ws := zt_m 592 (by decide +kernel) (by decide +kernel)
theorem zk_X3_40 : Cond.methodLink rn_X3 40 yn_X3_choose ∈ zt_ws := zt_m 595 (by decide +kernel) (by decide +kernel)
theorem zk_X3_55 : Cond.methodLink rn_X3 55 yn_X3_chooseBlock ∈ zt_ws := zt_m 599 (by decide +kernel) (by decide +kernel)
theorem zk_X3_58 : Cond.methodLink rn_X3 58 yn_X3_chooseParts ∈ zt_ws := zt_m 603 (by decide +kernel) (by decide +kernel)
theorem zk_X3_44 : Cond.methodLink rn_X3 44 yn_X3_writeItems ∈ zt_ws := zt_m 607 (by decide +kernel) (by decide +kernel)
theorem zk_X3_67 : Cond.methodLink rn_X3 67 yn_X3_putAside ∈ zt_ws := zt_m 611 (by decide +kernel) (by decide +kernel)
theorem zk_X3_70 : Cond.methodLink rn_X3 70 yn_X3_writePart ∈ zt_ws := zt_m 615 (by decide +kernel) (by decide +kernel)
theorem zk_X3_73 : Cond.methodLink rn_X3 73 yn_X3_addItem ∈ zt_ws := zt_m 619 (by decide +kernel) (by decide +kernel)
theorem zk_XL_111 : Cond.methodLink rn_XL 111 yn_XL_folded ∈ zt_ws := zt_m 623 (by decide +kernel) (by decide +kernel)
theorem zk_XL_51 : Cond.methodLink rn_XL 51 yn_X0_folded ∈ zt_ws := zt_m 626 (by decide +kernel) (by decide +kernel)
theorem zk_XL_114 : Cond.methodLink rn_XL 114 yn_XL_told ∈ zt_ws := zt_m 632 (by decide +kernel) (by decide +kernel)
theorem zk_XL_54 : Cond.methodLink rn_XL 54 yn_X0_told ∈ zt_ws := zt_m 635 (by decide +kernel) (by decide +kernel)
theorem zk_XL_58 : Cond.classLink rn_XL 58 "RepeatWaysModel" ∈ zt_ws := zt_m 640 (by decide +kernel) (by decide +kernel)
theorem zk_XL_60 : Cond.methodLink rn_XL 60 yn_X4_init ∈ zt_ws := zt_m 642 (by decide +kernel) (by decide +kernel)
theorem zk_X4_1 : Cond.methodLink rn_X4 1 ⟨"java/lang/Object", "<init>", "()V"⟩ ∈ zt_ws := zt_m 645 (by decide +kernel) (by decide +kernel)
theorem zk_X4_99 : Cond.fieldLink rn_X4 99 "RepeatWaysModel" "thrown" "I" ∈ zt_ws := zt_m 646 (by decide +kernel) (by decide +kernel)
theorem zk_X4_102 : Cond.fieldLink rn_X4 102 "RepeatWaysModel" "bars" "I" ∈ zt_ws := zt_m 647 (by decide +kernel) (by decide +kernel)
theorem zk_X4_7 : Cond.fieldLink rn_X4 7 "RepeatWaysModel" "contents" "[I" ∈ zt_ws := zt_m 648 (by decide +kernel) (by decide +kernel)
theorem zk_X4_116 : Cond.fieldLink rn_X4 116 "RepeatWaysModel" "repeats" "I" ∈ zt_ws := zt_m 649 (by decide +kernel) (by decide +kernel)
theorem zk_X4_13 : Cond.fieldLink rn_X4 13 "RepeatWaysModel" "repeatFrom" "[I" ∈ zt_ws := zt_m 650 (by decide +kernel) (by decide +kernel)
theorem zk_X4_16 : Cond.fieldLink rn_X4 16 "RepeatWaysModel" "repeatTo" "[I" ∈ zt_ws := zt_m 651 (by decide +kernel) (by decide +kernel)
theorem zk_X4_19 : Cond.fieldLink rn_X4 19 "RepeatWaysModel" "repeatTimes" "[I" ∈ zt_ws := zt_m 652 (by decide +kernel) (by decide +kernel)
theorem zk_X4_122 : Cond.fieldLink rn_X4 122 "RepeatWaysModel" "endings" "I" ∈ zt_ws := zt_m 653 (by decide +kernel) (by decide +kernel)
theorem zk_X4_22 : Cond.fieldLink rn_X4 22 "RepeatWaysModel" "endingOf" "[I" ∈ zt_ws := zt_m 654 (by decide +kernel) (by decide +kernel)
theorem zk_X4_25 : Cond.fieldLink rn_X4 25 "RepeatWaysModel" "endingFrom" "[I" ∈ zt_ws := zt_m 655 (by decide +kernel) (by decide +kernel)
theorem zk_X4_28 : Cond.fieldLink rn_X4 28 "RepeatWaysModel" "endingTo" "[I" ∈ zt_ws := zt_m 656 (by decide +kernel) (by decide +kernel)
theorem zk_X4_31 : Cond.fieldLink rn_X4 31 "RepeatWaysModel" "endingPasses" "[I" ∈ zt_ws := zt_m 657 (by decide +kernel) (by decide +kernel)
theorem zk_X4_34 : Cond.fieldLink rn_X4 34 "RepeatWaysModel" "signAt" "[I" ∈ zt_ws := zt_m 658 (by decide +kernel) (by decide +kernel)
theorem zk_X4_37 : Cond.fieldLink rn_X4 37 "RepeatWaysModel" "hasJump" "[Z" ∈ zt_ws := zt_m 659 (by decide +kernel) (by decide +kernel)
theorem zk_X4_41 : Cond.fieldLink rn_X4 41 "RepeatWaysModel" "jumpTo" "[I" ∈ zt_ws := zt_m 660 (by decide +kernel) (by decide +kernel)
theorem zk_X4_44 : Cond.fieldLink rn_X4 44 "RepeatWaysModel" "jumpTill" "[I" ∈ zt_ws := zt_m 661 (by decide +kernel) (by decide +kernel)
theorem zk_X4_47 : Cond.fieldLink rn_X4 47 "RepeatWaysModel" "jumpRepeats" "[Z" ∈ zt_ws := zt_m 662 (by decide +kernel) (by decide +kernel)
theorem zk_X4_50 : Cond.fieldLink rn_X4 50 "RepeatWaysModel" "faultBar" "I" ∈ zt_ws := zt_m 663 (by decide +kernel) (by decide +kernel)
theorem zk_X4_140 : Cond.fieldLink rn_X4 140 "RepeatWaysModel" "many" "I" ∈ zt_ws := zt_m 664 (by decide +kernel) (by decide +kernel)
theorem zk_X4_54 : Cond.fieldLink rn_X4 54 "RepeatWaysModel" "playedBar" "[I" ∈ zt_ws := zt_m 665 (by decide +kernel) (by decide +kernel)
theorem zk_X4_57 : Cond.fieldLink rn_X4 57 "RepeatWaysModel" "playedJumps" "[I" ∈ zt_ws := zt_m 666 (by decide +kernel) (by decide +kernel)
theorem zk_X4_60 : Cond.fieldLink rn_X4 60 "RepeatWaysModel" "playedInner" "[I" ∈ zt_ws := zt_m 667 (by decide +kernel) (by decide +kernel)
theorem zk_X4_63 : Cond.fieldLink rn_X4 63 "RepeatWaysModel" "playedOuter" "[I" ∈ zt_ws := zt_m 668 (by decide +kernel) (by decide +kernel)
theorem zk_X4_66 : Cond.fieldLink rn_X4 66 "RepeatWaysModel" "cameTo" "[I" ∈ zt_ws := zt_m 669 (by decide +kernel) (by decide +kernel)
theorem zk_X4_143 : Cond.fieldLink rn_X4 143 "RepeatWaysModel" "acted" "I" ∈ zt_ws := zt_m 670 (by decide +kernel) (by decide +kernel)
theorem zk_X4_69 : Cond.fieldLink rn_X4 69 "RepeatWaysModel" "pass" "[I" ∈ zt_ws := zt_m 671 (by decide +kernel) (by decide +kernel)
theorem zk_X4_72 : Cond.fieldLink rn_X4 72 "RepeatWaysModel" "hasActed" "[Z" ∈ zt_ws := zt_m 672 (by decide +kernel) (by decide +kernel)
theorem zk_X4_146 : Cond.fieldLink rn_X4 146 "RepeatWaysModel" "latest" "I" ∈ zt_ws := zt_m 673 (by decide +kernel) (by decide +kernel)
theorem zk_X4_149 : Cond.fieldLink rn_X4 149 "RepeatWaysModel" "wasAtCoda" "Z" ∈ zt_ws := zt_m 674 (by decide +kernel) (by decide +kernel)
theorem zk_X4_166 : Cond.fieldLink rn_X4 166 "RepeatWaysModel" "comes" "I" ∈ zt_ws := zt_m 675 (by decide +kernel) (by decide +kernel)
theorem zk_X4_153 : Cond.fieldLink rn_X4 153 "RepeatWaysModel" "isTooLong" "Z" ∈ zt_ws := zt_m 676 (by decide +kernel) (by decide +kernel)
theorem zk_X4_75 : Cond.fieldLink rn_X4 75 "RepeatWaysModel" "row" "[I" ∈ zt_ws := zt_m 677 (by decide +kernel) (by decide +kernel)
theorem zk_X4_78 : Cond.fieldLink rn_X4 78 "RepeatWaysModel" "fewest" "[I" ∈ zt_ws := zt_m 678 (by decide +kernel) (by decide +kernel)
theorem zk_X4_81 : Cond.fieldLink rn_X4 81 "RepeatWaysModel" "block" "[I" ∈ zt_ws := zt_m 679 (by decide +kernel) (by decide +kernel)
theorem zk_X4_84 : Cond.fieldLink rn_X4 84 "RepeatWaysModel" "firstPart" "[I" ∈ zt_ws := zt_m 680 (by decide +kernel) (by decide +kernel)
theorem zk_X4_191 : Cond.fieldLink rn_X4 191 "RepeatWaysModel" "items" "I" ∈ zt_ws := zt_m 681 (by decide +kernel) (by decide +kernel)
theorem zk_X4_87 : Cond.fieldLink rn_X4 87 "RepeatWaysModel" "itemKind" "[I" ∈ zt_ws := zt_m 682 (by decide +kernel) (by decide +kernel)
theorem zk_X4_90 : Cond.fieldLink rn_X4 90 "RepeatWaysModel" "itemValue" "[I" ∈ zt_ws := zt_m 683 (by decide +kernel) (by decide +kernel)
theorem zk_X4_194 : Cond.fieldLink rn_X4 194 "RepeatWaysModel" "itemBars" "I" ∈ zt_ws := zt_m 684 (by decide +kernel) (by decide +kernel)
theorem zk_X4_93 : Cond.fieldLink rn_X4 93 "RepeatWaysModel" "waitAt" "[I" ∈ zt_ws := zt_m 685 (by decide +kernel) (by decide +kernel)
theorem zk_X4_96 : Cond.fieldLink rn_X4 96 "RepeatWaysModel" "waitLong" "[I" ∈ zt_ws := zt_m 686 (by decide +kernel) (by decide +kernel)
theorem zk_XL_67 : Cond.methodLink rn_XL 67 yn_X4_thrown ∈ zt_ws := zt_m 770 (by decide +kernel) (by decide +kernel)
theorem zk_XL_66 : Cond.methodLink rn_XL 66 yn_X4_bar ∈ zt_ws := zt_m 774 (by decide +kernel) (by decide +kernel)
theorem zk_X4_105 : Cond.methodLink rn_X4 105 yn_X4_refuses ∈ zt_ws := zt_m 778 (by decide +kernel) (by decide +kernel)
theorem zk_XL_74 : Cond.methodLink rn_XL 74 yn_X4_repeat ∈ zt_ws := zt_m 782 (by decide +kernel) (by decide +kernel)
theorem zk_X4_129 : Cond.methodLink rn_X4 129 yn_X4_isBar ∈ zt_ws := zt_m 786 (by decide +kernel) (by decide +kernel)
theorem zk_X4_133 : Cond.methodLink rn_X4 133 yn_X4_mayRepeat ∈ zt_ws := zt_m 790 (by decide +kernel) (by decide +kernel)
theorem zk_X4_119 : Cond.methodLink rn_X4 119 yn_X4_liesWell ∈ zt_ws := zt_m 794 (by decide +kernel) (by decide +kernel)
theorem zk_X4_109 : Cond.methodLink rn_X4 109 yn_X4_isApart ∈ zt_ws := zt_m 797 (by decide +kernel) (by decide +kernel)
theorem zk_X4_113 : Cond.methodLink rn_X4 113 yn_X4_isWithin ∈ zt_ws := zt_m 800 (by decide +kernel) (by decide +kernel)
theorem zk_X4_125 : Cond.methodLink rn_X4 125 yn_X4_isAround ∈ zt_ws := zt_m 803 (by decide +kernel) (by decide +kernel)
theorem zk_XL_78 : Cond.methodLink rn_XL 78 yn_X4_ending ∈ zt_ws := zt_m 807 (by decide +kernel) (by decide +kernel)
theorem zk_X4_136 : Cond.methodLink rn_X4 136 yn_X4_mayEnd ∈ zt_ws := zt_m 811 (by decide +kernel) (by decide +kernel)
theorem zk_XL_82 : Cond.methodLink rn_XL 82 yn_X4_sign ∈ zt_ws := zt_m 815 (by decide +kernel) (by decide +kernel)
theorem zk_XL_86 : Cond.methodLink rn_XL 86 yn_X4_jump ∈ zt_ws := zt_m 819 (by decide +kernel) (by decide +kernel)
theorem zk_XL_90 : Cond.methodLink rn_XL 90 yn_X4_plain ∈ zt_ws := zt_m 823 (by decide +kernel) (by decide +kernel)
theorem zk_XL_94 : Cond.methodLink rn_XL 94 yn_X4_unfold ∈ zt_ws := zt_m 827 (by decide +kernel) (by decide +kernel)
theorem zk_X4_159 : Cond.methodLink rn_X4 159 yn_X4_forget ∈ zt_ws := zt_m 831 (by decide +kernel) (by decide +kernel)
theorem zk_X4_156 : Cond.methodLink rn_X4 156 yn_X4_leaveAll ∈ zt_ws := zt_m 835 (by decide +kernel) (by decide +kernel)
theorem zk_X4_162 : Cond.methodLink rn_X4 162 yn_X4_missing ∈ zt_ws := zt_m 839 (by decide +kernel) (by decide +kernel)
theorem zk_X4_169 : Cond.methodLink rn_X4 169 yn_X4_comeTo ∈ zt_ws := zt_m 843 (by decide +kernel) (by decide +kernel)
theorem zk_X4_173 : Cond.methodLink rn_X4 173 yn_X4_leaveWithin ∈ zt_ws := zt_m 847 (by decide +kernel) (by decide +kernel)
theorem zk_X4_177 : Cond.methodLink rn_X4 177 yn_X4_theEnd ∈ zt_ws := zt_m 851 (by decide +kernel) (by decide +kernel)
theorem zk_X4_180 : Cond.methodLink rn_X4 180 yn_X4_play ∈ zt_ws := zt_m 855 (by decide +kernel) (by decide +kernel)
theorem zk_X4_183 : Cond.methodLink rn_X4 183 yn_X4_aroundIt ∈ zt_ws := zt_m 859 (by decide +kernel) (by decide +kernel)
theorem zk_XL_98 : Cond.methodLink rn_XL 98 yn_X4_fault ∈ zt_ws := zt_m 863 (by decide +kernel) (by decide +kernel)
theorem zk_XL_101 : Cond.methodLink rn_XL 101 yn_X4_played ∈ zt_ws := zt_m 867 (by decide +kernel) (by decide +kernel)
theorem zk_XL_104 : Cond.methodLink rn_XL 104 yn_X4_times ∈ zt_ws := zt_m 871 (by decide +kernel) (by decide +kernel)
theorem zk_XL_107 : Cond.methodLink rn_XL 107 yn_X4_comes ∈ zt_ws := zt_m 875 (by decide +kernel) (by decide +kernel)
theorem zk_XL_110 : Cond.methodLink rn_XL 110 yn_X4_fold ∈ zt_ws := zt_m 879 (by decide +kernel) (by decide +kernel)
theorem zk_X4_187 : Cond.methodLink rn_X4 187 yn_X4_findWay ∈ zt_ws := zt_m 883 (by decide +kernel) (by decide +kernel)
theorem zk_X4_200 : Cond.methodLink rn_X4 200 yn_X4_isAgain ∈ zt_ws := zt_m 887 (by decide +kernel) (by decide +kernel)
theorem zk_X4_197 : Cond.methodLink rn_X4 197 yn_X4_write ∈ zt_ws := zt_m 891 (by decide +kernel) (by decide +kernel)
theorem zk_X4_203 : Cond.methodLink rn_X4 203 yn_X4_item ∈ zt_ws := zt_m 895 (by decide +kernel) (by decide +kernel)
theorem zk_XL_113 : Cond.methodLink rn_XL 113 yn_X4_folded ∈ zt_ws := zt_m 899 (by decide +kernel) (by decide +kernel)
theorem zk_XL_116 : Cond.methodLink rn_XL 116 yn_X4_told ∈ zt_ws := zt_m 903 (by decide +kernel) (by decide +kernel)
end
section
/-! ===== own base: zj, a walk of one method over one world ===== -/
abbrev zx_T : Type := Program × Env × Room × State × MethodId × Array Value × List Frame × Method × Code × (Nat → Prop) × Nat × (State → Prop)
abbrev zf_T : Type := Launch × va_G × List (ClassId × FieldType)
/-- the nest's words -/
def zn_ok (U : State) : Prop := ∀ w ∈ zn_ws, va_Nw w U
theorem zn_warm {s U : State} (hW : s.WarmedH U.vm) (h : zn_ok s) : zn_ok U := by
  intro w hw
  have h1 := List.all_eq_true.mp zn_all w hw
  have h2 := h w hw
  cases w <;> first | exact va_Nw.warmF hW h2 | exact va_Nw.warmM hW h2 | cases h1
theorem zn_same {s U : State} (hv : s.vm = U.vm) (h : zn_ok s) : zn_ok U := by
  intro w hw
  have h1 := List.all_eq_true.mp zn_all w hw
  have h2 := h w hw
  cases w <;> first | exact va_Nw.same rfl hv h2 | cases h1
def zj (F : zf_T) (X : zx_T) (cells slots : Nat) (ws : va_W) (pc : Nat) (L : List (Option Value)) (st : List Value) : Prop :=
  match F, X with
  | (l, D, _), (p, e, R, s, m, args, below, meth, c, A, nL, Q) => ∀ (H : Heap) (locs : List Loc) (ls : Array Slot), va_P D vw_Cl ws H → va_D A ws → va_S A s.heap H locs → lz_has ls nL L → W p l e R s m args below meth c H locs cells slots Q (F0 m pc ls st)
def zx (F : zf_T) (X : zx_T) (cc : ByteArray) (own : String) (rm : Room) (ml : Nat) : Prop :=
  match F, X with
  | (_, D, tys), (p, _, R, s, m, args, _, meth, c, A, nL, _) => p.tables.exec = Jvm.exec ∧ c.code = cc ∧ c.maxLocals = nL ∧ s.vm.findClass own = some m.cls ∧ (∀ w ∈ zt_ws, w.before args s = true) ∧ va_K D vw_Cl tys s ∧ zn_ok s ∧ meth.locks = false ∧ (∀ q, s.heap.size ≤ q → A q) ∧ R = rm ∧ nL = ml
section ZR
variable {F : zf_T} {X : zx_T} {cc : ByteArray} {own : String} {rm : Room} {cells slots pc ml : Nat} {ws : va_W} {L : List (Option Value)} {st : List Value}
theorem zz_iconst (cx : zx F X cc own rm ml) {n : Int} {v : Int32} (hd : decode cc pc = .ok (.iconst n, 1)) (hv : Int32.ofInt n = v) (k : zj F X cells slots ws (pc + 1) L (.int v :: st)) : zj F X cells slots ws pc L st := by
  obtain ⟨l, D, tys⟩ := F
  obtain ⟨p, e, R, s, m, args, below, meth, c, A, nL, Q⟩ := X
  obtain ⟨hx, hb, hml, hown, hts, hK, hn, hlo, hA, hR, hL9⟩ := cx
  exact fun H locs ls hP hD hS hl => lv_iconst hx hb hd hv (k H locs ls hP hD hS hl)

theorem zz_bipush (cx : zx F X cc own rm ml) {n : Int} {v : Int32} (hd : decode cc pc = .ok (.bipush n, 2)) (hv : (Int8.ofInt n).toInt32 = v) (k : zj F X cells slots ws (pc + 2) L (.int v :: st)) : zj F X cells slots ws pc L st := by
  obtain ⟨l, D, tys⟩ := F
  obtain ⟨p, e, R, s, m, args, below, meth, c, A, nL, Q⟩ := X
  obtain ⟨hx, hb, hml, hown, hts, hK, hn, hlo, hA, hR, hL9⟩ := cx
  exact fun H locs ls hP hD hS hl => lv_bipush hx hb hd hv (k H locs ls hP hD hS hl)

theorem zz_sipush (cx : zx F X cc own rm ml) {n : Int} {v : Int32} (hd : decode cc pc = .ok (.sipush n, 3)) (hv : (Int16.ofInt n).toInt32 = v) (k : zj F X cells slots ws (pc + 3) L (.int v :: st)) : zj F X cells slots ws pc L st := by
  obtain ⟨l, D, tys⟩ := F
  obtain ⟨p, e, R, s, m, args, below, meth, c, A, nL, Q⟩ := X
  obtain ⟨hx, hb, hml, hown, hts, hK, hn, hlo, hA, hR, hL9⟩ := cx
  exact fun H locs ls hP hD hS hl => lv_sipush hx hb hd hv (k H locs ls hP hD hS hl)

theorem zz_ldc (cx : zx F X cc own rm ml) {index : Nat} {v : Int32} (hc : Cond.constant own index v ∈ zt_ws) (hd : decode cc pc = .ok (.ldc index, 2)) (k : zj F X cells slots ws (pc + 2) L (.int v :: st)) : zj F X cells slots ws pc L st := by
  obtain ⟨l, D, tys⟩ := F
  obtain ⟨p, e, R, s, m, args, below, meth, c, A, nL, Q⟩ := X
  obtain ⟨hx, hb, hml, hown, hts, hK, hn, hlo, hA, hR, hL9⟩ := cx
  exact fun H locs ls hP hD hS hl => lv_ldc hx hb hown (hts _ hc) hd (k H locs ls hP hD hS hl)

theorem zz_iload_n (cx : zx F X cc own rm ml) {j : Fin 4} {i : Nat} {x : Int32} (hd : decode cc pc = .ok (.iload_n j, 1)) (hi : (j : Nat) = i) (hL : L[i]? = some (some (.int x))) (k : zj F X cells slots ws (pc + 1) L (.int x :: st)) : zj F X cells slots ws pc L st := by
  obtain ⟨l, D, tys⟩ := F
  obtain ⟨p, e, R, s, m, args, below, meth, c, A, nL, Q⟩ := X
  obtain ⟨hx, hb, hml, hown, hts, hK, hn, hlo, hA, hR, hL9⟩ := cx
  exact fun H locs ls hP hD hS hl => lv_iload_n hx hb hd hi (hl.2.2 _ _ hL) (k H locs ls hP hD hS hl)

theorem zz_iload (cx : zx F X cc own rm ml) {i : Nat} {x : Int32} (hd : decode cc pc = .ok (.iload i, 2)) (hL : L[i]? = some (some (.int x))) (k : zj F X cells slots ws (pc + 2) L (.int x :: st)) : zj F X cells slots ws pc L st := by
  obtain ⟨l, D, tys⟩ := F
  obtain ⟨p, e, R, s, m, args, below, meth, c, A, nL, Q⟩ := X
  obtain ⟨hx, hb, hml, hown, hts, hK, hn, hlo, hA, hR, hL9⟩ := cx
  exact fun H locs ls hP hD hS hl => lv_iload hx hb hd (hl.2.2 _ _ hL) (k H locs ls hP hD hS hl)

theorem zz_aload_n (cx : zx F X cc own rm ml) {j : Fin 4} {i a : Nat} (hd : decode cc pc = .ok (.aload_n j, 1)) (hi : (j : Nat) = i) (hL : L[i]? = some (some (.ref a))) (k : zj F X cells slots ws (pc + 1) L (.ref a :: st)) : zj F X cells slots ws pc L st := by
  obtain ⟨l, D, tys⟩ := F
  obtain ⟨p, e, R, s, m, args, below, meth, c, A, nL, Q⟩ := X
  obtain ⟨hx, hb, hml, hown, hts, hK, hn, hlo, hA, hR, hL9⟩ := cx
  exact fun H locs ls hP hD hS hl => lv_aload_n hx hb hd hi (hl.2.2 _ _ hL) (k H locs ls hP hD hS hl)

theorem zz_aload (cx : zx F X cc own rm ml) {i a : Nat} (hd : decode cc pc = .ok (.aload i, 2)) (hL : L[i]? = some (some (.ref a))) (k : zj F X cells slots ws (pc + 2) L (.ref a :: st)) : zj F X cells slots ws pc L st := by
  obtain ⟨l, D, tys⟩ := F
  obtain ⟨p, e, R, s, m, args, below, meth, c, A, nL, Q⟩ := X
  obtain ⟨hx, hb, hml, hown, hts, hK, hn, hlo, hA, hR, hL9⟩ := cx
  exact fun H locs ls hP hD hS hl => lv_aload hx hb hd (hl.2.2 _ _ hL) (k H locs ls hP hD hS hl)

theorem zz_istore_n (cx : zx F X cc own rm ml) {j : Fin 4} {i : Nat} {x : Int32} (hd : decode cc pc = .ok (.istore_n j, 1)) (hi : (j : Nat) = i) (hi2 : i < ml) (hL : L.all lz_c1 = true) (k : zj F X cells slots ws (pc + 1) (L.set i (some (.int x))) st) : zj F X cells slots ws pc L (.int x :: st) := by
  obtain ⟨l, D, tys⟩ := F
  obtain ⟨p, e, R, s, m, args, below, meth, c, A, nL, Q⟩ := X
  obtain ⟨hx, hb, hml, hown, hts, hK, hn, hlo, hA, hR, hL9⟩ := cx
  exact fun H locs ls hP hD hS hl => lv_istore_n hx hb hd hi (lz_lv hl) (by rw [hL9]; exact hi2) rfl (fun ls h => k H locs ls hP hD hS (lz_back h hL))

theorem zz_istore (cx : zx F X cc own rm ml) {i : Nat} {x : Int32} (hd : decode cc pc = .ok (.istore i, 2)) (hi2 : i < ml) (hL : L.all lz_c1 = true) (k : zj F X cells slots ws (pc + 2) (L.set i (some (.int x))) st) : zj F X cells slots ws pc L (.int x :: st) := by
  obtain ⟨l, D, tys⟩ := F
  obtain ⟨p, e, R, s, m, args, below, meth, c, A, nL, Q⟩ := X
  obtain ⟨hx, hb, hml, hown, hts, hK, hn, hlo, hA, hR, hL9⟩ := cx
  exact fun H locs ls hP hD hS hl => lv_istore hx hb hd (lz_lv hl) (by rw [hL9]; exact hi2) rfl (fun ls h => k H locs ls hP hD hS (lz_back h hL))

theorem zz_astore_n (cx : zx F X cc own rm ml) {j : Fin 4} {i a : Nat} (hd : decode cc pc = .ok (.astore_n j, 1)) (hi : (j : Nat) = i) (hi2 : i < ml) (hL : L.all lz_c1 = true) (k : zj F X cells slots ws (pc + 1) (L.set i (some (.ref a))) st) : zj F X cells slots ws pc L (.ref a :: st) := by
  obtain ⟨l, D, tys⟩ := F
  obtain ⟨p, e, R, s, m, args, below, meth, c, A, nL, Q⟩ := X
  obtain ⟨hx, hb, hml, hown, hts, hK, hn, hlo, hA, hR, hL9⟩ := cx
  exact fun H locs ls hP hD hS hl => lv_astore_n hx hb hd hi (lz_lv hl) (by rw [hL9]; exact hi2) rfl (fun ls h => k H locs ls hP hD hS (lz_back h hL))

theorem zz_astore (cx : zx F X cc own rm ml) {i a : Nat} (hd : decode cc pc = .ok (.astore i, 2)) (hi2 : i < ml) (hL : L.all lz_c1 = true) (k : zj F X cells slots ws (pc + 2) (L.set i (some (.ref a))) st) : zj F X cells slots ws pc L (.ref a :: st) := by
  obtain ⟨l, D, tys⟩ := F
  obtain ⟨p, e, R, s, m, args, below, meth, c, A, nL, Q⟩ := X
  obtain ⟨hx, hb, hml, hown, hts, hK, hn, hlo, hA, hR, hL9⟩ := cx
  exact fun H locs ls hP hD hS hl => lv_astore hx hb hd (lz_lv hl) (by rw [hL9]; exact hi2) rfl (fun ls h => k H locs ls hP hD hS (lz_back h hL))

theorem zz_iinc (cx : zx F X cc own rm ml) {i : Nat} {n : Int} {x d : Int32} (hd : decode cc pc = .ok (.iinc i n, 3)) (hi : L[i]? = some (some (.int x))) (hv : Int32.ofInt n = d) (hi2 : i < ml) (hL : L.all lz_c1 = true) (k : zj F X cells slots ws (pc + 3) (L.set i (some (.int (x + d)))) st) : zj F X cells slots ws pc L st := by
  obtain ⟨l, D, tys⟩ := F
  obtain ⟨p, e, R, s, m, args, below, meth, c, A, nL, Q⟩ := X
  obtain ⟨hx, hb, hml, hown, hts, hK, hn, hlo, hA, hR, hL9⟩ := cx
  exact fun H locs ls hP hD hS hl => by
    obtain ⟨kk, hkk⟩ := List.getElem?_of_mem (lz_mem (q := (i, .int x)).mpr hi)
    exact lv_iinc hx hb hd (lz_lv hl) hkk (by rw [hv]) (by rw [hL9]; exact hi2) rfl (fun ls h => k H locs ls hP hD hS (lz_back h hL))

theorem zz_iadd (cx : zx F X cc own rm ml) {x y : Int32} (hd : decode cc pc = .ok (.iadd, 1)) (k : zj F X cells slots ws (pc + 1) L (.int (x + y) :: st)) : zj F X cells slots ws pc L (.int y :: .int x :: st) := by
  obtain ⟨l, D, tys⟩ := F
  obtain ⟨p, e, R, s, m, args, below, meth, c, A, nL, Q⟩ := X
  obtain ⟨hx, hb, hml, hown, hts, hK, hn, hlo, hA, hR, hL9⟩ := cx
  exact fun H locs ls hP hD hS hl => lv_iadd hx hb hd (k H locs ls hP hD hS hl)

theorem zz_isub (cx : zx F X cc own rm ml) {x y : Int32} (hd : decode cc pc = .ok (.isub, 1)) (k : zj F X cells slots ws (pc + 1) L (.int (x - y) :: st)) : zj F X cells slots ws pc L (.int y :: .int x :: st) := by
  obtain ⟨l, D, tys⟩ := F
  obtain ⟨p, e, R, s, m, args, below, meth, c, A, nL, Q⟩ := X
  obtain ⟨hx, hb, hml, hown, hts, hK, hn, hlo, hA, hR, hL9⟩ := cx
  exact fun H locs ls hP hD hS hl => lv_isub hx hb hd (k H locs ls hP hD hS hl)

theorem zz_imul (cx : zx F X cc own rm ml) {x y : Int32} (hd : decode cc pc = .ok (.imul, 1)) (k : zj F X cells slots ws (pc + 1) L (.int (x * y) :: st)) : zj F X cells slots ws pc L (.int y :: .int x :: st) := by
  obtain ⟨l, D, tys⟩ := F
  obtain ⟨p, e, R, s, m, args, below, meth, c, A, nL, Q⟩ := X
  obtain ⟨hx, hb, hml, hown, hts, hK, hn, hlo, hA, hR, hL9⟩ := cx
  exact fun H locs ls hP hD hS hl => lv_imul hx hb hd (k H locs ls hP hD hS hl)

theorem zz_iand (cx : zx F X cc own rm ml) {x y : Int32} (hd : decode cc pc = .ok (.iand, 1)) (k : zj F X cells slots ws (pc + 1) L (.int (x &&& y) :: st)) : zj F X cells slots ws pc L (.int y :: .int x :: st) := by
  obtain ⟨l, D, tys⟩ := F
  obtain ⟨p, e, R, s, m, args, below, meth, c, A, nL, Q⟩ := X
  obtain ⟨hx, hb, hml, hown, hts, hK, hn, hlo, hA, hR, hL9⟩ := cx
  exact fun H locs ls hP hD hS hl => lv_iand hx hb hd (k H locs ls hP hD hS hl)

theorem zz_ior (cx : zx F X cc own rm ml) {x y : Int32} (hd : decode cc pc = .ok (.ior, 1)) (k : zj F X cells slots ws (pc + 1) L (.int (x ||| y) :: st)) : zj F X cells slots ws pc L (.int y :: .int x :: st) := by
  obtain ⟨l, D, tys⟩ := F
  obtain ⟨p, e, R, s, m, args, below, meth, c, A, nL, Q⟩ := X
  obtain ⟨hx, hb, hml, hown, hts, hK, hn, hlo, hA, hR, hL9⟩ := cx
  exact fun H locs ls hP hD hS hl => lv_ior hx hb hd (k H locs ls hP hD hS hl)

theorem zz_ixor (cx : zx F X cc own rm ml) {x y : Int32} (hd : decode cc pc = .ok (.ixor, 1)) (k : zj F X cells slots ws (pc + 1) L (.int (x ^^^ y) :: st)) : zj F X cells slots ws pc L (.int y :: .int x :: st) := by
  obtain ⟨l, D, tys⟩ := F
  obtain ⟨p, e, R, s, m, args, below, meth, c, A, nL, Q⟩ := X
  obtain ⟨hx, hb, hml, hown, hts, hK, hn, hlo, hA, hR, hL9⟩ := cx
  exact fun H locs ls hP hD hS hl => lv_ixor hx hb hd (k H locs ls hP hD hS hl)

theorem zz_ishl (cx : zx F X cc own rm ml) {x y : Int32} (hd : decode cc pc = .ok (.ishl, 1)) (k : zj F X cells slots ws (pc + 1) L (.int (x <<< (y &&& 31)) :: st)) : zj F X cells slots ws pc L (.int y :: .int x :: st) := by
  obtain ⟨l, D, tys⟩ := F
  obtain ⟨p, e, R, s, m, args, below, meth, c, A, nL, Q⟩ := X
  obtain ⟨hx, hb, hml, hown, hts, hK, hn, hlo, hA, hR, hL9⟩ := cx
  exact fun H locs ls hP hD hS hl => lv_ishl hx hb hd (k H locs ls hP hD hS hl)

theorem zz_ishr (cx : zx F X cc own rm ml) {x y : Int32} (hd : decode cc pc = .ok (.ishr, 1)) (k : zj F X cells slots ws (pc + 1) L (.int (x >>> (y &&& 31)) :: st)) : zj F X cells slots ws pc L (.int y :: .int x :: st) := by
  obtain ⟨l, D, tys⟩ := F
  obtain ⟨p, e, R, s, m, args, below, meth, c, A, nL, Q⟩ := X
  obtain ⟨hx, hb, hml, hown, hts, hK, hn, hlo, hA, hR, hL9⟩ := cx
  exact fun H locs ls hP hD hS hl => lv_ishr hx hb hd (k H locs ls hP hD hS hl)

theorem zz_ineg (cx : zx F X cc own rm ml) {x : Int32} (hd : decode cc pc = .ok (.ineg, 1)) (k : zj F X cells slots ws (pc + 1) L (.int (-x) :: st)) : zj F X cells slots ws pc L (.int x :: st) := by
  obtain ⟨l, D, tys⟩ := F
  obtain ⟨p, e, R, s, m, args, below, meth, c, A, nL, Q⟩ := X
  obtain ⟨hx, hb, hml, hown, hts, hK, hn, hlo, hA, hR, hL9⟩ := cx
  exact fun H locs ls hP hD hS hl => lv_ineg hx hb hd (k H locs ls hP hD hS hl)

theorem zz_dup (cx : zx F X cc own rm ml) {v : Value} (hd : decode cc pc = .ok (.dup, 1)) (hv : v.category = 1) (k : zj F X cells slots ws (pc + 1) L (v :: v :: st)) : zj F X cells slots ws pc L (v :: st) := by
  obtain ⟨l, D, tys⟩ := F
  obtain ⟨p, e, R, s, m, args, below, meth, c, A, nL, Q⟩ := X
  obtain ⟨hx, hb, hml, hown, hts, hK, hn, hlo, hA, hR, hL9⟩ := cx
  exact fun H locs ls hP hD hS hl => lv_dup hx hb hd hv (k H locs ls hP hD hS hl)

theorem zz_dup2 (cx : zx F X cc own rm ml) {v w : Value} (hd : decode cc pc = .ok (.dup2, 1)) (hv : v.category = 1) (hw : w.category = 1) (k : zj F X cells slots ws (pc + 1) L (v :: w :: v :: w :: st)) : zj F X cells slots ws pc L (v :: w :: st) := by
  obtain ⟨l, D, tys⟩ := F
  obtain ⟨p, e, R, s, m, args, below, meth, c, A, nL, Q⟩ := X
  obtain ⟨hx, hb, hml, hown, hts, hK, hn, hlo, hA, hR, hL9⟩ := cx
  exact fun H locs ls hP hD hS hl => lv_dup2_11 hx hb hd hv hw (k H locs ls hP hD hS hl)

theorem zz_dup_x1 (cx : zx F X cc own rm ml) {v w : Value} (hd : decode cc pc = .ok (.dup_x1, 1)) (hv : v.category = 1) (hw : w.category = 1) (k : zj F X cells slots ws (pc + 1) L (v :: w :: v :: st)) : zj F X cells slots ws pc L (v :: w :: st) := by
  obtain ⟨l, D, tys⟩ := F
  obtain ⟨p, e, R, s, m, args, below, meth, c, A, nL, Q⟩ := X
  obtain ⟨hx, hb, hml, hown, hts, hK, hn, hlo, hA, hR, hL9⟩ := cx
  exact fun H locs ls hP hD hS hl => lv_dup_x1 hx hb hd hv hw (k H locs ls hP hD hS hl)

theorem zz_pop (cx : zx F X cc own rm ml) {v : Value} (hd : decode cc pc = .ok (.pop, 1)) (hv : v.category = 1) (k : zj F X cells slots ws (pc + 1) L st) : zj F X cells slots ws pc L (v :: st) := by
  obtain ⟨l, D, tys⟩ := F
  obtain ⟨p, e, R, s, m, args, below, meth, c, A, nL, Q⟩ := X
  obtain ⟨hx, hb, hml, hown, hts, hK, hn, hlo, hA, hR, hL9⟩ := cx
  exact fun H locs ls hP hD hS hl => lv_pop hx hb hd hv (k H locs ls hP hD hS hl)

theorem zz_goto (cx : zx F X cc own rm ml) {off : Int} {tgt : Nat} (hd : decode cc pc = .ok (.goto off, 3)) (ht : (pc : Int) + off = (tgt : Int)) (k : zj F X cells slots ws tgt L st) : zj F X cells slots ws pc L st := by
  obtain ⟨l, D, tys⟩ := F
  obtain ⟨p, e, R, s, m, args, below, meth, c, A, nL, Q⟩ := X
  obtain ⟨hx, hb, hml, hown, hts, hK, hn, hlo, hA, hR, hL9⟩ := cx
  exact fun H locs ls hP hD hS hl => lv_goto hx hb hd ht (k H locs ls hP hD hS hl)

theorem zz_idiv (cx : zx F X cc own rm ml) {α : Type} {t : Option α} {r : α} {x y : Int32} (hd : decode cc pc = .ok (.idiv, 1)) (h : gs_nz y t = some r) (k : t = some r → zj F X cells slots ws (pc + 1) L (.int (x / y) :: st)) : zj F X cells slots ws pc L (.int y :: .int x :: st) := by
  obtain ⟨hne, h⟩ := gs_nz_some h
  have k := k h
  obtain ⟨l, D, tys⟩ := F
  obtain ⟨p, e, R, s, m, args, below, meth, c, A, nL, Q⟩ := X
  obtain ⟨hx, hb, hml, hown, hts, hK, hn, hlo, hA, hR, hL9⟩ := cx
  exact fun H locs ls hP hD hS hl => lv_idiv hx hb hd hne (k H locs ls hP hD hS hl)

theorem zz_irem (cx : zx F X cc own rm ml) {α : Type} {t : Option α} {r : α} {x y : Int32} (hd : decode cc pc = .ok (.irem, 1)) (h : gs_nz y t = some r) (k : t = some r → zj F X cells slots ws (pc + 1) L (.int (x - x / y * y) :: st)) : zj F X cells slots ws pc L (.int y :: .int x :: st) := by
  obtain ⟨hne, h⟩ := gs_nz_some h
  have k := k h
  obtain ⟨l, D, tys⟩ := F
  obtain ⟨p, e, R, s, m, args, below, meth, c, A, nL, Q⟩ := X
  obtain ⟨hx, hb, hml, hown, hts, hK, hn, hlo, hA, hR, hL9⟩ := cx
  exact fun H locs ls hP hD hS hl => lv_irem hx hb hd hne (k H locs ls hP hD hS hl)

theorem zz_icmp_eq (cx : zx F X cc own rm ml) {α : Type} {a b : Option α} {r : α} {x y : Int32} {off : Int} {tgt : Nat} {dc : Decidable (x = y)} (hd : decode cc pc = .ok (.if_icmp .eq off, 3)) (ht : (pc : Int) + off = (tgt : Int)) (h : @ite _ (x = y) dc a b = some r) (ka : a = some r → zj F X cells slots ws tgt L st) (kb : b = some r → zj F X cells slots ws (pc + 3) L st) : zj F X cells slots ws pc L (.int y :: .int x :: st) := by
  obtain ⟨l, D, tys⟩ := F
  obtain ⟨p, e, R, s, m, args, below, meth, c, A, nL, Q⟩ := X
  obtain ⟨hx, hb, hml, hown, hts, hK, hn, hlo, hA, hR, hL9⟩ := cx
  intro H locs ls hP hD hS hl
  refine gs_if h (fun hc h => ?_) (fun hc h => ?_)
  · exact lv_icmp_eq hx hb hd ht (fun _ => ka h H locs ls hP hD hS hl) (fun hc2 => absurd hc hc2)
  · exact lv_icmp_eq hx hb hd ht (fun hc2 => absurd hc2 hc) (fun _ => kb h H locs ls hP hD hS hl)

theorem zz_if_eq (cx : zx F X cc own rm ml) {α : Type} {a b : Option α} {r : α} {x : Int32} {off : Int} {tgt : Nat} {dc : Decidable (x = 0)} (hd : decode cc pc = .ok (.ifCond .eq off, 3)) (ht : (pc : Int) + off = (tgt : Int)) (h : @ite _ (x = 0) dc a b = some r) (ka : a = some r → zj F X cells slots ws tgt L st) (kb : b = some r → zj F X cells slots ws (pc + 3) L st) : zj F X cells slots ws pc L (.int x :: st) := by
  obtain ⟨l, D, tys⟩ := F
  obtain ⟨p, e, R, s, m, args, below, meth, c, A, nL, Q⟩ := X
  obtain ⟨hx, hb, hml, hown, hts, hK, hn, hlo, hA, hR, hL9⟩ := cx
  intro H locs ls hP hD hS hl
  refine gs_if h (fun hc h => ?_) (fun hc h => ?_)
  · exact lv_if_eq hx hb hd ht (fun _ => ka h H locs ls hP hD hS hl) (fun hc2 => absurd hc hc2)
  · exact lv_if_eq hx hb hd ht (fun hc2 => absurd hc2 hc) (fun _ => kb h H locs ls hP hD hS hl)

theorem zz_icmp_ne (cx : zx F X cc own rm ml) {α : Type} {a b : Option α} {r : α} {x y : Int32} {off : Int} {tgt : Nat} {dc : Decidable (x = y)} (hd : decode cc pc = .ok (.if_icmp .ne off, 3)) (ht : (pc : Int) + off = (tgt : Int)) (h : @ite _ (x = y) dc a b = some r) (ka : a = some r → zj F X cells slots ws (pc + 3) L st) (kb : b = some r → zj F X cells slots ws tgt L st) : zj F X cells slots ws pc L (.int y :: .int x :: st) := by
  obtain ⟨l, D, tys⟩ := F
  obtain ⟨p, e, R, s, m, args, below, meth, c, A, nL, Q⟩ := X
  obtain ⟨hx, hb, hml, hown, hts, hK, hn, hlo, hA, hR, hL9⟩ := cx
  intro H locs ls hP hD hS hl
  refine gs_if h (fun hc h => ?_) (fun hc h => ?_)
  · exact lv_icmp_ne hx hb hd ht (fun hc2 => absurd hc hc2) (fun _ => ka h H locs ls hP hD hS hl)
  · exact lv_icmp_ne hx hb hd ht (fun _ => kb h H locs ls hP hD hS hl) (fun hc2 => absurd hc2 hc)

theorem zz_if_ne (cx : zx F X cc own rm ml) {α : Type} {a b : Option α} {r : α} {x : Int32} {off : Int} {tgt : Nat} {dc : Decidable (x = 0)} (hd : decode cc pc = .ok (.ifCond .ne off, 3)) (ht : (pc : Int) + off = (tgt : Int)) (h : @ite _ (x = 0) dc a b = some r) (ka : a = some r → zj F X cells slots ws (pc + 3) L st) (kb : b = some r → zj F X cells slots ws tgt L st) : zj F X cells slots ws pc L (.int x :: st) := by
  obtain ⟨l, D, tys⟩ := F
  obtain ⟨p, e, R, s, m, args, below, meth, c, A, nL, Q⟩ := X
  obtain ⟨hx, hb, hml, hown, hts, hK, hn, hlo, hA, hR, hL9⟩ := cx
  intro H locs ls hP hD hS hl
  refine gs_if h (fun hc h => ?_) (fun hc h => ?_)
  · exact lv_if_ne hx hb hd ht (fun hc2 => absurd hc hc2) (fun _ => ka h H locs ls hP hD hS hl)
  · exact lv_if_ne hx hb hd ht (fun _ => kb h H locs ls hP hD hS hl) (fun hc2 => absurd hc2 hc)

theorem zz_icmp_lt (cx : zx F X cc own rm ml) {α : Type} {a b : Option α} {r : α} {x y : Int32} {off : Int} {tgt : Nat} {dc : Decidable (x < y)} (hd : decode cc pc = .ok (.if_icmp .lt off, 3)) (ht : (pc : Int) + off = (tgt : Int)) (h : @ite _ (x < y) dc a b = some r) (ka : a = some r → zj F X cells slots ws tgt L st) (kb : b = some r → zj F X cells slots ws (pc + 3) L st) : zj F X cells slots ws pc L (.int y :: .int x :: st) := by
  obtain ⟨l, D, tys⟩ := F
  obtain ⟨p, e, R, s, m, args, below, meth, c, A, nL, Q⟩ := X
  obtain ⟨hx, hb, hml, hown, hts, hK, hn, hlo, hA, hR, hL9⟩ := cx
  intro H locs ls hP hD hS hl
  refine gs_if h (fun hc h => ?_) (fun hc h => ?_)
  · exact lv_icmp_lt hx hb hd ht (fun _ => ka h H locs ls hP hD hS hl) (fun hc2 => absurd hc hc2)
  · exact lv_icmp_lt hx hb hd ht (fun hc2 => absurd hc2 hc) (fun _ => kb h H locs ls hP hD hS hl)

theorem zz_if_lt (cx : zx F X cc own rm ml) {α : Type} {a b : Option α} {r : α} {x : Int32} {off : Int} {tgt : Nat} {dc : Decidable (x < 0)} (hd : decode cc pc = .ok (.ifCond .lt off, 3)) (ht : (pc : Int) + off = (tgt : Int)) (h : @ite _ (x < 0) dc a b = some r) (ka : a = some r → zj F X cells slots ws tgt L st) (kb : b = some r → zj F X cells slots ws (pc + 3) L st) : zj F X cells slots ws pc L (.int x :: st) := by
  obtain ⟨l, D, tys⟩ := F
  obtain ⟨p, e, R, s, m, args, below, meth, c, A, nL, Q⟩ := X
  obtain ⟨hx, hb, hml, hown, hts, hK, hn, hlo, hA, hR, hL9⟩ := cx
  intro H locs ls hP hD hS hl
  refine gs_if h (fun hc h => ?_) (fun hc h => ?_)
  · exact lv_if_lt hx hb hd ht (fun _ => ka h H locs ls hP hD hS hl) (fun hc2 => absurd hc hc2)
  · exact lv_if_lt hx hb hd ht (fun hc2 => absurd hc2 hc) (fun _ => kb h H locs ls hP hD hS hl)

theorem zz_icmp_ge (cx : zx F X cc own rm ml) {α : Type} {a b : Option α} {r : α} {x y : Int32} {off : Int} {tgt : Nat} {dc : Decidable (y ≤ x)} (hd : decode cc pc = .ok (.if_icmp .ge off, 3)) (ht : (pc : Int) + off = (tgt : Int)) (h : @ite _ (y ≤ x) dc a b = some r) (ka : a = some r → zj F X cells slots ws tgt L st) (kb : b = some r → zj F X cells slots ws (pc + 3) L st) : zj F X cells slots ws pc L (.int y :: .int x :: st) := by
  obtain ⟨l, D, tys⟩ := F
  obtain ⟨p, e, R, s, m, args, below, meth, c, A, nL, Q⟩ := X
  obtain ⟨hx, hb, hml, hown, hts, hK, hn, hlo, hA, hR, hL9⟩ := cx
  intro H locs ls hP hD hS hl
  refine gs_if h (fun hc h => ?_) (fun hc h => ?_)
  · exact lv_icmp_ge hx hb hd ht (fun _ => ka h H locs ls hP hD hS hl) (fun hc2 => absurd hc hc2)
  · exact lv_icmp_ge hx hb hd ht (fun hc2 => absurd hc2 hc) (fun _ => kb h H locs ls hP hD hS hl)

theorem zz_if_ge (cx : zx F X cc own rm ml) {α : Type} {a b : Option α} {r : α} {x : Int32} {off : Int} {tgt : Nat} {dc : Decidable (0 ≤ x)} (hd : decode cc pc = .ok (.ifCond .ge off, 3)) (ht : (pc : Int) + off = (tgt : Int)) (h : @ite _ (0 ≤ x) dc a b = some r) (ka : a = some r → zj F X cells slots ws tgt L st) (kb : b = some r → zj F X cells slots ws (pc + 3) L st) : zj F X cells slots ws pc L (.int x :: st) := by
  obtain ⟨l, D, tys⟩ := F
  obtain ⟨p, e, R, s, m, args, below, meth, c, A, nL, Q⟩ := X
  obtain ⟨hx, hb, hml, hown, hts, hK, hn, hlo, hA, hR, hL9⟩ := cx
  intro H locs ls hP hD hS hl
  refine gs_if h (fun hc h => ?_) (fun hc h => ?_)
  · exact lv_if_ge hx hb hd ht (fun _ => ka h H locs ls hP hD hS hl) (fun hc2 => absurd hc hc2)
  · exact lv_if_ge hx hb hd ht (fun hc2 => absurd hc2 hc) (fun _ => kb h H locs ls hP hD hS hl)

theorem zz_icmp_gt (cx : zx F X cc own rm ml) {α : Type} {a b : Option α} {r : α} {x y : Int32} {off : Int} {tgt : Nat} {dc : Decidable (y < x)} (hd : decode cc pc = .ok (.if_icmp .gt off, 3)) (ht : (pc : Int) + off = (tgt : Int)) (h : @ite _ (y < x) dc a b = some r) (ka : a = some r → zj F X cells slots ws tgt L st) (kb : b = some r → zj F X cells slots ws (pc + 3) L st) : zj F X cells slots ws pc L (.int y :: .int x :: st) := by
  obtain ⟨l, D, tys⟩ := F
  obtain ⟨p, e, R, s, m, args, below, meth, c, A, nL, Q⟩ := X
  obtain ⟨hx, hb, hml, hown, hts, hK, hn, hlo, hA, hR, hL9⟩ := cx
  intro H locs ls hP hD hS hl
  refine gs_if h (fun hc h => ?_) (fun hc h => ?_)
  · exact lv_icmp_gt hx hb hd ht (fun _ => ka h H locs ls hP hD hS hl) (fun hc2 => absurd hc hc2)
  · exact lv_icmp_gt hx hb hd ht (fun hc2 => absurd hc2 hc) (fun _ => kb h H locs ls hP hD hS hl)

theorem zz_if_gt (cx : zx F X cc own rm ml) {α : Type} {a b : Option α} {r : α} {x : Int32} {off : Int} {tgt : Nat} {dc : Decidable (0 < x)} (hd : decode cc pc = .ok (.ifCond .gt off, 3)) (ht : (pc : Int) + off = (tgt : Int)) (h : @ite _ (0 < x) dc a b = some r) (ka : a = some r → zj F X cells slots ws tgt L st) (kb : b = some r → zj F X cells slots ws (pc + 3) L st) : zj F X cells slots ws pc L (.int x :: st) := by
  obtain ⟨l, D, tys⟩ := F
  obtain ⟨p, e, R, s, m, args, below, meth, c, A, nL, Q⟩ := X
  obtain ⟨hx, hb, hml, hown, hts, hK, hn, hlo, hA, hR, hL9⟩ := cx
  intro H locs ls hP hD hS hl
  refine gs_if h (fun hc h => ?_) (fun hc h => ?_)
  · exact lv_if_gt hx hb hd ht (fun _ => ka h H locs ls hP hD hS hl) (fun hc2 => absurd hc hc2)
  · exact lv_if_gt hx hb hd ht (fun hc2 => absurd hc2 hc) (fun _ => kb h H locs ls hP hD hS hl)

theorem zz_icmp_le (cx : zx F X cc own rm ml) {α : Type} {a b : Option α} {r : α} {x y : Int32} {off : Int} {tgt : Nat} {dc : Decidable (x ≤ y)} (hd : decode cc pc = .ok (.if_icmp .le off, 3)) (ht : (pc : Int) + off = (tgt : Int)) (h : @ite _ (x ≤ y) dc a b = some r) (ka : a = some r → zj F X cells slots ws tgt L st) (kb : b = some r → zj F X cells slots ws (pc + 3) L st) : zj F X cells slots ws pc L (.int y :: .int x :: st) := by
  obtain ⟨l, D, tys⟩ := F
  obtain ⟨p, e, R, s, m, args, below, meth, c, A, nL, Q⟩ := X
  obtain ⟨hx, hb, hml, hown, hts, hK, hn, hlo, hA, hR, hL9⟩ := cx
  intro H locs ls hP hD hS hl
  refine gs_if h (fun hc h => ?_) (fun hc h => ?_)
  · exact lv_icmp_le hx hb hd ht (fun _ => ka h H locs ls hP hD hS hl) (fun hc2 => absurd hc hc2)
  · exact lv_icmp_le hx hb hd ht (fun hc2 => absurd hc2 hc) (fun _ => kb h H locs ls hP hD hS hl)

theorem zz_if_le (cx : zx F X cc own rm ml) {α : Type} {a b : Option α} {r : α} {x : Int32} {off : Int} {tgt : Nat} {dc : Decidable (x ≤ 0)} (hd : decode cc pc = .ok (.ifCond .le off, 3)) (ht : (pc : Int) + off = (tgt : Int)) (h : @ite _ (x ≤ 0) dc a b = some r) (ka : a = some r → zj F X cells slots ws tgt L st) (kb : b = some r → zj F X cells slots ws (pc + 3) L st) : zj F X cells slots ws pc L (.int x :: st) := by
  obtain ⟨l, D, tys⟩ := F
  obtain ⟨p, e, R, s, m, args, below, meth, c, A, nL, Q⟩ := X
  obtain ⟨hx, hb, hml, hown, hts, hK, hn, hlo, hA, hR, hL9⟩ := cx
  intro H locs ls hP hD hS hl
  refine gs_if h (fun hc h => ?_) (fun hc h => ?_)
  · exact lv_if_le hx hb hd ht (fun _ => ka h H locs ls hP hD hS hl) (fun hc2 => absurd hc hc2)
  · exact lv_if_le hx hb hd ht (fun hc2 => absurd hc2 hc) (fun _ => kb h H locs ls hP hD hS hl)

theorem zz_icmp_eq_t (cx : zx F X cc own rm ml) {x y : Int32} {off : Int} {tgt : Nat} (hd : decode cc pc = .ok (.if_icmp .eq off, 3)) (ht : (pc : Int) + off = (tgt : Int)) (hc : x = y) (k : zj F X cells slots ws tgt L st) : zj F X cells slots ws pc L (.int y :: .int x :: st) := by
  obtain ⟨l, D, tys⟩ := F
  obtain ⟨p, e, R, s, m, args, below, meth, c, A, nL, Q⟩ := X
  obtain ⟨hx, hb, hml, hown, hts, hK, hn, hlo, hA, hR, hL9⟩ := cx
  exact fun H locs ls hP hD hS hl => lv_icmp_eq hx hb hd ht (fun _ => k H locs ls hP hD hS hl) (fun hc2 => absurd hc hc2)

theorem zz_icmp_eq_f (cx : zx F X cc own rm ml) {x y : Int32} {off : Int} {tgt : Nat} (hd : decode cc pc = .ok (.if_icmp .eq off, 3)) (ht : (pc : Int) + off = (tgt : Int)) (hc : ¬ x = y) (k : zj F X cells slots ws (pc + 3) L st) : zj F X cells slots ws pc L (.int y :: .int x :: st) := by
  obtain ⟨l, D, tys⟩ := F
  obtain ⟨p, e, R, s, m, args, below, meth, c, A, nL, Q⟩ := X
  obtain ⟨hx, hb, hml, hown, hts, hK, hn, hlo, hA, hR, hL9⟩ := cx
  intro H locs ls hP hD hS hl
  refine lv_icmp_eq hx hb hd ht (fun hc2 => ?_) (fun hc2 => ?_)
  · first | exact k H locs ls hP hD hS hl | exact absurd hc hc2 | exact absurd hc2 hc
  · first | exact k H locs ls hP hD hS hl | exact absurd hc hc2 | exact absurd hc2 hc

theorem zz_if_eq_t (cx : zx F X cc own rm ml) {x : Int32} {off : Int} {tgt : Nat} (hd : decode cc pc = .ok (.ifCond .eq off, 3)) (ht : (pc : Int) + off = (tgt : Int)) (hc : x = 0) (k : zj F X cells slots ws tgt L st) : zj F X cells slots ws pc L (.int x :: st) := by
  obtain ⟨l, D, tys⟩ := F
  obtain ⟨p, e, R, s, m, args, below, meth, c, A, nL, Q⟩ := X
  obtain ⟨hx, hb, hml, hown, hts, hK, hn, hlo, hA, hR, hL9⟩ := cx
  exact fun H locs ls hP hD hS hl => lv_if_eq hx hb hd ht (fun _ => k H locs ls hP hD hS hl) (fun hc2 => absurd hc hc2)

theorem zz_if_eq_f (cx : zx F X cc own rm ml) {x : Int32} {off : Int} {tgt : Nat} (hd : decode cc pc = .ok (.ifCond .eq off, 3)) (ht : (pc : Int) + off = (tgt : Int)) (hc : ¬ x = 0) (k : zj F X cells slots ws (pc + 3) L st) : zj F X cells slots ws pc L (.int x :: st) := by
  obtain ⟨l, D, tys⟩ := F
  obtain ⟨p, e, R, s, m, args, below, meth, c, A, nL, Q⟩ := X
  obtain ⟨hx, hb, hml, hown, hts, hK, hn, hlo, hA, hR, hL9⟩ := cx
  intro H locs ls hP hD hS hl
  refine lv_if_eq hx hb hd ht (fun hc2 => ?_) (fun hc2 => ?_)
  · first | exact k H locs ls hP hD hS hl | exact absurd hc hc2 | exact absurd hc2 hc
  · first | exact k H locs ls hP hD hS hl | exact absurd hc hc2 | exact absurd hc2 hc

theorem zz_icmp_ne_t (cx : zx F X cc own rm ml) {x y : Int32} {off : Int} {tgt : Nat} (hd : decode cc pc = .ok (.if_icmp .ne off, 3)) (ht : (pc : Int) + off = (tgt : Int)) (hc : ¬ x = y) (k : zj F X cells slots ws tgt L st) : zj F X cells slots ws pc L (.int y :: .int x :: st) := by
  obtain ⟨l, D, tys⟩ := F
  obtain ⟨p, e, R, s, m, args, below, meth, c, A, nL, Q⟩ := X
  obtain ⟨hx, hb, hml, hown, hts, hK, hn, hlo, hA, hR, hL9⟩ := cx
  intro H locs ls hP hD hS hl
  refine lv_icmp_ne hx hb hd ht (fun hc2 => ?_) (fun hc2 => ?_)
  · first | exact k H locs ls hP hD hS hl | exact absurd hc hc2 | exact absurd hc2 hc
  · first | exact k H locs ls hP hD hS hl | exact absurd hc hc2 | exact absurd hc2 hc

theorem zz_icmp_ne_f (cx : zx F X cc own rm ml) {x y : Int32} {off : Int} {tgt : Nat} (hd : decode cc pc = .ok (.if_icmp .ne off, 3)) (ht : (pc : Int) + off = (tgt : Int)) (hc : x = y) (k : zj F X cells slots ws (pc + 3) L st) : zj F X cells slots ws pc L (.int y :: .int x :: st) := by
  obtain ⟨l, D, tys⟩ := F
  obtain ⟨p, e, R, s, m, args, below, meth, c, A, nL, Q⟩ := X
  obtain ⟨hx, hb, hml, hown, hts, hK, hn, hlo, hA, hR, hL9⟩ := cx
  intro H locs ls hP hD hS hl
  refine lv_icmp_ne hx hb hd ht (fun hc2 => ?_) (fun hc2 => ?_)
  · first | exact k H locs ls hP hD hS hl | exact absurd hc hc2 | exact absurd hc2 hc
  · first | exact k H locs ls hP hD hS hl | exact absurd hc hc2 | exact absurd hc2 hc

theorem zz_if_ne_t (cx : zx F X cc own rm ml) {x : Int32} {off : Int} {tgt : Nat} (hd : decode cc pc = .ok (.ifCond .ne off, 3)) (ht : (pc : Int) + off = (tgt : Int)) (hc : ¬ x = 0) (k : zj F X cells slots ws tgt L st) : zj F X cells slots ws pc L (.int x :: st) := by
  obtain ⟨l, D, tys⟩ := F
  obtain ⟨p, e, R, s, m, args, below, meth, c, A, nL, Q⟩ := X
  obtain ⟨hx, hb, hml, hown, hts, hK, hn, hlo, hA, hR, hL9⟩ := cx
  intro H locs ls hP hD hS hl
  refine lv_if_ne hx hb hd ht (fun hc2 => ?_) (fun hc2 => ?_)
  · first | exact k H locs ls hP hD hS hl | exact absurd hc hc2 | exact absurd hc2 hc
  · first | exact k H locs ls hP hD hS hl | exact absurd hc hc2 | exact absurd hc2 hc

theorem zz_if_ne_f (cx : zx F X cc own rm ml) {x : Int32} {off : Int} {tgt : Nat} (hd : decode cc pc = .ok (.ifCond .ne off, 3)) (ht : (pc : Int) + off = (tgt : Int)) (hc : x = 0) (k : zj F X cells slots ws (pc + 3) L st) : zj F X cells slots ws pc L (.int x :: st) := by
  obtain ⟨l, D, tys⟩ := F
  obtain ⟨p, e, R, s, m, args, below, meth, c, A, nL, Q⟩ := X
  obtain ⟨hx, hb, hml, hown, hts, hK, hn, hlo, hA, hR, hL9⟩ := cx
  intro H locs ls hP hD hS hl
  refine lv_if_ne hx hb hd ht (fun hc2 => ?_) (fun hc2 => ?_)
  · first | exact k H locs ls hP hD hS hl | exact absurd hc hc2 | exact absurd hc2 hc
  · first | exact k H locs ls hP hD hS hl | exact absurd hc hc2 | exact absurd hc2 hc

theorem zz_icmp_lt_t (cx : zx F X cc own rm ml) {x y : Int32} {off : Int} {tgt : Nat} (hd : decode cc pc = .ok (.if_icmp .lt off, 3)) (ht : (pc : Int) + off = (tgt : Int)) (hc : x < y) (k : zj F X cells slots ws tgt L st) : zj F X cells slots ws pc L (.int y :: .int x :: st) := by
  obtain ⟨l, D, tys⟩ := F
  obtain ⟨p, e, R, s, m, args, below, meth, c, A, nL, Q⟩ := X
  obtain ⟨hx, hb, hml, hown, hts, hK, hn, hlo, hA, hR, hL9⟩ := cx
  exact fun H locs ls hP hD hS hl => lv_icmp_lt hx hb hd ht (fun _ => k H locs ls hP hD hS hl) (fun hc2 => absurd hc hc2)

theorem zz_icmp_lt_f (cx : zx F X cc own rm ml) {x y : Int32} {off : Int} {tgt : Nat} (hd : decode cc pc = .ok (.if_icmp .lt off, 3)) (ht : (pc : Int) + off = (tgt : Int)) (hc : ¬ x < y) (k : zj F X cells slots ws (pc + 3) L st) : zj F X cells slots ws pc L (.int y :: .int x :: st) := by
  obtain ⟨l, D, tys⟩ := F
  obtain ⟨p, e, R, s, m, args, below, meth, c, A, nL, Q⟩ := X
  obtain ⟨hx, hb, hml, hown, hts, hK, hn, hlo, hA, hR, hL9⟩ := cx
  intro H locs ls hP hD hS hl
  refine lv_icmp_lt hx hb hd ht (fun hc2 => ?_) (fun hc2 => ?_)
  · first | exact k H locs ls hP hD hS hl | exact absurd hc hc2 | exact absurd hc2 hc
  · first | exact k H locs ls hP hD hS hl | exact absurd hc hc2 | exact absurd hc2 hc

theorem zz_if_lt_t (cx : zx F X cc own rm ml) {x : Int32} {off : Int} {tgt : Nat} (hd : decode cc pc = .ok (.ifCond .lt off, 3)) (ht : (pc : Int) + off = (tgt : Int)) (hc : x < 0) (k : zj F X cells slots ws tgt L st) : zj F X cells slots ws pc L (.int x :: st) := by
  obtain ⟨l, D, tys⟩ := F
  obtain ⟨p, e, R, s, m, args, below, meth, c, A, nL, Q⟩ := X
  obtain ⟨hx, hb, hml, hown, hts, hK, hn, hlo, hA, hR, hL9⟩ := cx
  exact fun H locs ls hP hD hS hl => lv_if_lt hx hb hd ht (fun _ => k H locs ls hP hD hS hl) (fun hc2 => absurd hc hc2)

theorem zz_if_lt_f (cx : zx F X cc own rm ml) {x : Int32} {off : Int} {tgt : Nat} (hd : decode cc pc = .ok (.ifCond .lt off, 3)) (ht : (pc : Int) + off = (tgt : Int)) (hc : ¬ x < 0) (k : zj F X cells slots ws (pc + 3) L st) : zj F X cells slots ws pc L (.int x :: st) := by
  obtain ⟨l, D, tys⟩ := F
  obtain ⟨p, e, R, s, m, args, below, meth, c, A, nL, Q⟩ := X
  obtain ⟨hx, hb, hml, hown, hts, hK, hn, hlo, hA, hR, hL9⟩ := cx
  intro H locs ls hP hD hS hl
  refine lv_if_lt hx hb hd ht (fun hc2 => ?_) (fun hc2 => ?_)
  · first | exact k H locs ls hP hD hS hl | exact absurd hc hc2 | exact absurd hc2 hc
  · first | exact k H locs ls hP hD hS hl | exact absurd hc hc2 | exact absurd hc2 hc

theorem zz_icmp_ge_t (cx : zx F X cc own rm ml) {x y : Int32} {off : Int} {tgt : Nat} (hd : decode cc pc = .ok (.if_icmp .ge off, 3)) (ht : (pc : Int) + off = (tgt : Int)) (hc : y ≤ x) (k : zj F X cells slots ws tgt L st) : zj F X cells slots ws pc L (.int y :: .int x :: st) := by
  obtain ⟨l, D, tys⟩ := F
  obtain ⟨p, e, R, s, m, args, below, meth, c, A, nL, Q⟩ := X
  obtain ⟨hx, hb, hml, hown, hts, hK, hn, hlo, hA, hR, hL9⟩ := cx
  exact fun H locs ls hP hD hS hl => lv_icmp_ge hx hb hd ht (fun _ => k H locs ls hP hD hS hl) (fun hc2 => absurd hc hc2)

theorem zz_icmp_ge_f (cx : zx F X cc own rm ml) {x y : Int32} {off : Int} {tgt : Nat} (hd : decode cc pc = .ok (.if_icmp .ge off, 3)) (ht : (pc : Int) + off = (tgt : Int)) (hc : ¬ y ≤ x) (k : zj F X cells slots ws (pc + 3) L st) : zj F X cells slots ws pc L (.int y :: .int x :: st) := by
  obtain ⟨l, D, tys⟩ := F
  obtain ⟨p, e, R, s, m, args, below, meth, c, A, nL, Q⟩ := X
  obtain ⟨hx, hb, hml, hown, hts, hK, hn, hlo, hA, hR, hL9⟩ := cx
  intro H locs ls hP hD hS hl
  refine lv_icmp_ge hx hb hd ht (fun hc2 => ?_) (fun hc2 => ?_)
  · first | exact k H locs ls hP hD hS hl | exact absurd hc hc2 | exact absurd hc2 hc
  · first | exact k H locs ls hP hD hS hl | exact absurd hc hc2 | exact absurd hc2 hc

theorem zz_if_ge_t (cx : zx F X cc own rm ml) {x : Int32} {off : Int} {tgt : Nat} (hd : decode cc pc = .ok (.ifCond .ge off, 3)) (ht : (pc : Int) + off = (tgt : Int)) (hc : 0 ≤ x) (k : zj F X cells slots ws tgt L st) : zj F X cells slots ws pc L (.int x :: st) := by
  obtain ⟨l, D, tys⟩ := F
  obtain ⟨p, e, R, s, m, args, below, meth, c, A, nL, Q⟩ := X
  obtain ⟨hx, hb, hml, hown, hts, hK, hn, hlo, hA, hR, hL9⟩ := cx
  exact fun H locs ls hP hD hS hl => lv_if_ge hx hb hd ht (fun _ => k H locs ls hP hD hS hl) (fun hc2 => absurd hc hc2)

theorem zz_if_ge_f (cx : zx F X cc own rm ml) {x : Int32} {off : Int} {tgt : Nat} (hd : decode cc pc = .ok (.ifCond .ge off, 3)) (ht : (pc : Int) + off = (tgt : Int)) (hc : ¬ 0 ≤ x) (k : zj F X cells slots ws (pc + 3) L st) : zj F X cells slots ws pc L (.int x :: st) := by
  obtain ⟨l, D, tys⟩ := F
  obtain ⟨p, e, R, s, m, args, below, meth, c, A, nL, Q⟩ := X
  obtain ⟨hx, hb, hml, hown, hts, hK, hn, hlo, hA, hR, hL9⟩ := cx
  intro H locs ls hP hD hS hl
  refine lv_if_ge hx hb hd ht (fun hc2 => ?_) (fun hc2 => ?_)
  · first | exact k H locs ls hP hD hS hl | exact absurd hc hc2 | exact absurd hc2 hc
  · first | exact k H locs ls hP hD hS hl | exact absurd hc hc2 | exact absurd hc2 hc

theorem zz_icmp_gt_t (cx : zx F X cc own rm ml) {x y : Int32} {off : Int} {tgt : Nat} (hd : decode cc pc = .ok (.if_icmp .gt off, 3)) (ht : (pc : Int) + off = (tgt : Int)) (hc : y < x) (k : zj F X cells slots ws tgt L st) : zj F X cells slots ws pc L (.int y :: .int x :: st) := by
  obtain ⟨l, D, tys⟩ := F
  obtain ⟨p, e, R, s, m, args, below, meth, c, A, nL, Q⟩ := X
  obtain ⟨hx, hb, hml, hown, hts, hK, hn, hlo, hA, hR, hL9⟩ := cx
  exact fun H locs ls hP hD hS hl => lv_icmp_gt hx hb hd ht (fun _ => k H locs ls hP hD hS hl) (fun hc2 => absurd hc hc2)

theorem zz_icmp_gt_f (cx : zx F X cc own rm ml) {x y : Int32} {off : Int} {tgt : Nat} (hd : decode cc pc = .ok (.if_icmp .gt off, 3)) (ht : (pc : Int) + off = (tgt : Int)) (hc : ¬ y < x) (k : zj F X cells slots ws (pc + 3) L st) : zj F X cells slots ws pc L (.int y :: .int x :: st) := by
  obtain ⟨l, D, tys⟩ := F
  obtain ⟨p, e, R, s, m, args, below, meth, c, A, nL, Q⟩ := X
  obtain ⟨hx, hb, hml, hown, hts, hK, hn, hlo, hA, hR, hL9⟩ := cx
  intro H locs ls hP hD hS hl
  refine lv_icmp_gt hx hb hd ht (fun hc2 => ?_) (fun hc2 => ?_)
  · first | exact k H locs ls hP hD hS hl | exact absurd hc hc2 | exact absurd hc2 hc
  · first | exact k H locs ls hP hD hS hl | exact absurd hc hc2 | exact absurd hc2 hc

theorem zz_if_gt_t (cx : zx F X cc own rm ml) {x : Int32} {off : Int} {tgt : Nat} (hd : decode cc pc = .ok (.ifCond .gt off, 3)) (ht : (pc : Int) + off = (tgt : Int)) (hc : 0 < x) (k : zj F X cells slots ws tgt L st) : zj F X cells slots ws pc L (.int x :: st) := by
  obtain ⟨l, D, tys⟩ := F
  obtain ⟨p, e, R, s, m, args, below, meth, c, A, nL, Q⟩ := X
  obtain ⟨hx, hb, hml, hown, hts, hK, hn, hlo, hA, hR, hL9⟩ := cx
  exact fun H locs ls hP hD hS hl => lv_if_gt hx hb hd ht (fun _ => k H locs ls hP hD hS hl) (fun hc2 => absurd hc hc2)

theorem zz_if_gt_f (cx : zx F X cc own rm ml) {x : Int32} {off : Int} {tgt : Nat} (hd : decode cc pc = .ok (.ifCond .gt off, 3)) (ht : (pc : Int) + off = (tgt : Int)) (hc : ¬ 0 < x) (k : zj F X cells slots ws (pc + 3) L st) : zj F X cells slots ws pc L (.int x :: st) := by
  obtain ⟨l, D, tys⟩ := F
  obtain ⟨p, e, R, s, m, args, below, meth, c, A, nL, Q⟩ := X
  obtain ⟨hx, hb, hml, hown, hts, hK, hn, hlo, hA, hR, hL9⟩ := cx
  intro H locs ls hP hD hS hl
  refine lv_if_gt hx hb hd ht (fun hc2 => ?_) (fun hc2 => ?_)
  · first | exact k H locs ls hP hD hS hl | exact absurd hc hc2 | exact absurd hc2 hc
  · first | exact k H locs ls hP hD hS hl | exact absurd hc hc2 | exact absurd hc2 hc

theorem zz_icmp_le_t (cx : zx F X cc own rm ml) {x y : Int32} {off : Int} {tgt : Nat} (hd : decode cc pc = .ok (.if_icmp .le off, 3)) (ht : (pc : Int) + off = (tgt : Int)) (hc : x ≤ y) (k : zj F X cells slots ws tgt L st) : zj F X cells slots ws pc L (.int y :: .int x :: st) := by
  obtain ⟨l, D, tys⟩ := F
  obtain ⟨p, e, R, s, m, args, below, meth, c, A, nL, Q⟩ := X
  obtain ⟨hx, hb, hml, hown, hts, hK, hn, hlo, hA, hR, hL9⟩ := cx
  exact fun H locs ls hP hD hS hl => lv_icmp_le hx hb hd ht (fun _ => k H locs ls hP hD hS hl) (fun hc2 => absurd hc hc2)

theorem zz_icmp_le_f (cx : zx F X cc own rm ml) {x y : Int32} {off : Int} {tgt : Nat} (hd : decode cc pc = .ok (.if_icmp .le off, 3)) (ht : (pc : Int) + off = (tgt : Int)) (hc : ¬ x ≤ y) (k : zj F X cells slots ws (pc + 3) L st) : zj F X cells slots ws pc L (.int y :: .int x :: st) := by
  obtain ⟨l, D, tys⟩ := F
  obtain ⟨p, e, R, s, m, args, below, meth, c, A, nL, Q⟩ := X
  obtain ⟨hx, hb, hml, hown, hts, hK, hn, hlo, hA, hR, hL9⟩ := cx
  intro H locs ls hP hD hS hl
  refine lv_icmp_le hx hb hd ht (fun hc2 => ?_) (fun hc2 => ?_)
  · first | exact k H locs ls hP hD hS hl | exact absurd hc hc2 | exact absurd hc2 hc
  · first | exact k H locs ls hP hD hS hl | exact absurd hc hc2 | exact absurd hc2 hc

theorem zz_if_le_t (cx : zx F X cc own rm ml) {x : Int32} {off : Int} {tgt : Nat} (hd : decode cc pc = .ok (.ifCond .le off, 3)) (ht : (pc : Int) + off = (tgt : Int)) (hc : x ≤ 0) (k : zj F X cells slots ws tgt L st) : zj F X cells slots ws pc L (.int x :: st) := by
  obtain ⟨l, D, tys⟩ := F
  obtain ⟨p, e, R, s, m, args, below, meth, c, A, nL, Q⟩ := X
  obtain ⟨hx, hb, hml, hown, hts, hK, hn, hlo, hA, hR, hL9⟩ := cx
  exact fun H locs ls hP hD hS hl => lv_if_le hx hb hd ht (fun _ => k H locs ls hP hD hS hl) (fun hc2 => absurd hc hc2)

theorem zz_if_le_f (cx : zx F X cc own rm ml) {x : Int32} {off : Int} {tgt : Nat} (hd : decode cc pc = .ok (.ifCond .le off, 3)) (ht : (pc : Int) + off = (tgt : Int)) (hc : ¬ x ≤ 0) (k : zj F X cells slots ws (pc + 3) L st) : zj F X cells slots ws pc L (.int x :: st) := by
  obtain ⟨l, D, tys⟩ := F
  obtain ⟨p, e, R, s, m, args, below, meth, c, A, nL, Q⟩ := X
  obtain ⟨hx, hb, hml, hown, hts, hK, hn, hlo, hA, hR, hL9⟩ := cx
  intro H locs ls hP hD hS hl
  refine lv_if_le hx hb hd ht (fun hc2 => ?_) (fun hc2 => ?_)
  · first | exact k H locs ls hP hD hS hl | exact absurd hc hc2 | exact absurd hc2 hc
  · first | exact k H locs ls hP hD hS hl | exact absurd hc hc2 | exact absurd hc2 hc

theorem zz_get (cx : zx F X cc own rm ml) {C : String} {T : u_T} {N ci index a : Nat} {fs : List Value} {v : Value} (hin : ∀ w ∈ u_ws C T N, w ∈ zt_ws) (hc : vw_Cl[ci]? = some (C, T, N)) (q0 kf : Nat) (he : ws[q0]? = some (a, .inr (ci, fs))) (hk : kf < N) (hlink : Cond.fieldLink own index (T kf).1 (T kf).2.1 (T kf).2.2.1 ∈ zt_ws) (hv : fs[kf]? = some v) (hd : decode cc pc = .ok (.getfield index, 3)) (k : zj F X cells slots ws (pc + 3) L (v :: st)) : zj F X cells slots ws pc L (.ref a :: st) := by
  obtain ⟨l, D, tys⟩ := F
  obtain ⟨p, e, R, s, m, args, below, meth, c, A, nL, Q⟩ := X
  obtain ⟨hx, hb, hml, hown, hts, hK, hn, hlo, hA, hR, hL9⟩ := cx
  exact fun H locs ls hP hD hS hl => va_get (D := D) hx hb hts hin hown hK hP q0 he hc kf hk (hts _ hlink) (fun _ h9 => h9) hv hd (k H locs ls hP hD hS hl)

theorem zz_put (cx : zx F X cc own rm ml) {C : String} {T : u_T} {N ci index a : Nat} {fs : List Value} {v : Value} {ws2 : va_W} (hin : ∀ w ∈ u_ws C T N, w ∈ zt_ws) {ty0 : Nat → FieldType} (hty : ∀ k, k < N → parseFieldDescriptor (T k).2.2.1 = some (ty0 k)) (hnm : ∀ a, a < N → ∀ b, b < N → a ≠ b → (T a).2.1 ≠ (T b).2.1) (hc : vw_Cl[ci]? = some (C, T, N)) (q0 kf : Nat) (he : ws[q0]? = some (a, .inr (ci, fs))) (hk : kf < N) (hlink : Cond.fieldLink own index (T kf).1 (T kf).2.1 (T kf).2.2.1 ∈ zt_ws) (hfin : (T kf).2.2.2 = false) {ty : FieldType} (hpd : parseFieldDescriptor (T kf).2.2.1 = some ty) (hnr : narrow ty v = v) (hfit : fits ty v = true) (hlen : kf < fs.length) (hw : ws.set q0 (a, .inr (ci, fs.set kf v)) = ws2) (hd : decode cc pc = .ok (.putfield index, 3)) (k : zj F X cells slots ws2 (pc + 3) L st) : zj F X cells slots ws pc L (v :: .ref a :: st) := by
  obtain ⟨l, D, tys⟩ := F
  obtain ⟨p, e, R, s, m, args, below, meth, c, A, nL, Q⟩ := X
  obtain ⟨hx, hb, hml, hown, hts, hK, hn, hlo, hA, hR, hL9⟩ := cx
  subst hw
  exact fun H locs ls hP hD hS hl => va_put (D := D) hx hb hts hin ty0 hty hnm hown hK hP hD hS q0 he hc kf hk (hts _ hlink) (fun _ h9 => h9) hfin hpd hnr hfit hlen hd (fun H1 locs1 hP1 hD1 hS1 => k H1 locs1 ls hP1 hD1 hS1 hl)

theorem zz_getN (cx : zx F X cc own rm ml) {C : String} {T : u_T} {N ci index a : Nat} {fs : List Value} {v : Value} (hin : ∀ w ∈ u_ws C T N, w ∈ zt_ws) (hc : vw_Cl[ci]? = some (C, T, N)) (q0 kf : Nat) (he : ws[q0]? = some (a, .inr (ci, fs))) (hk : kf < N) {host : String} (hlink : Cond.fieldLinkNest own index (T kf).1 (T kf).2.1 (T kf).2.2.1 host ∈ zn_ws) (hv : fs[kf]? = some v) (hd : decode cc pc = .ok (.getfield index, 3)) (k : zj F X cells slots ws (pc + 3) L (v :: st)) : zj F X cells slots ws pc L (.ref a :: st) := by
  obtain ⟨l, D, tys⟩ := F
  obtain ⟨p, e, R, s, m, args, below, meth, c, A, nL, Q⟩ := X
  obtain ⟨hx, hb, hml, hown, hts, hK, hn, hlo, hA, hR, hL9⟩ := cx
  exact fun H locs ls hP hD hS hl => va_getN (D := D) hx hb hts hin hown hK hP q0 he hc kf hk (va_Nw.use rfl (hn _ hlink)) (fun _ h9 => h9) hv hd (k H locs ls hP hD hS hl)

theorem zz_putN (cx : zx F X cc own rm ml) {C : String} {T : u_T} {N ci index a : Nat} {fs : List Value} {v : Value} {ws2 : va_W} (hin : ∀ w ∈ u_ws C T N, w ∈ zt_ws) {ty0 : Nat → FieldType} (hty : ∀ k, k < N → parseFieldDescriptor (T k).2.2.1 = some (ty0 k)) (hnm : ∀ a, a < N → ∀ b, b < N → a ≠ b → (T a).2.1 ≠ (T b).2.1) (hc : vw_Cl[ci]? = some (C, T, N)) (q0 kf : Nat) (he : ws[q0]? = some (a, .inr (ci, fs))) (hk : kf < N) {host : String} (hlink : Cond.fieldLinkNest own index (T kf).1 (T kf).2.1 (T kf).2.2.1 host ∈ zn_ws) (hfin : (T kf).2.2.2 = false) {ty : FieldType} (hpd : parseFieldDescriptor (T kf).2.2.1 = some ty) (hnr : narrow ty v = v) (hfit : fits ty v = true) (hlen : kf < fs.length) (hw : ws.set q0 (a, .inr (ci, fs.set kf v)) = ws2) (hd : decode cc pc = .ok (.putfield index, 3)) (k : zj F X cells slots ws2 (pc + 3) L st) : zj F X cells slots ws pc L (v :: .ref a :: st) := by
  obtain ⟨l, D, tys⟩ := F
  obtain ⟨p, e, R, s, m, args, below, meth, c, A, nL, Q⟩ := X
  obtain ⟨hx, hb, hml, hown, hts, hK, hn, hlo, hA, hR, hL9⟩ := cx
  subst hw
  exact fun H locs ls hP hD hS hl => va_putN (D := D) hx hb hts hin ty0 hty hnm hown hK hP hD hS q0 he hc kf hk (va_Nw.use rfl (hn _ hlink)) (fun _ h9 => h9) hfin hpd hnr hfit hlen hd (fun H1 locs1 hP1 hD1 hS1 => k H1 locs1 ls hP1 hD1 hS1 hl)

theorem zz_iald (cx : zx F X cc own rm ml) {α : Type} {t : Option α} {r : α} {cA n a : Nat} {f : Nat → Int32} {i v : Int32} (q0 t0 : Nat) (ha : ws[q0]? = some (a, .inl (cA, n, .inl f))) (ht : F.2.2[t0]? = some (cA, .int)) (h : gs_ck i n t = some r) (hv : f i.toNatClampNeg = v) (hd : decode cc pc = .ok (.iaload, 1)) (k : t = some r → zj F X cells slots ws (pc + 1) L (.int v :: st)) : zj F X cells slots ws pc L (.int i :: .ref a :: st) := by
  obtain ⟨hin, h⟩ := gs_ck_some h
  have k := k h
  subst hv
  obtain ⟨l, D, tys⟩ := F
  obtain ⟨p, e, R, s, m, args, below, meth, c, A, nL, Q⟩ := X
  obtain ⟨hx, hb, hml, hown, hts, hK, hn, hlo, hA, hR, hL9⟩ := cx
  exact fun H locs ls hP hD hS hl => va_iald (D := D) hx hb hK hP q0 t0 ha ht hin hd (k H locs ls hP hD hS hl)

theorem zz_zald (cx : zx F X cc own rm ml) {α : Type} {t : Option α} {r : α} {cA n a : Nat} {f : Nat → Int32} {i v : Int32} (q0 t0 : Nat) (ha : ws[q0]? = some (a, .inl (cA, n, .inl f))) (ht : F.2.2[t0]? = some (cA, .boolean)) (h : gs_ck i n t = some r) (hv : f i.toNatClampNeg = v) (hd : decode cc pc = .ok (.baload, 1)) (k : t = some r → zj F X cells slots ws (pc + 1) L (.int v :: st)) : zj F X cells slots ws pc L (.int i :: .ref a :: st) := by
  obtain ⟨hin, h⟩ := gs_ck_some h
  have k := k h
  subst hv
  obtain ⟨l, D, tys⟩ := F
  obtain ⟨p, e, R, s, m, args, below, meth, c, A, nL, Q⟩ := X
  obtain ⟨hx, hb, hml, hown, hts, hK, hn, hlo, hA, hR, hL9⟩ := cx
  exact fun H locs ls hP hD hS hl => va_zald (D := D) hx hb hK hP q0 t0 ha ht hin hd (k H locs ls hP hD hS hl)

theorem zz_iast (cx : zx F X cc own rm ml) {α : Type} {t : Option α} {r : α} {cA n a : Nat} {f : Nat → Int32} {i x : Int32} {ws2 : va_W} (q0 t0 : Nat) (ha : ws[q0]? = some (a, .inl (cA, n, .inl f))) (ht : F.2.2[t0]? = some (cA, .int)) (h : gs_ck i n t = some r) (hw : ws.set q0 (a, .inl (cA, n, .inl (upd f i.toNatClampNeg x))) = ws2) (hd : decode cc pc = .ok (.iastore, 1)) (k : t = some r → zj F X cells slots ws2 (pc + 1) L st) : zj F X cells slots ws pc L (.int x :: .int i :: .ref a :: st) := by
  obtain ⟨hin, h⟩ := gs_ck_some h
  have k := k h
  subst hw
  obtain ⟨l, D, tys⟩ := F
  obtain ⟨p, e, R, s, m, args, below, meth, c, A, nL, Q⟩ := X
  obtain ⟨hx, hb, hml, hown, hts, hK, hn, hlo, hA, hR, hL9⟩ := cx
  exact fun H locs ls hP hD hS hl => va_iast (D := D) hx hb hK hP hD hS q0 t0 ha ht hin hd (fun H1 locs1 hP1 hD1 hS1 => k H1 locs1 ls hP1 hD1 hS1 hl)

theorem zz_zast (cx : zx F X cc own rm ml) {α : Type} {t : Option α} {r : α} {cA n a : Nat} {f : Nat → Int32} {i x : Int32} {ws2 : va_W} (q0 t0 : Nat) (ha : ws[q0]? = some (a, .inl (cA, n, .inl f))) (ht : F.2.2[t0]? = some (cA, .boolean)) (h : gs_ck i n t = some r) (hw : ws.set q0 (a, .inl (cA, n, .inl (upd f i.toNatClampNeg (vp_nar .boolean x)))) = ws2) (hd : decode cc pc = .ok (.bastore, 1)) (k : t = some r → zj F X cells slots ws2 (pc + 1) L st) : zj F X cells slots ws pc L (.int x :: .int i :: .ref a :: st) := by
  obtain ⟨hin, h⟩ := gs_ck_some h
  have k := k h
  subst hw
  obtain ⟨l, D, tys⟩ := F
  obtain ⟨p, e, R, s, m, args, below, meth, c, A, nL, Q⟩ := X
  obtain ⟨hx, hb, hml, hown, hts, hK, hn, hlo, hA, hR, hL9⟩ := cx
  exact fun H locs ls hP hD hS hl => va_zast (D := D) hx hb hK hP hD hS q0 t0 ha ht hin hd (fun H1 locs1 hP1 hD1 hS1 => k H1 locs1 ls hP1 hD1 hS1 hl)

theorem zz_alen (cx : zx F X cc own rm ml) {cA a : Nat} {x : vp_A} {ty : FieldType} {v : Int32} (q0 t0 : Nat) (ha : ws[q0]? = some (a, .inl (cA, x))) (ht : F.2.2[t0]? = some (cA, ty)) (hv : Int32.ofNat x.1 = v) (hd : decode cc pc = .ok (.arraylength, 1)) (k : zj F X cells slots ws (pc + 1) L (.int v :: st)) : zj F X cells slots ws pc L (.ref a :: st) := by
  obtain ⟨l, D, tys⟩ := F
  obtain ⟨p, e, R, s, m, args, below, meth, c, A, nL, Q⟩ := X
  obtain ⟨hx, hb, hml, hown, hts, hK, hn, hlo, hA, hR, hL9⟩ := cx
  exact fun H locs ls hP hD hS hl => va_alen (D := D) hx hb hK hP q0 t0 ha ht hv hd (k H locs ls hP hD hS hl)
/-- fewer locals -/
theorem zz_less {L2 : List (Option Value)} (hl : lz_le L2 L) (k : zj F X cells slots ws pc L2 st) : zj F X cells slots ws pc L st := by
  obtain ⟨l, D, tys⟩ := F
  obtain ⟨p, e, R, s, m, args, below, meth, c, A, nL, Q⟩ := X
  exact fun H locs ls hP hD hS h => k H locs ls hP hD hS (lz_drop h (lz_le_at hl))
theorem zz_wid {c2 s2 : Nat} (h1 : cells ≤ c2) (h2 : slots ≤ s2) (k : zj F X c2 s2 ws pc L st) : zj F X cells slots ws pc L st := by
  obtain ⟨l, D, tys⟩ := F
  obtain ⟨p, e, R, s, m, args, below, meth, c, A, nL, Q⟩ := X
  exact fun H locs ls hP hD hS h => W.widen h1 h2 (k H locs ls hP hD hS h)
end ZR
/-! ===== contracts ===== -/
def zc_pre (F : zf_T) (w1 : va_W) (sz : Nat) (U : State) : Prop := U.heap.size = sz ∧ va_P F.2.1 vw_Cl w1 U.heap ∧ va_K F.2.1 vw_Cl F.2.2 U ∧ va_D (fun _ => True) w1 ∧ zn_ok U
/-- an int (or boolean) comes back, the world w1 becomes w2 -/
def zc_i (F : zf_T) (w1 w2 : va_W) (y : MethodName) (cc : ByteArray) (maxL : Nat) (rt : FieldType) (rm : Room) (as : List Value) (r : Int32) : Prop :=
  ∀ sz : Nat, Met F.1 y (Cond.code y cc maxL (some rt) :: zt_ws) rm (va_Pc as (zc_pre F w1 sz)) (va_Qi (fun r' (_ : Unit) => r' = r) (fun _ t => va_P F.2.1 vw_Cl w2 t.heap) (va_A w1 sz)) rm.cells rm.slots (va_A w1 sz)
def zc_v (F : zf_T) (w1 w2 : va_W) (y : MethodName) (cc : ByteArray) (maxL : Nat) (rm : Room) (as : List Value) : Prop :=
  ∀ sz : Nat, Met F.1 y (Cond.code y cc maxL none :: zt_ws) rm (va_Pc as (zc_pre F w1 sz)) (va_Qv (fun (_ : Unit) => True) (fun _ t => va_P F.2.1 vw_Cl w2 t.heap) (va_A w1 sz)) rm.cells rm.slots (va_A w1 sz)
def zq_i (F : zf_T) (X : zx_T) (w2 : va_W) (rt : FieldType) (r : Int32) : Prop :=
  match F, X with
  | (_, D, _), (_, _, R, s, _, args, below, meth, _, A, _, Q) => meth.sig.returnType = some rt ∧ Q = MQ below (va_Qi (fun r' (_ : Unit) => r' = r) (fun _ t => va_P D vw_Cl w2 t.heap) A) args s R.cells R.slots A
def zq_v (F : zf_T) (X : zx_T) (w2 : va_W) : Prop :=
  match F, X with
  | (_, D, _), (_, _, R, s, _, args, below, meth, _, A, _, Q) => meth.sig.returnType = none ∧ Q = MQ below (va_Qv (fun (_ : Unit) => True) (fun _ t => va_P D vw_Cl w2 t.heap) A) args s R.cells R.slots A
section ZC
variable {F : zf_T} {X : zx_T} {cc : ByteArray} {own : String} {rm : Room} {cells slots pc ml : Nat} {ws : va_W} {L : List (Option Value)} {st : List Value}
theorem zz_iret (cx : zx F X cc own rm ml) {r : Int32} (cq : zq_i F X ws .int r) (h1 : cells ≤ rm.cells) (h2 : slots ≤ rm.slots) (hd : decode cc pc = .ok (.ireturn, 1)) : zj F X cells slots ws pc L [.int r] := by
  obtain ⟨l, D, tys⟩ := F
  obtain ⟨p, e, R, s, m, args, below, meth, c, A, nL, Q⟩ := X
  obtain ⟨hx, hb, hml, hown, hts, hK, hn, hlo, hA, hR, hL9⟩ := cx
  obtain ⟨hr, hq⟩ := cq
  subst hR; subst hq
  exact fun H locs ls hP hD hS hl => W.widen h1 h2 (W.iret hx hb hr (fun t ht hW => ⟨⟨_, (), rfl, rfl, by show va_P D vw_Cl ws t.heap; rw [ht]; exact hP⟩, hS.F ht⟩) hS.2.2 hd hlo)
theorem zz_zret (cx : zx F X cc own rm ml) {r : Int32} (cq : zq_i F X ws .boolean r) (hz : narrow .boolean (.int r) = .int r) (h1 : cells ≤ rm.cells) (h2 : slots ≤ rm.slots) (hd : decode cc pc = .ok (.ireturn, 1)) : zj F X cells slots ws pc L [.int r] := by
  obtain ⟨l, D, tys⟩ := F
  obtain ⟨p, e, R, s, m, args, below, meth, c, A, nL, Q⟩ := X
  obtain ⟨hx, hb, hml, hown, hts, hK, hn, hlo, hA, hR, hL9⟩ := cx
  obtain ⟨hr, hq⟩ := cq
  subst hR; subst hq
  exact fun H locs ls hP hD hS hl => W.widen h1 h2 (W.zret hx hb hr hz (fun t ht hW => ⟨⟨_, (), rfl, rfl, by show va_P D vw_Cl ws t.heap; rw [ht]; exact hP⟩, hS.F ht⟩) hS.2.2 hd hlo)
theorem zz_vret (cx : zx F X cc own rm ml) (cq : zq_v F X ws) (h1 : cells ≤ rm.cells) (h2 : slots ≤ rm.slots) (hd : decode cc pc = .ok (.return_, 1)) : zj F X cells slots ws pc L [] := by
  obtain ⟨l, D, tys⟩ := F
  obtain ⟨p, e, R, s, m, args, below, meth, c, A, nL, Q⟩ := X
  obtain ⟨hx, hb, hml, hown, hts, hK, hn, hlo, hA, hR, hL9⟩ := cx
  obtain ⟨hr, hq⟩ := cq
  subst hR; subst hq
  exact fun H locs ls hP hD hS hl => W.widen h1 h2 (W.vret hx hb hr (fun t ht hW => ⟨⟨(), rfl, trivial, by show va_P D vw_Cl ws t.heap; rw [ht]; exact hP⟩, hS.F ht⟩) hS.2.2 hd hlo)
end ZC

theorem lz_sl (as : List Value) (hc : as.all (fun v => v.category == 1) = true) : lg_sl as = as.map Slot.val := by
  induction as with
  | nil => rfl
  | cons a t ih =>
    rw [List.all_cons, Bool.and_eq_true] at hc
    have h1 : a.category = 1 := by simpa using hc.1
    have ih := ih hc.2
    unfold lg_sl at ih ⊢
    rw [List.flatMap_cons, ih, if_neg (by omega)]
    rfl
theorem lz_args_has (as : List Value) (n : Nat) (hc : as.all (fun v => v.category == 1) = true) (h : as.length ≤ n) : lz_has ((lg_sl as ++ List.replicate (n - (lg_sl as).length) Slot.unset).toArray) n (as.map some ++ List.replicate (n - as.length) none) := by
  have hs := lz_sl as hc
  have hl : (lg_sl as).length = as.length := by rw [hs, List.length_map]
  have e := lv_entry as (n := n) (by rw [hl]; exact h)
  refine ⟨e.1, e.2.1, fun i v hi => ?_⟩
  by_cases hia : i < as.length
  · rw [List.getElem?_append_left (by rw [List.length_map]; exact hia), List.getElem?_map] at hi
    rw [hs, List.getElem?_toArray, List.getElem?_append_left (by rw [List.length_map]; exact hia), List.getElem?_map]
    cases ha : as[i]? with
    | none => rw [ha] at hi; cases hi
    | some w =>
      rw [ha] at hi
      have hwv : w = v := by simpa using hi
      subst hwv
      rfl
  · rw [List.getElem?_append_right (by rw [List.length_map]; omega)] at hi
    have hm := List.mem_of_getElem? hi
    rw [List.mem_replicate] at hm
    cases hm.2
theorem zc_i_of {F : zf_T} {w1 w2 : va_W} {y : MethodName} {cc : ByteArray} {maxL : Nat} {rt : FieldType} {rm : Room} {as : List Value} {r : Int32} (hy : plainName y.cls = true) (hc : as.all (fun v => v.category == 1) = true) (hl : as.length ≤ maxL)
    (body : ∀ X : zx_T, zx F X cc y.cls rm maxL → zq_i F X w2 rt r → zj F X 0 0 w1 0 (as.map some ++ List.replicate (maxL - as.length) none) []) : zc_i F w1 w2 y cc maxL rt rm as r := by
  obtain ⟨l, D, tys⟩ := F
  intro sz
  refine Met.ofW (cc := cc) (maxL := maxL) (ret := some rt) hy rfl ?_
  intro p e s m args below meth c s₁ B hml hv
  obtain ⟨rfl, hsz, hP, hK, hD0, hn⟩ := hv
  have hts := atoms_spec (ws := Cond.code y cc maxL (some rt) :: zt_ws) B.pre
  subst hsz
  have hD := hD0.self (sz := s.heap.size)
  rw [lg_entry_eq]
  exact body (p, e, _, s, m, as.toArray, below, meth, c, va_A w1 s.heap.size, maxL, _) ⟨B.exec, B.bytes, hml, findClass_of_methodNamed B.named, fun w hw => hts w (List.mem_cons_of_mem _ hw), hK, hn, B.notSynchronized, fun q h => Or.inr h, rfl, rfl⟩ ⟨B.returns, rfl⟩ s.heap [] _ hP hD va_S.rf (lz_args_has as maxL hc hl)
theorem zc_v_of {F : zf_T} {w1 w2 : va_W} {y : MethodName} {cc : ByteArray} {maxL : Nat} {rm : Room} {as : List Value} (hy : plainName y.cls = true) (hc : as.all (fun v => v.category == 1) = true) (hl : as.length ≤ maxL)
    (body : ∀ X : zx_T, zx F X cc y.cls rm maxL → zq_v F X w2 → zj F X 0 0 w1 0 (as.map some ++ List.replicate (maxL - as.length) none) []) : zc_v F w1 w2 y cc maxL rm as := by
  obtain ⟨l, D, tys⟩ := F
  intro sz
  refine Met.ofW (cc := cc) (maxL := maxL) (ret := none) hy rfl ?_
  intro p e s m args below meth c s₁ B hml hv
  obtain ⟨rfl, hsz, hP, hK, hD0, hn⟩ := hv
  have hts := atoms_spec (ws := Cond.code y cc maxL none :: zt_ws) B.pre
  subst hsz
  have hD := hD0.self (sz := s.heap.size)
  rw [lg_entry_eq]
  exact body (p, e, _, s, m, as.toArray, below, meth, c, va_A w1 s.heap.size, maxL, _) ⟨B.exec, B.bytes, hml, findClass_of_methodNamed B.named, fun w hw => hts w (List.mem_cons_of_mem _ hw), hK, hn, B.notSynchronized, fun q h => Or.inr h, rfl, rfl⟩ ⟨B.returns, rfl⟩ s.heap [] _ hP hD va_S.rf (lz_args_has as maxL hc hl)
/-! ===== calls: the callee's world is the whole world ===== -/
theorem za_addr {A : Nat → Prop} {w1 w2 : va_W} (he : w2.map Prod.fst = w1.map Prod.fst) (hD : va_D A w1) : va_D A w2 := by
  have key : ∀ (k : Nat) (q : Nat × va_E), w2[k]? = some q → ∃ q0, w1[k]? = some q0 ∧ q0.1 = q.1 := by
    intro k q hk
    have h1 : (w2.map Prod.fst)[k]? = some q.1 := by rw [List.getElem?_map, hk]; rfl
    rw [he, List.getElem?_map] at h1
    cases h2 : w1[k]? with
    | none => rw [h2] at h1; cases h1
    | some q0 => rw [h2] at h1; exact ⟨q0, rfl, Option.some.inj h1⟩
  refine ⟨fun i j x y hi hj hxy => ?_, fun k q hk => ?_⟩
  · obtain ⟨x0, a1, a2⟩ := key i x hi
    obtain ⟨y0, b1, b2⟩ := key j y hj
    exact hD.1 i j x0 y0 a1 b1 (a2.trans (hxy.trans b2.symm))
  · obtain ⟨q0, a1, a2⟩ := key k q hk
    rw [← a2]
    exact hD.2 k q0 a1
theorem za_free {A : Nat → Prop} {ws : va_W} {H0 H : Heap} {locs : List Loc} (hD : va_D A ws) (hS : va_S A H0 H locs) (hA : ∀ q, H0.size ≤ q → A q) : ∀ q, va_A ws H.size q → A q := by
  intro q h
  rcases h with ⟨k, e, h⟩ | h
  · exact hD.2 k (q, e) h
  · exact hA q (Nat.le_trans hS.1 h)
theorem zc_blind {F : zf_T} {w1 : va_W} {sz : Nat} {as : List Value} : FrameBlind (va_Pc as (zc_pre F w1 sz)) := by
  intro a U g mk q
  obtain ⟨q0, q1, qP, qK, qD, qn⟩ := q
  exact ⟨q0, q1, qP, va_K.moved (u := U) (U := U.calling g mk a) (Vm.Alike.refl U.vm) qK, qD, zn_same (s := U) (U := U.calling g mk a) rfl qn⟩
theorem zt_gi {w : List Cond} (h : ∀ x ∈ w, x ∈ zt_ws) : GoodIn zt_ws w := fun x hx => ⟨h x hx, good_of_word (List.all_eq_true.mp zt_good x (h x hx))⟩
/-- a method's own words -/
def zw_m (y : MethodName) (cb : ByteArray) (maxL : Nat) (ret : Option FieldType) (n : Nat) : Prop := Cond.initialized y.cls ∈ zt_ws ∧ Cond.code y cb maxL ret ∈ zt_ws ∧ y.cls ≠ "java/lang/invoke/MethodHandle" ∧ y.cls ≠ "java/lang/invoke/VarHandle" ∧ (parseMethodDescriptor y.desc).map (fun d => d.parameters.length) = some n
def zw_v (y : MethodName) : Prop := Cond.instanceMethod y ∈ zt_ws ∧ Cond.selects y.cls y y ∈ zt_ws
section ZD
variable {F : zf_T} {X : zx_T} {cc : ByteArray} {own : String} {rm : Room} {cells slots pc ml : Nat} {ws : va_W} {L : List (Option Value)}

theorem zz_callVi (cx : zx F X cc own rm ml) {w2 : va_W} {y : MethodName} {cb : ByteArray} {maxL n index b : Nat} {ty : FieldType} {rm2 : Room} {As rest : List Value} {r : Int32} (hM : zc_i F ws w2 y cb maxL ty rm2 (.ref b :: As) r) (hwm : zw_m y cb maxL (some ty) n) (hl : Cond.methodLink own index y ∈ zt_ws) (hwv : zw_v y) (q0 : Nat) {ci N : Nat} {T : u_T} {fs : List Value} (hq0 : ws[q0]? = some (b, .inr (ci, fs))) (hci : vw_Cl[ci]? = some (y.cls, T, N)) (hrm : rm2.frames + 1 ≤ rm.frames ∧ 8 + (maxL + 11) + rm2.locals ≤ rm.locals) (hln : As.length = n) (hrest : (rest.map fun v => v.category).sum ≤ 8) {c2 s2 : Nat} (hc2 : cells + rm2.cells = c2) (hs2 : slots + rm2.slots = s2) (hf : c2 ≤ rm.cells ∧ s2 ≤ rm.slots) (had : w2.map Prod.fst = ws.map Prod.fst) (hd : decode cc pc = .ok (.invokevirtual index, 3)) (k : zj F X c2 s2 w2 (pc + 3) L (.int r :: rest)) : zj F X cells slots ws pc L (As.reverse ++ .ref b :: rest) := by
  have zg : ∀ w ∈ wsV own index y.cls y (Cond.code y cb maxL (some ty) :: zt_ws), w ∈ zt_ws := by
    intro w hw
    unfold wsV at hw
    simp only [List.cons_append, List.nil_append, List.mem_cons] at hw
    rcases hw with rfl | rfl | rfl | rfl | rfl | hw
    · exact hl
    · exact hwv.1
    · exact hwv.2
    · exact hwm.1
    · exact hwm.2.1
    · exact hw
  obtain ⟨l, D, tys⟩ := F
  obtain ⟨p, e, R, s, m, args, below, meth, c, A, nL, Q⟩ := X
  obtain ⟨hx, hb, hml, hown, hts, hK, hn, hlo, hA, hR, hL9⟩ := cx
  subst hR; subst hc2; subst hs2
  intro H locs ls hP hD hS hl1
  have hFc := za_free hD hS hA
  exact va_calli (va_runV (As := As) (rest := rest) ⟨hx, hb, hml, hown, hts⟩ (hM H.size) (cwV n hts (zt_gi zg) rfl rfl rfl ⟨rfl, hwm.2.2⟩ hrm) ⟨zc_blind, va_recv hK hP hci hq0, fun U hU hW => ⟨rfl, by rw [hU], by rw [hU]; exact hP, va_K.moved hW.alike hK, hD.weaken (fun _ _ _ _ => trivial), zn_warm hW hn⟩⟩ rfl hln hl1.1 rfl (lv_room hrest) hd hf) hS (fun q _ h => hFc q h) hFc (fun r_ u t H1 locs1 ht hvm hw hB hz1 hk1 hS1 => by subst hw; exact k H1 locs1 ls (by rw [← ht]; exact hB) (za_addr had hD) hS1 hl1)

theorem zz_callVv (cx : zx F X cc own rm ml) {w2 : va_W} {y : MethodName} {cb : ByteArray} {maxL n index b : Nat} {rm2 : Room} {As rest : List Value} (hM : zc_v F ws w2 y cb maxL rm2 (.ref b :: As)) (hwm : zw_m y cb maxL none n) (hl : Cond.methodLink own index y ∈ zt_ws) (hwv : zw_v y) (q0 : Nat) {ci N : Nat} {T : u_T} {fs : List Value} (hq0 : ws[q0]? = some (b, .inr (ci, fs))) (hci : vw_Cl[ci]? = some (y.cls, T, N)) (hrm : rm2.frames + 1 ≤ rm.frames ∧ 8 + (maxL + 11) + rm2.locals ≤ rm.locals) (hln : As.length = n) (hrest : (rest.map fun v => v.category).sum ≤ 8) {c2 s2 : Nat} (hc2 : cells + rm2.cells = c2) (hs2 : slots + rm2.slots = s2) (hf : c2 ≤ rm.cells ∧ s2 ≤ rm.slots) (had : w2.map Prod.fst = ws.map Prod.fst) (hd : decode cc pc = .ok (.invokevirtual index, 3)) (k : zj F X c2 s2 w2 (pc + 3) L rest) : zj F X cells slots ws pc L (As.reverse ++ .ref b :: rest) := by
  have zg : ∀ w ∈ wsV own index y.cls y (Cond.code y cb maxL none :: zt_ws), w ∈ zt_ws := by
    intro w hw
    unfold wsV at hw
    simp only [List.cons_append, List.nil_append, List.mem_cons] at hw
    rcases hw with rfl | rfl | rfl | rfl | rfl | hw
    · exact hl
    · exact hwv.1
    · exact hwv.2
    · exact hwm.1
    · exact hwm.2.1
    · exact hw
  obtain ⟨l, D, tys⟩ := F
  obtain ⟨p, e, R, s, m, args, below, meth, c, A, nL, Q⟩ := X
  obtain ⟨hx, hb, hml, hown, hts, hK, hn, hlo, hA, hR, hL9⟩ := cx
  subst hR; subst hc2; subst hs2
  intro H locs ls hP hD hS hl1
  have hFc := za_free hD hS hA
  exact va_callv (va_runV (As := As) (rest := rest) ⟨hx, hb, hml, hown, hts⟩ (hM H.size) (cwV n hts (zt_gi zg) rfl rfl rfl ⟨rfl, hwm.2.2⟩ hrm) ⟨zc_blind, va_recv hK hP hci hq0, fun U hU hW => ⟨rfl, by rw [hU], by rw [hU]; exact hP, va_K.moved hW.alike hK, hD.weaken (fun _ _ _ _ => trivial), zn_warm hW hn⟩⟩ rfl hln hl1.1 rfl (lv_room hrest) hd hf) hS (fun q _ h => hFc q h) hFc (fun u t H1 locs1 ht hvm hw hB hz1 hk1 hS1 => k H1 locs1 ls (by rw [← ht]; exact hB) (za_addr had hD) hS1 hl1)

theorem zz_callVNi (cx : zx F X cc own rm ml) {w2 : va_W} {y : MethodName} {cb : ByteArray} {maxL n index b : Nat} {ty : FieldType} {rm2 : Room} {As rest : List Value} {r : Int32} (hM : zc_i F ws w2 y cb maxL ty rm2 (.ref b :: As) r) (hwm : zw_m y cb maxL (some ty) n) {host : String} (hl : Cond.methodLinkNest own index y host ∈ zn_ws) (hwv : zw_v y) (q0 : Nat) {ci N : Nat} {T : u_T} {fs : List Value} (hq0 : ws[q0]? = some (b, .inr (ci, fs))) (hci : vw_Cl[ci]? = some (y.cls, T, N)) (hrm : rm2.frames + 1 ≤ rm.frames ∧ 8 + (maxL + 11) + rm2.locals ≤ rm.locals) (hln : As.length = n) (hrest : (rest.map fun v => v.category).sum ≤ 8) {c2 s2 : Nat} (hc2 : cells + rm2.cells = c2) (hs2 : slots + rm2.slots = s2) (hf : c2 ≤ rm.cells ∧ s2 ≤ rm.slots) (had : w2.map Prod.fst = ws.map Prod.fst) (hd : decode cc pc = .ok (.invokevirtual index, 3)) (k : zj F X c2 s2 w2 (pc + 3) L (.int r :: rest)) : zj F X cells slots ws pc L (As.reverse ++ .ref b :: rest) := by
  have zg : ∀ w ∈ (Cond.code y cb maxL (some ty) :: zt_ws), w ∈ zt_ws := by
    intro w hw
    rcases List.mem_cons.mp hw with rfl | hw
    · exact hwm.2.1
    · exact hw
  obtain ⟨l, D, tys⟩ := F
  obtain ⟨p, e, R, s, m, args, below, meth, c, A, nL, Q⟩ := X
  obtain ⟨hx, hb, hml, hown, hts, hK, hn, hlo, hA, hR, hL9⟩ := cx
  subst hR; subst hc2; subst hs2
  intro H locs ls hP hD hS hl1
  have hFc := za_free hD hS hA
  exact va_calli (va_runVN (As := As) (rest := rest) ⟨hx, hb, hml, hown, hts⟩ (hM H.size) ⟨va_cnB n hts (zt_gi zg) rfl rfl rfl (hn _ hl) (hts _ hwm.1) hwm.2.2 hrm, hts _ hwv.1, hts _ hwv.2⟩ ⟨zc_blind, va_recv hK hP hci hq0, fun U hU hW => ⟨rfl, by rw [hU], by rw [hU]; exact hP, va_K.moved hW.alike hK, hD.weaken (fun _ _ _ _ => trivial), zn_warm hW hn⟩⟩ rfl hln hl1.1 rfl (lv_room hrest) hd hf) hS (fun q _ h => hFc q h) hFc (fun r_ u t H1 locs1 ht hvm hw hB hz1 hk1 hS1 => by subst hw; exact k H1 locs1 ls (by rw [← ht]; exact hB) (za_addr had hD) hS1 hl1)

theorem zz_callVNv (cx : zx F X cc own rm ml) {w2 : va_W} {y : MethodName} {cb : ByteArray} {maxL n index b : Nat} {rm2 : Room} {As rest : List Value} (hM : zc_v F ws w2 y cb maxL rm2 (.ref b :: As)) (hwm : zw_m y cb maxL none n) {host : String} (hl : Cond.methodLinkNest own index y host ∈ zn_ws) (hwv : zw_v y) (q0 : Nat) {ci N : Nat} {T : u_T} {fs : List Value} (hq0 : ws[q0]? = some (b, .inr (ci, fs))) (hci : vw_Cl[ci]? = some (y.cls, T, N)) (hrm : rm2.frames + 1 ≤ rm.frames ∧ 8 + (maxL + 11) + rm2.locals ≤ rm.locals) (hln : As.length = n) (hrest : (rest.map fun v => v.category).sum ≤ 8) {c2 s2 : Nat} (hc2 : cells + rm2.cells = c2) (hs2 : slots + rm2.slots = s2) (hf : c2 ≤ rm.cells ∧ s2 ≤ rm.slots) (had : w2.map Prod.fst = ws.map Prod.fst) (hd : decode cc pc = .ok (.invokevirtual index, 3)) (k : zj F X c2 s2 w2 (pc + 3) L rest) : zj F X cells slots ws pc L (As.reverse ++ .ref b :: rest) := by
  have zg : ∀ w ∈ (Cond.code y cb maxL none :: zt_ws), w ∈ zt_ws := by
    intro w hw
    rcases List.mem_cons.mp hw with rfl | hw
    · exact hwm.2.1
    · exact hw
  obtain ⟨l, D, tys⟩ := F
  obtain ⟨p, e, R, s, m, args, below, meth, c, A, nL, Q⟩ := X
  obtain ⟨hx, hb, hml, hown, hts, hK, hn, hlo, hA, hR, hL9⟩ := cx
  subst hR; subst hc2; subst hs2
  intro H locs ls hP hD hS hl1
  have hFc := za_free hD hS hA
  exact va_callv (va_runVN (As := As) (rest := rest) ⟨hx, hb, hml, hown, hts⟩ (hM H.size) ⟨va_cnB n hts (zt_gi zg) rfl rfl rfl (hn _ hl) (hts _ hwm.1) hwm.2.2 hrm, hts _ hwv.1, hts _ hwv.2⟩ ⟨zc_blind, va_recv hK hP hci hq0, fun U hU hW => ⟨rfl, by rw [hU], by rw [hU]; exact hP, va_K.moved hW.alike hK, hD.weaken (fun _ _ _ _ => trivial), zn_warm hW hn⟩⟩ rfl hln hl1.1 rfl (lv_room hrest) hd hf) hS (fun q _ h => hFc q h) hFc (fun u t H1 locs1 ht hvm hw hB hz1 hk1 hS1 => k H1 locs1 ls (by rw [← ht]; exact hB) (za_addr had hD) hS1 hl1)

theorem zz_callSi (cx : zx F X cc own rm ml) {w2 : va_W} {y : MethodName} {cb : ByteArray} {maxL n index : Nat} {ty : FieldType} {rm2 : Room} {As rest : List Value} {r : Int32} (hM : zc_i F ws w2 y cb maxL ty rm2 As r) (hwm : zw_m y cb maxL (some ty) n) (hl : Cond.methodLink own index y ∈ zt_ws) (hst : Cond.static y ∈ zt_ws) (hrm : rm2.frames + 1 ≤ rm.frames ∧ 8 + (maxL + 11) + rm2.locals ≤ rm.locals) (hln : As.length = n) (hrest : (rest.map fun v => v.category).sum ≤ 8) {c2 s2 : Nat} (hc2 : cells + rm2.cells = c2) (hs2 : slots + rm2.slots = s2) (hf : c2 ≤ rm.cells ∧ s2 ≤ rm.slots) (had : w2.map Prod.fst = ws.map Prod.fst) (hd : decode cc pc = .ok (.invokestatic index, 3)) (k : zj F X c2 s2 w2 (pc + 3) L (.int r :: rest)) : zj F X cells slots ws pc L (As.reverse ++ rest) := by
  have zg : ∀ w ∈ va_wsS own index y (Cond.code y cb maxL (some ty) :: zt_ws), w ∈ zt_ws := by
    intro w hw
    unfold va_wsS at hw
    simp only [List.cons_append, List.nil_append, List.mem_cons] at hw
    rcases hw with rfl | rfl | rfl | rfl | hw
    · exact hl
    · exact hst
    · exact hwm.1
    · exact hwm.2.1
    · exact hw
  obtain ⟨l, D, tys⟩ := F
  obtain ⟨p, e, R, s, m, args, below, meth, c, A, nL, Q⟩ := X
  obtain ⟨hx, hb, hml, hown, hts, hK, hn, hlo, hA, hR, hL9⟩ := cx
  subst hR; subst hc2; subst hs2
  intro H locs ls hP hD hS hl1
  have hFc := za_free hD hS hA
  exact va_calli (va_runS (As := As) (rest := rest) ⟨hx, hb, hml, hown, hts⟩ (hM H.size) (va_cwS n hts (zt_gi zg) rfl rfl rfl hwm.2.2 hrm) ⟨zc_blind, fun U hU hW => ⟨rfl, by rw [hU], by rw [hU]; exact hP, va_K.moved hW.alike hK, hD.weaken (fun _ _ _ _ => trivial), zn_warm hW hn⟩⟩ rfl hln hl1.1 rfl (lv_room hrest) hd hf) hS (fun q _ h => hFc q h) hFc (fun r_ u t H1 locs1 ht hvm hw hB hz1 hk1 hS1 => by subst hw; exact k H1 locs1 ls (by rw [← ht]; exact hB) (za_addr had hD) hS1 hl1)

theorem zz_callSv (cx : zx F X cc own rm ml) {w2 : va_W} {y : MethodName} {cb : ByteArray} {maxL n index : Nat} {rm2 : Room} {As rest : List Value} (hM : zc_v F ws w2 y cb maxL rm2 As) (hwm : zw_m y cb maxL none n) (hl : Cond.methodLink own index y ∈ zt_ws) (hst : Cond.static y ∈ zt_ws) (hrm : rm2.frames + 1 ≤ rm.frames ∧ 8 + (maxL + 11) + rm2.locals ≤ rm.locals) (hln : As.length = n) (hrest : (rest.map fun v => v.category).sum ≤ 8) {c2 s2 : Nat} (hc2 : cells + rm2.cells = c2) (hs2 : slots + rm2.slots = s2) (hf : c2 ≤ rm.cells ∧ s2 ≤ rm.slots) (had : w2.map Prod.fst = ws.map Prod.fst) (hd : decode cc pc = .ok (.invokestatic index, 3)) (k : zj F X c2 s2 w2 (pc + 3) L rest) : zj F X cells slots ws pc L (As.reverse ++ rest) := by
  have zg : ∀ w ∈ va_wsS own index y (Cond.code y cb maxL none :: zt_ws), w ∈ zt_ws := by
    intro w hw
    unfold va_wsS at hw
    simp only [List.cons_append, List.nil_append, List.mem_cons] at hw
    rcases hw with rfl | rfl | rfl | rfl | hw
    · exact hl
    · exact hst
    · exact hwm.1
    · exact hwm.2.1
    · exact hw
  obtain ⟨l, D, tys⟩ := F
  obtain ⟨p, e, R, s, m, args, below, meth, c, A, nL, Q⟩ := X
  obtain ⟨hx, hb, hml, hown, hts, hK, hn, hlo, hA, hR, hL9⟩ := cx
  subst hR; subst hc2; subst hs2
  intro H locs ls hP hD hS hl1
  have hFc := za_free hD hS hA
  exact va_callv (va_runS (As := As) (rest := rest) ⟨hx, hb, hml, hown, hts⟩ (hM H.size) (va_cwS n hts (zt_gi zg) rfl rfl rfl hwm.2.2 hrm) ⟨zc_blind, fun U hU hW => ⟨rfl, by rw [hU], by rw [hU]; exact hP, va_K.moved hW.alike hK, hD.weaken (fun _ _ _ _ => trivial), zn_warm hW hn⟩⟩ rfl hln hl1.1 rfl (lv_room hrest) hd hf) hS (fun q _ h => hFc q h) hFc (fun u t H1 locs1 ht hvm hw hB hz1 hk1 hS1 => k H1 locs1 ls (by rw [← ht]; exact hB) (za_addr had hD) hS1 hl1)

end ZD
/-! ===== an array's places beyond its length don't matter ===== -/
theorem zr_cell {cA n : Nat} {f g : Nat → Int32} (h : ∀ j, j < n → f j = g j) : vp_cell cA (n, .inl f) = vp_cell cA (n, .inl g) := by
  have e : arrV cA n (fun j => Value.int (f j)) = arrV cA n (fun j => Value.int (g j)) := by
    unfold arrV
    congr 1
    apply Array.ext
    · simp
    · intro j h1 h2
      simp only [Array.getElem_ofFn]
      rw [h j (by simpa using h1)]
  exact e
theorem zr_set {D : va_G} {ws : va_W} {H : Heap} {q0 a cA n : Nat} {f g : Nat → Int32} (h : ∀ j, j < n → f j = g j) (hP : va_P D vw_Cl (ws.set q0 (a, .inl (cA, n, .inl f))) H) : va_P D vw_Cl (ws.set q0 (a, .inl (cA, n, .inl g))) H := by
  intro i q hi
  by_cases hq : i = q0
  · subst hq
    by_cases hl : i < ws.length
    · rw [List.getElem?_set_self hl] at hi
      cases hi
      have h1 := hP i (a, .inl (cA, n, .inl f)) (List.getElem?_set_self hl)
      show H[a]? = some (vp_cell cA (n, .inl g))
      rw [← zr_cell h]
      exact h1
    · rw [List.getElem?_eq_none (by rw [List.length_set]; omega)] at hi
      cases hi
  · rw [List.getElem?_set_ne (Ne.symm hq)] at hi
    exact hP i q (by rw [List.getElem?_set_ne (Ne.symm hq)]; exact hi)
theorem zr_addr {ws : va_W} {q0 a : Nat} {e1 e2 : va_E} : (ws.set q0 (a, e1)).map Prod.fst = (ws.set q0 (a, e2)).map Prod.fst := by
  rw [List.map_set, List.map_set]
theorem zr_addr0 {ws : va_W} {q0 a : Nat} {e1 e2 : va_E} (h : ws[q0]? = some (a, e1)) : (ws.set q0 (a, e2)).map Prod.fst = ws.map Prod.fst := by
  rw [List.map_set]
  obtain ⟨hl, he⟩ := List.getElem?_eq_some_iff.mp h
  apply List.ext_getElem?
  intro i
  by_cases hq : i = q0
  · subst hq
    rw [List.getElem?_set_self (by rw [List.length_map]; exact hl), List.getElem?_map, h]
    rfl
  · rw [List.getElem?_set_ne (Ne.symm hq)]
theorem zr_self {ws : va_W} {q0 : Nat} {e : Nat × va_E} (h : ws[q0]? = some e) : ws.set q0 e = ws := by
  apply List.ext_getElem?
  intro i
  by_cases hq : i = q0
  · subst hq
    rw [List.getElem?_set_self (List.getElem?_eq_some_iff.mp h).1, h]
  · rw [List.getElem?_set_ne (Ne.symm hq)]
theorem zz_arrx {F : zf_T} {X : zx_T} {cells slots pc : Nat} {ws : va_W} {L : List (Option Value)} {st : List Value} {q0 a cA n : Nat} {f g : Nat → Int32} (hfg : ∀ j, j < n → f j = g j) (k : zj F X cells slots (ws.set q0 (a, .inl (cA, n, .inl g))) pc L st) : zj F X cells slots (ws.set q0 (a, .inl (cA, n, .inl f))) pc L st := by
  obtain ⟨l, D, tys⟩ := F
  obtain ⟨p, e, R, s, m, args, below, meth, c, A, nL, Q⟩ := X
  exact fun H locs ls hP hD hS hl => k H locs ls (zr_set hfg hP) (za_addr zr_addr hD) hS hl
end
section
set_option maxRecDepth 100000 in
theorem zm_X0_init : zw_m yn_X0_init cn_X0_init 1 none 0 := ⟨zt_m 1 (by decide +kernel) (by decide +kernel), zt_m 17 rfl rfl, by decide, by decide, by decide +kernel⟩
theorem zu_X0_init : Cond.instanceMethod yn_X0_init ∈ zt_ws := zt_m 16 (by decide +kernel) (by decide +kernel)
set_option maxRecDepth 100000 in
theorem zm_X0_bar : zw_m yn_X0_bar cn_X0_bar 2 (some .int) 1 := ⟨zt_m 1 (by decide +kernel) (by decide +kernel), zt_m 330 rfl rfl, by decide, by decide, by decide +kernel⟩
theorem zv_X0_bar : zw_v yn_X0_bar := ⟨zt_m 328 (by decide +kernel) (by decide +kernel), zt_m 329 (by decide +kernel) (by decide +kernel)⟩
set_option maxRecDepth 100000 in
theorem zm_X0_repeat : zw_m yn_X0_repeat cn_X0_repeat 4 (some .int) 3 := ⟨zt_m 1 (by decide +kernel) (by decide +kernel), zt_m 411 rfl rfl, by decide, by decide, by decide +kernel⟩
theorem zv_X0_repeat : zw_v yn_X0_repeat := ⟨zt_m 409 (by decide +kernel) (by decide +kernel), zt_m 410 (by decide +kernel) (by decide +kernel)⟩
set_option maxRecDepth 100000 in
theorem zm_X0_ending : zw_m yn_X0_ending cn_X0_ending 5 (some .int) 4 := ⟨zt_m 1 (by decide +kernel) (by decide +kernel), zt_m 490 rfl rfl, by decide, by decide, by decide +kernel⟩
theorem zv_X0_ending : zw_v yn_X0_ending := ⟨zt_m 488 (by decide +kernel) (by decide +kernel), zt_m 489 (by decide +kernel) (by decide +kernel)⟩
set_option maxRecDepth 100000 in
theorem zm_X0_sign : zw_m yn_X0_sign cn_X0_sign 3 (some .int) 2 := ⟨zt_m 1 (by decide +kernel) (by decide +kernel), zt_m 520 rfl rfl, by decide, by decide, by decide +kernel⟩
theorem zv_X0_sign : zw_v yn_X0_sign := ⟨zt_m 518 (by decide +kernel) (by decide +kernel), zt_m 519 (by decide +kernel) (by decide +kernel)⟩
set_option maxRecDepth 100000 in
theorem zm_X0_jump : zw_m yn_X0_jump cn_X0_jump 5 none 4 := ⟨zt_m 1 (by decide +kernel) (by decide +kernel), zt_m 532 rfl rfl, by decide, by decide, by decide +kernel⟩
theorem zv_X0_jump : zw_v yn_X0_jump := ⟨zt_m 530 (by decide +kernel) (by decide +kernel), zt_m 531 (by decide +kernel) (by decide +kernel)⟩
set_option maxRecDepth 100000 in
theorem zm_X0_plain : zw_m yn_X0_plain cn_X0_plain 2 none 1 := ⟨zt_m 1 (by decide +kernel) (by decide +kernel), zt_m 545 rfl rfl, by decide, by decide, by decide +kernel⟩
theorem zv_X0_plain : zw_v yn_X0_plain := ⟨zt_m 543 (by decide +kernel) (by decide +kernel), zt_m 544 (by decide +kernel) (by decide +kernel)⟩
set_option maxRecDepth 100000 in
theorem zm_X0_unfold : zw_m yn_X0_unfold cn_X0_unfold 1 (some .int) 0 := ⟨zt_m 1 (by decide +kernel) (by decide +kernel), zt_m 229 rfl rfl, by decide, by decide, by decide +kernel⟩
theorem zv_X0_unfold : zw_v yn_X0_unfold := ⟨zt_m 227 (by decide +kernel) (by decide +kernel), zt_m 228 (by decide +kernel) (by decide +kernel)⟩
set_option maxRecDepth 100000 in
theorem zm_X0_fault : zw_m yn_X0_fault cn_X0_fault 1 (some .int) 0 := ⟨zt_m 1 (by decide +kernel) (by decide +kernel), zt_m 322 rfl rfl, by decide, by decide, by decide +kernel⟩
theorem zv_X0_fault : zw_v yn_X0_fault := ⟨zt_m 320 (by decide +kernel) (by decide +kernel), zt_m 321 (by decide +kernel) (by decide +kernel)⟩
set_option maxRecDepth 100000 in
theorem zm_X0_played : zw_m yn_X0_played cn_X0_played 3 (some .int) 2 := ⟨zt_m 1 (by decide +kernel) (by decide +kernel), zt_m 558 rfl rfl, by decide, by decide, by decide +kernel⟩
theorem zv_X0_played : zw_v yn_X0_played := ⟨zt_m 556 (by decide +kernel) (by decide +kernel), zt_m 557 (by decide +kernel) (by decide +kernel)⟩
set_option maxRecDepth 100000 in
theorem zm_X0_times : zw_m yn_X0_times cn_X0_times 2 (some .int) 1 := ⟨zt_m 1 (by decide +kernel) (by decide +kernel), zt_m 567 rfl rfl, by decide, by decide, by decide +kernel⟩
theorem zv_X0_times : zw_v yn_X0_times := ⟨zt_m 565 (by decide +kernel) (by decide +kernel), zt_m 566 (by decide +kernel) (by decide +kernel)⟩
set_option maxRecDepth 100000 in
theorem zm_X0_comes : zw_m yn_X0_comes cn_X0_comes 2 (some .int) 1 := ⟨zt_m 1 (by decide +kernel) (by decide +kernel), zt_m 574 rfl rfl, by decide, by decide, by decide +kernel⟩
theorem zv_X0_comes : zw_v yn_X0_comes := ⟨zt_m 572 (by decide +kernel) (by decide +kernel), zt_m 573 (by decide +kernel) (by decide +kernel)⟩
set_option maxRecDepth 100000 in
theorem zm_X0_fold : zw_m yn_X0_fold cn_X0_fold 4 (some .int) 2 := ⟨zt_m 1 (by decide +kernel) (by decide +kernel), zt_m 581 rfl rfl, by decide, by decide, by decide +kernel⟩
theorem zv_X0_fold : zw_v yn_X0_fold := ⟨zt_m 579 (by decide +kernel) (by decide +kernel), zt_m 580 (by decide +kernel) (by decide +kernel)⟩
set_option maxRecDepth 100000 in
theorem zm_X0_folded : zw_m yn_X0_folded cn_X0_folded 3 (some .int) 2 := ⟨zt_m 1 (by decide +kernel) (by decide +kernel), zt_m 629 rfl rfl, by decide, by decide, by decide +kernel⟩
theorem zv_X0_folded : zw_v yn_X0_folded := ⟨zt_m 627 (by decide +kernel) (by decide +kernel), zt_m 628 (by decide +kernel) (by decide +kernel)⟩
set_option maxRecDepth 100000 in
theorem zm_X0_told : zw_m yn_X0_told cn_X0_told 2 (some .int) 1 := ⟨zt_m 1 (by decide +kernel) (by decide +kernel), zt_m 638 rfl rfl, by decide, by decide, by decide +kernel⟩
theorem zv_X0_told : zw_v yn_X0_told := ⟨zt_m 636 (by decide +kernel) (by decide +kernel), zt_m 637 (by decide +kernel) (by decide +kernel)⟩
set_option maxRecDepth 100000 in
theorem zm_X1_init : zw_m yn_X1_init cn_X1_init 1 none 0 := ⟨zt_m 3 (by decide +kernel) (by decide +kernel), zt_m 31 rfl rfl, by decide, by decide, by decide +kernel⟩
theorem zu_X1_init : Cond.instanceMethod yn_X1_init ∈ zt_ws := zt_m 30 (by decide +kernel) (by decide +kernel)
set_option maxRecDepth 100000 in
theorem zm_X1_hasBar : zw_m yn_X1_hasBar cn_X1_hasBar 2 (some .boolean) 1 := ⟨zt_m 3 (by decide +kernel) (by decide +kernel), zt_m 415 rfl rfl, by decide, by decide, by decide +kernel⟩
theorem zv_X1_hasBar : zw_v yn_X1_hasBar := ⟨zt_m 414 (by decide +kernel) (by decide +kernel), zt_sel (n := 19) 23 (by decide +kernel) (by decide +kernel)⟩
set_option maxRecDepth 100000 in
theorem zm_X1_hasRepeat : zw_m yn_X1_hasRepeat cn_X1_hasRepeat 2 (some .boolean) 1 := ⟨zt_m 3 (by decide +kernel) (by decide +kernel), zt_m 494 rfl rfl, by decide, by decide, by decide +kernel⟩
theorem zv_X1_hasRepeat : zw_v yn_X1_hasRepeat := ⟨zt_m 493 (by decide +kernel) (by decide +kernel), zt_sel (n := 19) 32 (by decide +kernel) (by decide +kernel)⟩
set_option maxRecDepth 100000 in
theorem zm_X1_hasJump : zw_m yn_X1_hasJump cn_X1_hasJump 2 (some .boolean) 1 := ⟨zt_m 3 (by decide +kernel) (by decide +kernel), zt_m 254 rfl rfl, by decide, by decide, by decide +kernel⟩
theorem zv_X1_hasJump : zw_v yn_X1_hasJump := ⟨zt_m 253 (by decide +kernel) (by decide +kernel), zt_sel (n := 19) 5 (by decide +kernel) (by decide +kernel)⟩
set_option maxRecDepth 100000 in
theorem zm_X1_hasPasses : zw_m yn_X1_hasPasses cn_X1_hasPasses 4 (some .boolean) 2 := ⟨zt_m 3 (by decide +kernel) (by decide +kernel), zt_m 499 rfl rfl, by decide, by decide, by decide +kernel⟩
theorem zv_X1_hasPasses : zw_v yn_X1_hasPasses := ⟨zt_m 498 (by decide +kernel) (by decide +kernel), zt_sel (n := 19) 33 (by decide +kernel) (by decide +kernel)⟩
set_option maxRecDepth 100000 in
theorem zm_X1_addBar : zw_m yn_X1_addBar cn_X1_addBar 2 (some .int) 1 := ⟨zt_m 3 (by decide +kernel) (by decide +kernel), zt_m 402 rfl rfl, by decide, by decide, by decide +kernel⟩
theorem zv_X1_addBar : zw_v yn_X1_addBar := ⟨zt_m 401 (by decide +kernel) (by decide +kernel), zt_sel (n := 19) 22 (by decide +kernel) (by decide +kernel)⟩
set_option maxRecDepth 100000 in
theorem zm_X1_liesWithin : zw_m yn_X1_liesWithin cn_X1_liesWithin 4 (some .boolean) 4 := ⟨zt_m 3 (by decide +kernel) (by decide +kernel), zt_m 294 rfl rfl, by decide, by decide, by decide +kernel⟩
theorem zs_X1_liesWithin : Cond.static yn_X1_liesWithin ∈ zt_ws := zt_m 293 (by decide +kernel) (by decide +kernel)
set_option maxRecDepth 100000 in
theorem zm_X1_liesWell : zw_m yn_X1_liesWell cn_X1_liesWell 4 (some .boolean) 4 := ⟨zt_m 3 (by decide +kernel) (by decide +kernel), zt_m 458 rfl rfl, by decide, by decide, by decide +kernel⟩
theorem zs_X1_liesWell : Cond.static yn_X1_liesWell ∈ zt_ws := zt_m 457 (by decide +kernel) (by decide +kernel)
set_option maxRecDepth 100000 in
theorem zm_X1_takesRepeat : zw_m yn_X1_takesRepeat cn_X1_takesRepeat 3 (some .boolean) 2 := ⟨zt_m 3 (by decide +kernel) (by decide +kernel), zt_m 451 rfl rfl, by decide, by decide, by decide +kernel⟩
theorem zv_X1_takesRepeat : zw_v yn_X1_takesRepeat := ⟨zt_m 450 (by decide +kernel) (by decide +kernel), zt_sel (n := 19) 24 (by decide +kernel) (by decide +kernel)⟩
set_option maxRecDepth 100000 in
theorem zm_X1_takesEnding : zw_m yn_X1_takesEnding cn_X1_takesEnding 4 (some .boolean) 3 := ⟨zt_m 3 (by decide +kernel) (by decide +kernel), zt_m 504 rfl rfl, by decide, by decide, by decide +kernel⟩
theorem zv_X1_takesEnding : zw_v yn_X1_takesEnding := ⟨zt_m 503 (by decide +kernel) (by decide +kernel), zt_sel (n := 19) 34 (by decide +kernel) (by decide +kernel)⟩
set_option maxRecDepth 100000 in
theorem zm_X1_liesWellByRepeats : zw_m yn_X1_liesWellByRepeats cn_X1_liesWellByRepeats 4 (some .boolean) 2 := ⟨zt_m 3 (by decide +kernel) (by decide +kernel), zt_m 455 rfl rfl, by decide, by decide, by decide +kernel⟩
theorem zv_X1_liesWellByRepeats : zw_v yn_X1_liesWellByRepeats := ⟨zt_m 454 (by decide +kernel) (by decide +kernel), zt_sel (n := 19) 25 (by decide +kernel) (by decide +kernel)⟩
set_option maxRecDepth 100000 in
theorem zm_X1_hasSameRepeat : zw_m yn_X1_hasSameRepeat cn_X1_hasSameRepeat 4 (some .boolean) 2 := ⟨zt_m 3 (by decide +kernel) (by decide +kernel), zt_m 462 rfl rfl, by decide, by decide, by decide +kernel⟩
theorem zv_X1_hasSameRepeat : zw_v yn_X1_hasSameRepeat := ⟨zt_m 461 (by decide +kernel) (by decide +kernel), zt_sel (n := 19) 26 (by decide +kernel) (by decide +kernel)⟩
set_option maxRecDepth 100000 in
theorem zm_X1_liesWellByEndings : zw_m yn_X1_liesWellByEndings cn_X1_liesWellByEndings 4 (some .boolean) 2 := ⟨zt_m 3 (by decide +kernel) (by decide +kernel), zt_m 466 rfl rfl, by decide, by decide, by decide +kernel⟩
theorem zv_X1_liesWellByEndings : zw_v yn_X1_liesWellByEndings := ⟨zt_m 465 (by decide +kernel) (by decide +kernel), zt_sel (n := 19) 27 (by decide +kernel) (by decide +kernel)⟩
set_option maxRecDepth 100000 in
theorem zm_X1_isApartFromEndings : zw_m yn_X1_isApartFromEndings cn_X1_isApartFromEndings 4 (some .boolean) 2 := ⟨zt_m 3 (by decide +kernel) (by decide +kernel), zt_m 508 rfl rfl, by decide, by decide, by decide +kernel⟩
theorem zv_X1_isApartFromEndings : zw_v yn_X1_isApartFromEndings := ⟨zt_m 507 (by decide +kernel) (by decide +kernel), zt_sel (n := 19) 35 (by decide +kernel) (by decide +kernel)⟩
set_option maxRecDepth 100000 in
theorem zm_X1_isDepthLeft : zw_m yn_X1_isDepthLeft cn_X1_isDepthLeft 4 (some .boolean) 2 := ⟨zt_m 3 (by decide +kernel) (by decide +kernel), zt_m 470 rfl rfl, by decide, by decide, by decide +kernel⟩
theorem zv_X1_isDepthLeft : zw_v yn_X1_isDepthLeft := ⟨zt_m 469 (by decide +kernel) (by decide +kernel), zt_sel (n := 19) 28 (by decide +kernel) (by decide +kernel)⟩
set_option maxRecDepth 100000 in
theorem zm_X1_addRepeat : zw_m yn_X1_addRepeat cn_X1_addRepeat 5 (some .int) 3 := ⟨zt_m 3 (by decide +kernel) (by decide +kernel), zt_m 475 rfl rfl, by decide, by decide, by decide +kernel⟩
theorem zv_X1_addRepeat : zw_v yn_X1_addRepeat := ⟨zt_m 474 (by decide +kernel) (by decide +kernel), zt_sel (n := 19) 29 (by decide +kernel) (by decide +kernel)⟩
set_option maxRecDepth 100000 in
theorem zm_X1_putAround : zw_m yn_X1_putAround cn_X1_putAround 5 none 2 := ⟨zt_m 3 (by decide +kernel) (by decide +kernel), zt_m 479 rfl rfl, by decide, by decide, by decide +kernel⟩
theorem zv_X1_putAround : zw_v yn_X1_putAround := ⟨zt_m 478 (by decide +kernel) (by decide +kernel), zt_sel (n := 19) 30 (by decide +kernel) (by decide +kernel)⟩
set_option maxRecDepth 100000 in
theorem zm_X1_isRepeatWithin : zw_m yn_X1_isRepeatWithin cn_X1_isRepeatWithin 3 (some .boolean) 2 := ⟨zt_m 3 (by decide +kernel) (by decide +kernel), zt_m 483 rfl rfl, by decide, by decide, by decide +kernel⟩
theorem zv_X1_isRepeatWithin : zw_v yn_X1_isRepeatWithin := ⟨zt_m 482 (by decide +kernel) (by decide +kernel), zt_sel (n := 19) 31 (by decide +kernel) (by decide +kernel)⟩
set_option maxRecDepth 100000 in
theorem zm_X1_isRepeatWithinEnding : zw_m yn_X1_isRepeatWithinEnding cn_X1_isRepeatWithinEnding 3 (some .boolean) 2 := ⟨zt_m 3 (by decide +kernel) (by decide +kernel), zt_m 291 rfl rfl, by decide, by decide, by decide +kernel⟩
theorem zv_X1_isRepeatWithinEnding : zw_v yn_X1_isRepeatWithinEnding := ⟨zt_m 290 (by decide +kernel) (by decide +kernel), zt_sel (n := 19) 14 (by decide +kernel) (by decide +kernel)⟩
set_option maxRecDepth 100000 in
theorem zm_X1_repeatAround : zw_m yn_X1_repeatAround cn_X1_repeatAround 3 (some .int) 2 := ⟨zt_m 3 (by decide +kernel) (by decide +kernel), zt_m 279 rfl rfl, by decide, by decide, by decide +kernel⟩
theorem zv_X1_repeatAround : zw_v yn_X1_repeatAround := ⟨zt_m 278 (by decide +kernel) (by decide +kernel), zt_sel (n := 19) 11 (by decide +kernel) (by decide +kernel)⟩
set_option maxRecDepth 100000 in
theorem zm_X1_addEnding : zw_m yn_X1_addEnding cn_X1_addEnding 5 (some .int) 4 := ⟨zt_m 3 (by decide +kernel) (by decide +kernel), zt_m 513 rfl rfl, by decide, by decide, by decide +kernel⟩
theorem zv_X1_addEnding : zw_v yn_X1_addEnding := ⟨zt_m 512 (by decide +kernel) (by decide +kernel), zt_sel (n := 19) 36 (by decide +kernel) (by decide +kernel)⟩
set_option maxRecDepth 100000 in
theorem zm_X1_moveSign : zw_m yn_X1_moveSign cn_X1_moveSign 4 (some .int) 2 := ⟨zt_m 3 (by decide +kernel) (by decide +kernel), zt_m 525 rfl rfl, by decide, by decide, by decide +kernel⟩
theorem zv_X1_moveSign : zw_v yn_X1_moveSign := ⟨zt_m 524 (by decide +kernel) (by decide +kernel), zt_sel (n := 19) 37 (by decide +kernel) (by decide +kernel)⟩
set_option maxRecDepth 100000 in
theorem zm_X1_putJump : zw_m yn_X1_putJump cn_X1_putJump 5 none 4 := ⟨zt_m 3 (by decide +kernel) (by decide +kernel), zt_m 537 rfl rfl, by decide, by decide, by decide +kernel⟩
theorem zv_X1_putJump : zw_v yn_X1_putJump := ⟨zt_m 536 (by decide +kernel) (by decide +kernel), zt_sel (n := 19) 38 (by decide +kernel) (by decide +kernel)⟩
set_option maxRecDepth 100000 in
theorem zm_X1_takeJump : zw_m yn_X1_takeJump cn_X1_takeJump 2 none 1 := ⟨zt_m 3 (by decide +kernel) (by decide +kernel), zt_m 551 rfl rfl, by decide, by decide, by decide +kernel⟩
theorem zv_X1_takeJump : zw_v yn_X1_takeJump := ⟨zt_m 550 (by decide +kernel) (by decide +kernel), zt_sel (n := 19) 39 (by decide +kernel) (by decide +kernel)⟩
set_option maxRecDepth 100000 in
theorem zm_X1_lacksSign : zw_m yn_X1_lacksSign cn_X1_lacksSign 2 (some .boolean) 1 := ⟨zt_m 3 (by decide +kernel) (by decide +kernel), zt_m 262 rfl rfl, by decide, by decide, by decide +kernel⟩
theorem zv_X1_lacksSign : zw_v yn_X1_lacksSign := ⟨zt_m 261 (by decide +kernel) (by decide +kernel), zt_sel (n := 19) 7 (by decide +kernel) (by decide +kernel)⟩
set_option maxRecDepth 100000 in
theorem zm_X1_faultOfJump : zw_m yn_X1_faultOfJump cn_X1_faultOfJump 2 (some .int) 1 := ⟨zt_m 3 (by decide +kernel) (by decide +kernel), zt_m 258 rfl rfl, by decide, by decide, by decide +kernel⟩
theorem zv_X1_faultOfJump : zw_v yn_X1_faultOfJump := ⟨zt_m 257 (by decide +kernel) (by decide +kernel), zt_sel (n := 19) 6 (by decide +kernel) (by decide +kernel)⟩
set_option maxRecDepth 100000 in
theorem zm_X2_init : zw_m yn_X2_init cn_X2_init 1 none 0 := ⟨zt_m 2 (by decide +kernel) (by decide +kernel), zt_m 25 rfl rfl, by decide, by decide, by decide +kernel⟩
theorem zu_X2_init : Cond.instanceMethod yn_X2_init ∈ zt_ws := zt_m 24 (by decide +kernel) (by decide +kernel)
set_option maxRecDepth 100000 in
theorem zm_X2_go : zw_m yn_X2_go cn_X2_go 1 (some .int) 0 := ⟨zt_m 2 (by decide +kernel) (by decide +kernel), zt_m 233 rfl rfl, by decide, by decide, by decide +kernel⟩
theorem zv_X2_go : zw_v yn_X2_go := ⟨zt_m 232 (by decide +kernel) (by decide +kernel), zt_sel (n := 15) 0 (by decide +kernel) (by decide +kernel)⟩
set_option maxRecDepth 100000 in
theorem zm_X2_forget : zw_m yn_X2_forget cn_X2_forget 2 none 0 := ⟨zt_m 2 (by decide +kernel) (by decide +kernel), zt_m 237 rfl rfl, by decide, by decide, by decide +kernel⟩
theorem zv_X2_forget : zw_v yn_X2_forget := ⟨zt_m 236 (by decide +kernel) (by decide +kernel), zt_sel (n := 15) 1 (by decide +kernel) (by decide +kernel)⟩
set_option maxRecDepth 100000 in
theorem zm_X2_setFault : zw_m yn_X2_setFault cn_X2_setFault 3 none 2 := ⟨zt_m 2 (by decide +kernel) (by decide +kernel), zt_m 246 rfl rfl, by decide, by decide, by decide +kernel⟩
theorem zv_X2_setFault : zw_v yn_X2_setFault := ⟨zt_m 245 (by decide +kernel) (by decide +kernel), zt_sel (n := 15) 3 (by decide +kernel) (by decide +kernel)⟩
set_option maxRecDepth 100000 in
theorem zm_X2_findFaultOfJumps : zw_m yn_X2_findFaultOfJumps cn_X2_findFaultOfJumps 3 none 0 := ⟨zt_m 2 (by decide +kernel) (by decide +kernel), zt_m 250 rfl rfl, by decide, by decide, by decide +kernel⟩
theorem zv_X2_findFaultOfJumps : zw_v yn_X2_findFaultOfJumps := ⟨zt_m 249 (by decide +kernel) (by decide +kernel), zt_sel (n := 15) 4 (by decide +kernel) (by decide +kernel)⟩
set_option maxRecDepth 100000 in
theorem zm_X2_playFromFirstBar : zw_m yn_X2_playFromFirstBar cn_X2_playFromFirstBar 3 none 0 := ⟨zt_m 2 (by decide +kernel) (by decide +kernel), zt_m 266 rfl rfl, by decide, by decide, by decide +kernel⟩
theorem zv_X2_playFromFirstBar : zw_v yn_X2_playFromFirstBar := ⟨zt_m 265 (by decide +kernel) (by decide +kernel), zt_sel (n := 15) 8 (by decide +kernel) (by decide +kernel)⟩
set_option maxRecDepth 100000 in
theorem zm_X2_comeTo : zw_m yn_X2_comeTo cn_X2_comeTo 3 (some .int) 1 := ⟨zt_m 2 (by decide +kernel) (by decide +kernel), zt_m 271 rfl rfl, by decide, by decide, by decide +kernel⟩
theorem zv_X2_comeTo : zw_v yn_X2_comeTo := ⟨zt_m 270 (by decide +kernel) (by decide +kernel), zt_sel (n := 15) 9 (by decide +kernel) (by decide +kernel)⟩
set_option maxRecDepth 100000 in
theorem zm_X2_openAround : zw_m yn_X2_openAround cn_X2_openAround 5 none 1 := ⟨zt_m 2 (by decide +kernel) (by decide +kernel), zt_m 275 rfl rfl, by decide, by decide, by decide +kernel⟩
theorem zv_X2_openAround : zw_v yn_X2_openAround := ⟨zt_m 274 (by decide +kernel) (by decide +kernel), zt_sel (n := 15) 10 (by decide +kernel) (by decide +kernel)⟩
set_option maxRecDepth 100000 in
theorem zm_X2_isLeftOut : zw_m yn_X2_isLeftOut cn_X2_isLeftOut 3 (some .boolean) 1 := ⟨zt_m 2 (by decide +kernel) (by decide +kernel), zt_m 283 rfl rfl, by decide, by decide, by decide +kernel⟩
theorem zv_X2_isLeftOut : zw_v yn_X2_isLeftOut := ⟨zt_m 282 (by decide +kernel) (by decide +kernel), zt_sel (n := 15) 12 (by decide +kernel) (by decide +kernel)⟩
set_option maxRecDepth 100000 in
theorem zm_X2_leaveWithin : zw_m yn_X2_leaveWithin cn_X2_leaveWithin 3 none 1 := ⟨zt_m 2 (by decide +kernel) (by decide +kernel), zt_m 287 rfl rfl, by decide, by decide, by decide +kernel⟩
theorem zv_X2_leaveWithin : zw_v yn_X2_leaveWithin := ⟨zt_m 286 (by decide +kernel) (by decide +kernel), zt_sel (n := 15) 13 (by decide +kernel) (by decide +kernel)⟩
set_option maxRecDepth 100000 in
theorem zm_X2_leaveAll : zw_m yn_X2_leaveAll cn_X2_leaveAll 1 none 0 := ⟨zt_m 2 (by decide +kernel) (by decide +kernel), zt_m 242 rfl rfl, by decide, by decide, by decide +kernel⟩
theorem zv_X2_leaveAll : zw_v yn_X2_leaveAll := ⟨zt_m 241 (by decide +kernel) (by decide +kernel), zt_sel (n := 15) 2 (by decide +kernel) (by decide +kernel)⟩
set_option maxRecDepth 100000 in
theorem zm_X2_play : zw_m yn_X2_play cn_X2_play 3 none 1 := ⟨zt_m 2 (by decide +kernel) (by decide +kernel), zt_m 302 rfl rfl, by decide, by decide, by decide +kernel⟩
theorem zv_X2_play : zw_v yn_X2_play := ⟨zt_m 301 (by decide +kernel) (by decide +kernel), zt_sel (n := 15) 16 (by decide +kernel) (by decide +kernel)⟩
set_option maxRecDepth 100000 in
theorem zm_X2_behind : zw_m yn_X2_behind cn_X2_behind 2 (some .int) 1 := ⟨zt_m 2 (by decide +kernel) (by decide +kernel), zt_m 306 rfl rfl, by decide, by decide, by decide +kernel⟩
theorem zv_X2_behind : zw_v yn_X2_behind := ⟨zt_m 305 (by decide +kernel) (by decide +kernel), zt_sel (n := 15) 17 (by decide +kernel) (by decide +kernel)⟩
set_option maxRecDepth 100000 in
theorem zm_X2_isInLastPasses : zw_m yn_X2_isInLastPasses cn_X2_isInLastPasses 4 (some .boolean) 1 := ⟨zt_m 2 (by decide +kernel) (by decide +kernel), zt_m 310 rfl rfl, by decide, by decide, by decide +kernel⟩
theorem zv_X2_isInLastPasses : zw_v yn_X2_isInLastPasses := ⟨zt_m 309 (by decide +kernel) (by decide +kernel), zt_sel (n := 15) 18 (by decide +kernel) (by decide +kernel)⟩
set_option maxRecDepth 100000 in
theorem zm_X2_isLatestJumpTill : zw_m yn_X2_isLatestJumpTill cn_X2_isLatestJumpTill 2 (some .boolean) 1 := ⟨zt_m 2 (by decide +kernel) (by decide +kernel), zt_m 314 rfl rfl, by decide, by decide, by decide +kernel⟩
theorem zv_X2_isLatestJumpTill : zw_v yn_X2_isLatestJumpTill := ⟨zt_m 313 (by decide +kernel) (by decide +kernel), zt_sel (n := 15) 19 (by decide +kernel) (by decide +kernel)⟩
set_option maxRecDepth 100000 in
theorem zm_X2_act : zw_m yn_X2_act cn_X2_act 2 (some .int) 1 := ⟨zt_m 2 (by decide +kernel) (by decide +kernel), zt_m 318 rfl rfl, by decide, by decide, by decide +kernel⟩
theorem zv_X2_act : zw_v yn_X2_act := ⟨zt_m 317 (by decide +kernel) (by decide +kernel), zt_sel (n := 15) 20 (by decide +kernel) (by decide +kernel)⟩
set_option maxRecDepth 100000 in
theorem zm_X2_endOf : zw_m yn_X2_endOf cn_X2_endOf 4 (some .int) 1 := ⟨zt_m 2 (by decide +kernel) (by decide +kernel), zt_m 298 rfl rfl, by decide, by decide, by decide +kernel⟩
theorem zv_X2_endOf : zw_v yn_X2_endOf := ⟨zt_m 297 (by decide +kernel) (by decide +kernel), zt_sel (n := 15) 15 (by decide +kernel) (by decide +kernel)⟩
set_option maxRecDepth 100000 in
theorem zm_X3_init : zw_m yn_X3_init cn_X3_init 1 none 0 := ⟨zt_m 5 (by decide +kernel) (by decide +kernel), zt_m 175 rfl rfl, by decide, by decide, by decide +kernel⟩
theorem zu_X3_init : Cond.instanceMethod yn_X3_init ∈ zt_ws := zt_m 174 (by decide +kernel) (by decide +kernel)
set_option maxRecDepth 100000 in
theorem zm_X3_cell : zw_m yn_X3_cell cn_X3_cell 2 (some .int) 2 := ⟨zt_m 5 (by decide +kernel) (by decide +kernel), zt_m 594 rfl rfl, by decide, by decide, by decide +kernel⟩
theorem zs_X3_cell : Cond.static yn_X3_cell ∈ zt_ws := zt_m 593 (by decide +kernel) (by decide +kernel)
set_option maxRecDepth 100000 in
theorem zm_X3_writeRow : zw_m yn_X3_writeRow cn_X3_writeRow 4 (some .int) 1 := ⟨zt_m 5 (by decide +kernel) (by decide +kernel), zt_m 587 rfl rfl, by decide, by decide, by decide +kernel⟩
theorem zv_X3_writeRow : zw_v yn_X3_writeRow := ⟨zt_m 586 (by decide +kernel) (by decide +kernel), zt_sel (n := 11) 40 (by decide +kernel) (by decide +kernel)⟩
set_option maxRecDepth 100000 in
theorem zm_X3_compareContents : zw_m yn_X3_compareContents cn_X3_compareContents 5 none 1 := ⟨zt_m 5 (by decide +kernel) (by decide +kernel), zt_m 591 rfl rfl, by decide, by decide, by decide +kernel⟩
theorem zv_X3_compareContents : zw_v yn_X3_compareContents := ⟨zt_m 590 (by decide +kernel) (by decide +kernel), zt_sel (n := 11) 41 (by decide +kernel) (by decide +kernel)⟩
set_option maxRecDepth 100000 in
theorem zm_X3_choose : zw_m yn_X3_choose cn_X3_choose 4 none 2 := ⟨zt_m 5 (by decide +kernel) (by decide +kernel), zt_m 598 rfl rfl, by decide, by decide, by decide +kernel⟩
theorem zv_X3_choose : zw_v yn_X3_choose := ⟨zt_m 597 (by decide +kernel) (by decide +kernel), zt_sel (n := 11) 42 (by decide +kernel) (by decide +kernel)⟩
set_option maxRecDepth 100000 in
theorem zm_X3_chooseBlock : zw_m yn_X3_chooseBlock cn_X3_chooseBlock 5 none 2 := ⟨zt_m 5 (by decide +kernel) (by decide +kernel), zt_m 602 rfl rfl, by decide, by decide, by decide +kernel⟩
theorem zv_X3_chooseBlock : zw_v yn_X3_chooseBlock := ⟨zt_m 601 (by decide +kernel) (by decide +kernel), zt_sel (n := 11) 43 (by decide +kernel) (by decide +kernel)⟩
set_option maxRecDepth 100000 in
theorem zm_X3_chooseParts : zw_m yn_X3_chooseParts cn_X3_chooseParts 7 none 2 := ⟨zt_m 5 (by decide +kernel) (by decide +kernel), zt_m 606 rfl rfl, by decide, by decide, by decide +kernel⟩
theorem zv_X3_chooseParts : zw_v yn_X3_chooseParts := ⟨zt_m 605 (by decide +kernel) (by decide +kernel), zt_sel (n := 11) 44 (by decide +kernel) (by decide +kernel)⟩
set_option maxRecDepth 100000 in
theorem zm_X3_writeItems : zw_m yn_X3_writeItems cn_X3_writeItems 3 none 1 := ⟨zt_m 5 (by decide +kernel) (by decide +kernel), zt_m 610 rfl rfl, by decide, by decide, by decide +kernel⟩
theorem zv_X3_writeItems : zw_v yn_X3_writeItems := ⟨zt_m 609 (by decide +kernel) (by decide +kernel), zt_sel (n := 11) 45 (by decide +kernel) (by decide +kernel)⟩
set_option maxRecDepth 100000 in
theorem zm_X3_writePart : zw_m yn_X3_writePart cn_X3_writePart 4 none 2 := ⟨zt_m 5 (by decide +kernel) (by decide +kernel), zt_m 618 rfl rfl, by decide, by decide, by decide +kernel⟩
theorem zv_X3_writePart : zw_v yn_X3_writePart := ⟨zt_m 617 (by decide +kernel) (by decide +kernel), zt_sel (n := 11) 47 (by decide +kernel) (by decide +kernel)⟩
set_option maxRecDepth 100000 in
theorem zm_X3_putAside : zw_m yn_X3_putAside cn_X3_putAside 3 none 2 := ⟨zt_m 5 (by decide +kernel) (by decide +kernel), zt_m 614 rfl rfl, by decide, by decide, by decide +kernel⟩
theorem zv_X3_putAside : zw_v yn_X3_putAside := ⟨zt_m 613 (by decide +kernel) (by decide +kernel), zt_sel (n := 11) 46 (by decide +kernel) (by decide +kernel)⟩
set_option maxRecDepth 100000 in
theorem zm_X3_addItem : zw_m yn_X3_addItem cn_X3_addItem 3 none 2 := ⟨zt_m 5 (by decide +kernel) (by decide +kernel), zt_m 622 rfl rfl, by decide, by decide, by decide +kernel⟩
theorem zv_X3_addItem : zw_v yn_X3_addItem := ⟨zt_m 621 (by decide +kernel) (by decide +kernel), zt_sel (n := 11) 48 (by decide +kernel) (by decide +kernel)⟩
set_option maxRecDepth 100000 in
theorem zm_X4_init : zw_m yn_X4_init cn_X4_init 2 none 0 := ⟨zt_m 6 (by decide +kernel) (by decide +kernel), zt_m 644 rfl rfl, by decide, by decide, by decide +kernel⟩
theorem zu_X4_init : Cond.instanceMethod yn_X4_init ∈ zt_ws := zt_m 643 (by decide +kernel) (by decide +kernel)
set_option maxRecDepth 100000 in
theorem zm_X4_thrown : zw_m yn_X4_thrown cn_X4_thrown 1 (some .int) 0 := ⟨zt_m 6 (by decide +kernel) (by decide +kernel), zt_m 773 rfl rfl, by decide, by decide, by decide +kernel⟩
theorem zv_X4_thrown : zw_v yn_X4_thrown := ⟨zt_m 771 (by decide +kernel) (by decide +kernel), zt_m 772 (by decide +kernel) (by decide +kernel)⟩
set_option maxRecDepth 100000 in
theorem zm_X4_refuses : zw_m yn_X4_refuses cn_X4_refuses 4 (some .boolean) 3 := ⟨zt_m 6 (by decide +kernel) (by decide +kernel), zt_m 781 rfl rfl, by decide, by decide, by decide +kernel⟩
theorem zv_X4_refuses : zw_v yn_X4_refuses := ⟨zt_m 780 (by decide +kernel) (by decide +kernel), zt_sel (n := 41) 49 (by decide +kernel) (by decide +kernel)⟩
set_option maxRecDepth 100000 in
theorem zm_X4_isBar : zw_m yn_X4_isBar cn_X4_isBar 2 (some .boolean) 1 := ⟨zt_m 6 (by decide +kernel) (by decide +kernel), zt_m 789 rfl rfl, by decide, by decide, by decide +kernel⟩
theorem zv_X4_isBar : zw_v yn_X4_isBar := ⟨zt_m 788 (by decide +kernel) (by decide +kernel), zt_sel (n := 41) 50 (by decide +kernel) (by decide +kernel)⟩
set_option maxRecDepth 100000 in
theorem zm_X4_bar : zw_m yn_X4_bar cn_X4_bar 2 (some .int) 1 := ⟨zt_m 6 (by decide +kernel) (by decide +kernel), zt_m 777 rfl rfl, by decide, by decide, by decide +kernel⟩
theorem zv_X4_bar : zw_v yn_X4_bar := ⟨zt_m 775 (by decide +kernel) (by decide +kernel), zt_m 776 (by decide +kernel) (by decide +kernel)⟩
set_option maxRecDepth 100000 in
theorem zm_X4_isApart : zw_m yn_X4_isApart cn_X4_isApart 4 (some .boolean) 4 := ⟨zt_m 6 (by decide +kernel) (by decide +kernel), zt_m 799 rfl rfl, by decide, by decide, by decide +kernel⟩
theorem zs_X4_isApart : Cond.static yn_X4_isApart ∈ zt_ws := zt_m 798 (by decide +kernel) (by decide +kernel)
set_option maxRecDepth 100000 in
theorem zm_X4_isWithin : zw_m yn_X4_isWithin cn_X4_isWithin 4 (some .boolean) 4 := ⟨zt_m 6 (by decide +kernel) (by decide +kernel), zt_m 802 rfl rfl, by decide, by decide, by decide +kernel⟩
theorem zs_X4_isWithin : Cond.static yn_X4_isWithin ∈ zt_ws := zt_m 801 (by decide +kernel) (by decide +kernel)
set_option maxRecDepth 100000 in
theorem zm_X4_liesWell : zw_m yn_X4_liesWell cn_X4_liesWell 4 (some .boolean) 4 := ⟨zt_m 6 (by decide +kernel) (by decide +kernel), zt_m 796 rfl rfl, by decide, by decide, by decide +kernel⟩
theorem zs_X4_liesWell : Cond.static yn_X4_liesWell ∈ zt_ws := zt_m 795 (by decide +kernel) (by decide +kernel)
set_option maxRecDepth 100000 in
theorem zm_X4_isAround : zw_m yn_X4_isAround cn_X4_isAround 3 (some .boolean) 2 := ⟨zt_m 6 (by decide +kernel) (by decide +kernel), zt_m 806 rfl rfl, by decide, by decide, by decide +kernel⟩
theorem zv_X4_isAround : zw_v yn_X4_isAround := ⟨zt_m 805 (by decide +kernel) (by decide +kernel), zt_sel (n := 41) 52 (by decide +kernel) (by decide +kernel)⟩
set_option maxRecDepth 100000 in
theorem zm_X4_mayRepeat : zw_m yn_X4_mayRepeat cn_X4_mayRepeat 6 (some .boolean) 2 := ⟨zt_m 6 (by decide +kernel) (by decide +kernel), zt_m 793 rfl rfl, by decide, by decide, by decide +kernel⟩
theorem zv_X4_mayRepeat : zw_v yn_X4_mayRepeat := ⟨zt_m 792 (by decide +kernel) (by decide +kernel), zt_sel (n := 41) 51 (by decide +kernel) (by decide +kernel)⟩
set_option maxRecDepth 100000 in
theorem zm_X4_repeat : zw_m yn_X4_repeat cn_X4_repeat 6 (some .int) 3 := ⟨zt_m 6 (by decide +kernel) (by decide +kernel), zt_m 785 rfl rfl, by decide, by decide, by decide +kernel⟩
theorem zv_X4_repeat : zw_v yn_X4_repeat := ⟨zt_m 783 (by decide +kernel) (by decide +kernel), zt_m 784 (by decide +kernel) (by decide +kernel)⟩
set_option maxRecDepth 100000 in
theorem zm_X4_mayEnd : zw_m yn_X4_mayEnd cn_X4_mayEnd 5 (some .boolean) 3 := ⟨zt_m 6 (by decide +kernel) (by decide +kernel), zt_m 814 rfl rfl, by decide, by decide, by decide +kernel⟩
theorem zv_X4_mayEnd : zw_v yn_X4_mayEnd := ⟨zt_m 813 (by decide +kernel) (by decide +kernel), zt_sel (n := 41) 53 (by decide +kernel) (by decide +kernel)⟩
set_option maxRecDepth 100000 in
theorem zm_X4_ending : zw_m yn_X4_ending cn_X4_ending 7 (some .int) 4 := ⟨zt_m 6 (by decide +kernel) (by decide +kernel), zt_m 810 rfl rfl, by decide, by decide, by decide +kernel⟩
theorem zv_X4_ending : zw_v yn_X4_ending := ⟨zt_m 808 (by decide +kernel) (by decide +kernel), zt_m 809 (by decide +kernel) (by decide +kernel)⟩
set_option maxRecDepth 100000 in
theorem zm_X4_sign : zw_m yn_X4_sign cn_X4_sign 4 (some .int) 2 := ⟨zt_m 6 (by decide +kernel) (by decide +kernel), zt_m 818 rfl rfl, by decide, by decide, by decide +kernel⟩
theorem zv_X4_sign : zw_v yn_X4_sign := ⟨zt_m 816 (by decide +kernel) (by decide +kernel), zt_m 817 (by decide +kernel) (by decide +kernel)⟩
set_option maxRecDepth 100000 in
theorem zm_X4_jump : zw_m yn_X4_jump cn_X4_jump 5 none 4 := ⟨zt_m 6 (by decide +kernel) (by decide +kernel), zt_m 822 rfl rfl, by decide, by decide, by decide +kernel⟩
theorem zv_X4_jump : zw_v yn_X4_jump := ⟨zt_m 820 (by decide +kernel) (by decide +kernel), zt_m 821 (by decide +kernel) (by decide +kernel)⟩
set_option maxRecDepth 100000 in
theorem zm_X4_plain : zw_m yn_X4_plain cn_X4_plain 2 none 1 := ⟨zt_m 6 (by decide +kernel) (by decide +kernel), zt_m 826 rfl rfl, by decide, by decide, by decide +kernel⟩
theorem zv_X4_plain : zw_v yn_X4_plain := ⟨zt_m 824 (by decide +kernel) (by decide +kernel), zt_m 825 (by decide +kernel) (by decide +kernel)⟩
set_option maxRecDepth 100000 in
theorem zm_X4_missing : zw_m yn_X4_missing cn_X4_missing 2 (some .int) 1 := ⟨zt_m 6 (by decide +kernel) (by decide +kernel), zt_m 842 rfl rfl, by decide, by decide, by decide +kernel⟩
theorem zv_X4_missing : zw_v yn_X4_missing := ⟨zt_m 841 (by decide +kernel) (by decide +kernel), zt_sel (n := 41) 56 (by decide +kernel) (by decide +kernel)⟩
set_option maxRecDepth 100000 in
theorem zm_X4_forget : zw_m yn_X4_forget cn_X4_forget 2 none 0 := ⟨zt_m 6 (by decide +kernel) (by decide +kernel), zt_m 834 rfl rfl, by decide, by decide, by decide +kernel⟩
theorem zv_X4_forget : zw_v yn_X4_forget := ⟨zt_m 833 (by decide +kernel) (by decide +kernel), zt_sel (n := 41) 54 (by decide +kernel) (by decide +kernel)⟩
set_option maxRecDepth 100000 in
theorem zm_X4_leaveAll : zw_m yn_X4_leaveAll cn_X4_leaveAll 2 none 0 := ⟨zt_m 6 (by decide +kernel) (by decide +kernel), zt_m 838 rfl rfl, by decide, by decide, by decide +kernel⟩
theorem zv_X4_leaveAll : zw_v yn_X4_leaveAll := ⟨zt_m 837 (by decide +kernel) (by decide +kernel), zt_sel (n := 41) 55 (by decide +kernel) (by decide +kernel)⟩
set_option maxRecDepth 100000 in
theorem zm_X4_unfold : zw_m yn_X4_unfold cn_X4_unfold 2 (some .int) 0 := ⟨zt_m 6 (by decide +kernel) (by decide +kernel), zt_m 830 rfl rfl, by decide, by decide, by decide +kernel⟩
theorem zv_X4_unfold : zw_v yn_X4_unfold := ⟨zt_m 828 (by decide +kernel) (by decide +kernel), zt_m 829 (by decide +kernel) (by decide +kernel)⟩
set_option maxRecDepth 100000 in
theorem zm_X4_comeTo : zw_m yn_X4_comeTo cn_X4_comeTo 4 none 1 := ⟨zt_m 6 (by decide +kernel) (by decide +kernel), zt_m 846 rfl rfl, by decide, by decide, by decide +kernel⟩
theorem zv_X4_comeTo : zw_v yn_X4_comeTo := ⟨zt_m 845 (by decide +kernel) (by decide +kernel), zt_sel (n := 41) 57 (by decide +kernel) (by decide +kernel)⟩
set_option maxRecDepth 100000 in
theorem zm_X4_leaveWithin : zw_m yn_X4_leaveWithin cn_X4_leaveWithin 5 none 3 := ⟨zt_m 6 (by decide +kernel) (by decide +kernel), zt_m 850 rfl rfl, by decide, by decide, by decide +kernel⟩
theorem zv_X4_leaveWithin : zw_v yn_X4_leaveWithin := ⟨zt_m 849 (by decide +kernel) (by decide +kernel), zt_sel (n := 41) 58 (by decide +kernel) (by decide +kernel)⟩
set_option maxRecDepth 100000 in
theorem zm_X4_aroundIt : zw_m yn_X4_aroundIt cn_X4_aroundIt 6 (some .int) 2 := ⟨zt_m 6 (by decide +kernel) (by decide +kernel), zt_m 862 rfl rfl, by decide, by decide, by decide +kernel⟩
theorem zv_X4_aroundIt : zw_v yn_X4_aroundIt := ⟨zt_m 861 (by decide +kernel) (by decide +kernel), zt_sel (n := 41) 61 (by decide +kernel) (by decide +kernel)⟩
set_option maxRecDepth 100000 in
theorem zm_X4_play : zw_m yn_X4_play cn_X4_play 6 none 1 := ⟨zt_m 6 (by decide +kernel) (by decide +kernel), zt_m 858 rfl rfl, by decide, by decide, by decide +kernel⟩
theorem zv_X4_play : zw_v yn_X4_play := ⟨zt_m 857 (by decide +kernel) (by decide +kernel), zt_sel (n := 41) 60 (by decide +kernel) (by decide +kernel)⟩
set_option maxRecDepth 100000 in
theorem zm_X4_theEnd : zw_m yn_X4_theEnd cn_X4_theEnd 4 none 1 := ⟨zt_m 6 (by decide +kernel) (by decide +kernel), zt_m 854 rfl rfl, by decide, by decide, by decide +kernel⟩
theorem zv_X4_theEnd : zw_v yn_X4_theEnd := ⟨zt_m 853 (by decide +kernel) (by decide +kernel), zt_sel (n := 41) 59 (by decide +kernel) (by decide +kernel)⟩
set_option maxRecDepth 100000 in
theorem zm_X4_fault : zw_m yn_X4_fault cn_X4_fault 1 (some .int) 0 := ⟨zt_m 6 (by decide +kernel) (by decide +kernel), zt_m 866 rfl rfl, by decide, by decide, by decide +kernel⟩
theorem zv_X4_fault : zw_v yn_X4_fault := ⟨zt_m 864 (by decide +kernel) (by decide +kernel), zt_m 865 (by decide +kernel) (by decide +kernel)⟩
set_option maxRecDepth 100000 in
theorem zm_X4_played : zw_m yn_X4_played cn_X4_played 3 (some .int) 2 := ⟨zt_m 6 (by decide +kernel) (by decide +kernel), zt_m 870 rfl rfl, by decide, by decide, by decide +kernel⟩
theorem zv_X4_played : zw_v yn_X4_played := ⟨zt_m 868 (by decide +kernel) (by decide +kernel), zt_m 869 (by decide +kernel) (by decide +kernel)⟩
set_option maxRecDepth 100000 in
theorem zm_X4_times : zw_m yn_X4_times cn_X4_times 4 (some .int) 1 := ⟨zt_m 6 (by decide +kernel) (by decide +kernel), zt_m 874 rfl rfl, by decide, by decide, by decide +kernel⟩
theorem zv_X4_times : zw_v yn_X4_times := ⟨zt_m 872 (by decide +kernel) (by decide +kernel), zt_m 873 (by decide +kernel) (by decide +kernel)⟩
set_option maxRecDepth 100000 in
theorem zm_X4_comes : zw_m yn_X4_comes cn_X4_comes 2 (some .int) 1 := ⟨zt_m 6 (by decide +kernel) (by decide +kernel), zt_m 878 rfl rfl, by decide, by decide, by decide +kernel⟩
theorem zv_X4_comes : zw_v yn_X4_comes := ⟨zt_m 876 (by decide +kernel) (by decide +kernel), zt_m 877 (by decide +kernel) (by decide +kernel)⟩
set_option maxRecDepth 100000 in
theorem zm_X4_fold : zw_m yn_X4_fold cn_X4_fold 6 (some .int) 2 := ⟨zt_m 6 (by decide +kernel) (by decide +kernel), zt_m 882 rfl rfl, by decide, by decide, by decide +kernel⟩
theorem zv_X4_fold : zw_v yn_X4_fold := ⟨zt_m 880 (by decide +kernel) (by decide +kernel), zt_m 881 (by decide +kernel) (by decide +kernel)⟩
set_option maxRecDepth 100000 in
theorem zm_X4_isAgain : zw_m yn_X4_isAgain cn_X4_isAgain 6 (some .boolean) 3 := ⟨zt_m 6 (by decide +kernel) (by decide +kernel), zt_m 890 rfl rfl, by decide, by decide, by decide +kernel⟩
theorem zv_X4_isAgain : zw_v yn_X4_isAgain := ⟨zt_m 889 (by decide +kernel) (by decide +kernel), zt_sel (n := 41) 63 (by decide +kernel) (by decide +kernel)⟩
set_option maxRecDepth 100000 in
theorem zm_X4_findWay : zw_m yn_X4_findWay cn_X4_findWay 6 none 2 := ⟨zt_m 6 (by decide +kernel) (by decide +kernel), zt_m 886 rfl rfl, by decide, by decide, by decide +kernel⟩
theorem zv_X4_findWay : zw_v yn_X4_findWay := ⟨zt_m 885 (by decide +kernel) (by decide +kernel), zt_sel (n := 41) 62 (by decide +kernel) (by decide +kernel)⟩
set_option maxRecDepth 100000 in
theorem zm_X4_item : zw_m yn_X4_item cn_X4_item 3 none 2 := ⟨zt_m 6 (by decide +kernel) (by decide +kernel), zt_m 898 rfl rfl, by decide, by decide, by decide +kernel⟩
theorem zv_X4_item : zw_v yn_X4_item := ⟨zt_m 897 (by decide +kernel) (by decide +kernel), zt_sel (n := 41) 65 (by decide +kernel) (by decide +kernel)⟩
set_option maxRecDepth 100000 in
theorem zm_X4_write : zw_m yn_X4_write cn_X4_write 6 none 1 := ⟨zt_m 6 (by decide +kernel) (by decide +kernel), zt_m 894 rfl rfl, by decide, by decide, by decide +kernel⟩
theorem zv_X4_write : zw_v yn_X4_write := ⟨zt_m 893 (by decide +kernel) (by decide +kernel), zt_sel (n := 41) 64 (by decide +kernel) (by decide +kernel)⟩
set_option maxRecDepth 100000 in
theorem zm_X4_folded : zw_m yn_X4_folded cn_X4_folded 3 (some .int) 2 := ⟨zt_m 6 (by decide +kernel) (by decide +kernel), zt_m 902 rfl rfl, by decide, by decide, by decide +kernel⟩
theorem zv_X4_folded : zw_v yn_X4_folded := ⟨zt_m 900 (by decide +kernel) (by decide +kernel), zt_m 901 (by decide +kernel) (by decide +kernel)⟩
set_option maxRecDepth 100000 in
theorem zm_X4_told : zw_m yn_X4_told cn_X4_told 4 (some .int) 1 := ⟨zt_m 6 (by decide +kernel) (by decide +kernel), zt_m 906 rfl rfl, by decide, by decide, by decide +kernel⟩
theorem zv_X4_told : zw_v yn_X4_told := ⟨zt_m 904 (by decide +kernel) (by decide +kernel), zt_m 905 (by decide +kernel) (by decide +kernel)⟩
set_option maxRecDepth 100000 in
theorem zm_XA_fill : zw_m yn_XA_fill cn_XA_fill 4 none 2 := ⟨zt_m 4 (by decide +kernel) (by decide +kernel), zt_m 35 rfl rfl, by decide, by decide, by decide +kernel⟩
theorem zs_XA_fill : Cond.static yn_XA_fill ∈ zt_ws := zt_m 34 (by decide +kernel) (by decide +kernel)
end
section
theorem dn_X1_init_0 : decode cn_X1_init 0 = .ok (.aload_n 0, 1) := by decide +kernel
theorem dn_X1_init_1 : decode cn_X1_init 1 = .ok (.invokespecial 3, 3) := by decide +kernel
theorem dn_X1_init_4 : decode cn_X1_init 4 = .ok (.aload_n 0, 1) := by decide +kernel
theorem dn_X1_init_5 : decode cn_X1_init 5 = .ok (.bipush 60, 2) := by decide +kernel
theorem dn_X1_init_7 : decode cn_X1_init 7 = .ok (.newarray .int, 2) := by decide +kernel
theorem dn_X1_init_9 : decode cn_X1_init 9 = .ok (.putfield 9, 3) := by decide +kernel
theorem dn_X1_init_12 : decode cn_X1_init 12 = .ok (.aload_n 0, 1) := by decide +kernel
theorem dn_X1_init_13 : decode cn_X1_init 13 = .ok (.bipush 20, 2) := by decide +kernel
theorem dn_X1_init_15 : decode cn_X1_init 15 = .ok (.newarray .int, 2) := by decide +kernel
theorem dn_X1_init_17 : decode cn_X1_init 17 = .ok (.putfield 15, 3) := by decide +kernel
theorem dn_X1_init_20 : decode cn_X1_init 20 = .ok (.aload_n 0, 1) := by decide +kernel
theorem dn_X1_init_21 : decode cn_X1_init 21 = .ok (.bipush 20, 2) := by decide +kernel
theorem dn_X1_init_23 : decode cn_X1_init 23 = .ok (.newarray .int, 2) := by decide +kernel
theorem dn_X1_init_25 : decode cn_X1_init 25 = .ok (.putfield 18, 3) := by decide +kernel
theorem dn_X1_init_28 : decode cn_X1_init 28 = .ok (.aload_n 0, 1) := by decide +kernel
theorem dn_X1_init_29 : decode cn_X1_init 29 = .ok (.bipush 20, 2) := by decide +kernel
theorem dn_X1_init_31 : decode cn_X1_init 31 = .ok (.newarray .int, 2) := by decide +kernel
theorem dn_X1_init_33 : decode cn_X1_init 33 = .ok (.putfield 21, 3) := by decide +kernel
theorem dn_X1_init_36 : decode cn_X1_init 36 = .ok (.aload_n 0, 1) := by decide +kernel
theorem dn_X1_init_37 : decode cn_X1_init 37 = .ok (.bipush 20, 2) := by decide +kernel
theorem dn_X1_init_39 : decode cn_X1_init 39 = .ok (.newarray .int, 2) := by decide +kernel
theorem dn_X1_init_41 : decode cn_X1_init 41 = .ok (.putfield 24, 3) := by decide +kernel
theorem dn_X1_init_44 : decode cn_X1_init 44 = .ok (.aload_n 0, 1) := by decide +kernel
theorem dn_X1_init_45 : decode cn_X1_init 45 = .ok (.bipush 20, 2) := by decide +kernel
theorem dn_X1_init_47 : decode cn_X1_init 47 = .ok (.newarray .int, 2) := by decide +kernel
theorem dn_X1_init_49 : decode cn_X1_init 49 = .ok (.putfield 27, 3) := by decide +kernel
theorem dn_X1_init_52 : decode cn_X1_init 52 = .ok (.aload_n 0, 1) := by decide +kernel
theorem dn_X1_init_53 : decode cn_X1_init 53 = .ok (.bipush 20, 2) := by decide +kernel
theorem dn_X1_init_55 : decode cn_X1_init 55 = .ok (.newarray .int, 2) := by decide +kernel
theorem dn_X1_init_57 : decode cn_X1_init 57 = .ok (.putfield 30, 3) := by decide +kernel
theorem dn_X1_init_60 : decode cn_X1_init 60 = .ok (.aload_n 0, 1) := by decide +kernel
theorem dn_X1_init_61 : decode cn_X1_init 61 = .ok (.bipush 20, 2) := by decide +kernel
theorem dn_X1_init_63 : decode cn_X1_init 63 = .ok (.newarray .int, 2) := by decide +kernel
theorem dn_X1_init_65 : decode cn_X1_init 65 = .ok (.putfield 33, 3) := by decide +kernel
theorem dn_X1_init_68 : decode cn_X1_init 68 = .ok (.aload_n 0, 1) := by decide +kernel
theorem dn_X1_init_69 : decode cn_X1_init 69 = .ok (.iconst 4, 1) := by decide +kernel
theorem dn_X1_init_70 : decode cn_X1_init 70 = .ok (.newarray .int, 2) := by decide +kernel
theorem dn_X1_init_72 : decode cn_X1_init 72 = .ok (.putfield 36, 3) := by decide +kernel
theorem dn_X1_init_75 : decode cn_X1_init 75 = .ok (.aload_n 0, 1) := by decide +kernel
theorem dn_X1_init_76 : decode cn_X1_init 76 = .ok (.bipush 60, 2) := by decide +kernel
theorem dn_X1_init_78 : decode cn_X1_init 78 = .ok (.newarray .int, 2) := by decide +kernel
theorem dn_X1_init_80 : decode cn_X1_init 80 = .ok (.putfield 39, 3) := by decide +kernel
theorem dn_X1_init_83 : decode cn_X1_init 83 = .ok (.aload_n 0, 1) := by decide +kernel
theorem dn_X1_init_84 : decode cn_X1_init 84 = .ok (.bipush 60, 2) := by decide +kernel
theorem dn_X1_init_86 : decode cn_X1_init 86 = .ok (.newarray .int, 2) := by decide +kernel
theorem dn_X1_init_88 : decode cn_X1_init 88 = .ok (.putfield 42, 3) := by decide +kernel
theorem dn_X1_init_91 : decode cn_X1_init 91 = .ok (.aload_n 0, 1) := by decide +kernel
theorem dn_X1_init_92 : decode cn_X1_init 92 = .ok (.bipush 60, 2) := by decide +kernel
theorem dn_X1_init_94 : decode cn_X1_init 94 = .ok (.newarray .boolean, 2) := by decide +kernel
theorem dn_X1_init_96 : decode cn_X1_init 96 = .ok (.putfield 45, 3) := by decide +kernel
theorem dn_X1_init_99 : decode cn_X1_init 99 = .ok (.aload_n 0, 1) := by decide +kernel
theorem dn_X1_init_100 : decode cn_X1_init 100 = .ok (.sipush 180, 3) := by decide +kernel
theorem dn_X1_init_103 : decode cn_X1_init 103 = .ok (.newarray .int, 2) := by decide +kernel
theorem dn_X1_init_105 : decode cn_X1_init 105 = .ok (.putfield 49, 3) := by decide +kernel
theorem dn_X1_init_108 : decode cn_X1_init 108 = .ok (.aload_n 0, 1) := by decide +kernel
theorem dn_X1_init_109 : decode cn_X1_init 109 = .ok (.bipush 60, 2) := by decide +kernel
theorem dn_X1_init_111 : decode cn_X1_init 111 = .ok (.newarray .int, 2) := by decide +kernel
theorem dn_X1_init_113 : decode cn_X1_init 113 = .ok (.putfield 52, 3) := by decide +kernel
theorem dn_X1_init_116 : decode cn_X1_init 116 = .ok (.aload_n 0, 1) := by decide +kernel
theorem dn_X1_init_117 : decode cn_X1_init 117 = .ok (.bipush 60, 2) := by decide +kernel
theorem dn_X1_init_119 : decode cn_X1_init 119 = .ok (.newarray .int, 2) := by decide +kernel
theorem dn_X1_init_121 : decode cn_X1_init 121 = .ok (.putfield 55, 3) := by decide +kernel
theorem dn_X1_init_124 : decode cn_X1_init 124 = .ok (.aload_n 0, 1) := by decide +kernel
theorem dn_X1_init_125 : decode cn_X1_init 125 = .ok (.getfield 36, 3) := by decide +kernel
theorem dn_X1_init_128 : decode cn_X1_init 128 = .ok (.iconst (-1), 1) := by decide +kernel
theorem dn_X1_init_129 : decode cn_X1_init 129 = .ok (.invokestatic 58, 3) := by decide +kernel
theorem dn_X1_init_132 : decode cn_X1_init 132 = .ok (.aload_n 0, 1) := by decide +kernel
theorem dn_X1_init_133 : decode cn_X1_init 133 = .ok (.getfield 39, 3) := by decide +kernel
theorem dn_X1_init_136 : decode cn_X1_init 136 = .ok (.iconst (-1), 1) := by decide +kernel
theorem dn_X1_init_137 : decode cn_X1_init 137 = .ok (.invokestatic 58, 3) := by decide +kernel
theorem dn_X1_init_140 : decode cn_X1_init 140 = .ok (.aload_n 0, 1) := by decide +kernel
theorem dn_X1_init_141 : decode cn_X1_init 141 = .ok (.getfield 55, 3) := by decide +kernel
theorem dn_X1_init_144 : decode cn_X1_init 144 = .ok (.iconst (-1), 1) := by decide +kernel
theorem dn_X1_init_145 : decode cn_X1_init 145 = .ok (.invokestatic 58, 3) := by decide +kernel
theorem dn_X1_init_148 : decode cn_X1_init 148 = .ok (.return_, 1) := by decide +kernel
theorem dn_X1_hasBar_0 : decode cn_X1_hasBar 0 = .ok (.iload_n 1, 1) := by decide +kernel
theorem dn_X1_hasBar_1 : decode cn_X1_hasBar 1 = .ok (.ifCond .lt 15, 3) := by decide +kernel
theorem dn_X1_hasBar_4 : decode cn_X1_hasBar 4 = .ok (.iload_n 1, 1) := by decide +kernel
theorem dn_X1_hasBar_5 : decode cn_X1_hasBar 5 = .ok (.aload_n 0, 1) := by decide +kernel
theorem dn_X1_hasBar_6 : decode cn_X1_hasBar 6 = .ok (.getfield 64, 3) := by decide +kernel
theorem dn_X1_hasBar_9 : decode cn_X1_hasBar 9 = .ok (.if_icmp .ge 7, 3) := by decide +kernel
theorem dn_X1_hasBar_12 : decode cn_X1_hasBar 12 = .ok (.iconst 1, 1) := by decide +kernel
theorem dn_X1_hasBar_13 : decode cn_X1_hasBar 13 = .ok (.goto 4, 3) := by decide +kernel
theorem dn_X1_hasBar_16 : decode cn_X1_hasBar 16 = .ok (.iconst 0, 1) := by decide +kernel
theorem dn_X1_hasBar_17 : decode cn_X1_hasBar 17 = .ok (.ireturn, 1) := by decide +kernel
theorem dn_X1_hasRepeat_0 : decode cn_X1_hasRepeat 0 = .ok (.iload_n 1, 1) := by decide +kernel
theorem dn_X1_hasRepeat_1 : decode cn_X1_hasRepeat 1 = .ok (.ifCond .lt 15, 3) := by decide +kernel
theorem dn_X1_hasRepeat_4 : decode cn_X1_hasRepeat 4 = .ok (.iload_n 1, 1) := by decide +kernel
theorem dn_X1_hasRepeat_5 : decode cn_X1_hasRepeat 5 = .ok (.aload_n 0, 1) := by decide +kernel
theorem dn_X1_hasRepeat_6 : decode cn_X1_hasRepeat 6 = .ok (.getfield 68, 3) := by decide +kernel
theorem dn_X1_hasRepeat_9 : decode cn_X1_hasRepeat 9 = .ok (.if_icmp .ge 7, 3) := by decide +kernel
theorem dn_X1_hasRepeat_12 : decode cn_X1_hasRepeat 12 = .ok (.iconst 1, 1) := by decide +kernel
theorem dn_X1_hasRepeat_13 : decode cn_X1_hasRepeat 13 = .ok (.goto 4, 3) := by decide +kernel
theorem dn_X1_hasRepeat_16 : decode cn_X1_hasRepeat 16 = .ok (.iconst 0, 1) := by decide +kernel
theorem dn_X1_hasRepeat_17 : decode cn_X1_hasRepeat 17 = .ok (.ireturn, 1) := by decide +kernel
theorem dn_X1_hasJump_0 : decode cn_X1_hasJump 0 = .ok (.aload_n 0, 1) := by decide +kernel
theorem dn_X1_hasJump_1 : decode cn_X1_hasJump 1 = .ok (.getfield 39, 3) := by decide +kernel
theorem dn_X1_hasJump_4 : decode cn_X1_hasJump 4 = .ok (.iload_n 1, 1) := by decide +kernel
theorem dn_X1_hasJump_5 : decode cn_X1_hasJump 5 = .ok (.iaload, 1) := by decide +kernel
theorem dn_X1_hasJump_6 : decode cn_X1_hasJump 6 = .ok (.iconst (-1), 1) := by decide +kernel
theorem dn_X1_hasJump_7 : decode cn_X1_hasJump 7 = .ok (.if_icmp .eq 7, 3) := by decide +kernel
theorem dn_X1_hasJump_10 : decode cn_X1_hasJump 10 = .ok (.iconst 1, 1) := by decide +kernel
theorem dn_X1_hasJump_11 : decode cn_X1_hasJump 11 = .ok (.goto 4, 3) := by decide +kernel
theorem dn_X1_hasJump_14 : decode cn_X1_hasJump 14 = .ok (.iconst 0, 1) := by decide +kernel
theorem dn_X1_hasJump_15 : decode cn_X1_hasJump 15 = .ok (.ireturn, 1) := by decide +kernel
theorem dn_X1_hasPasses_0 : decode cn_X1_hasPasses 0 = .ok (.iconst 1, 1) := by decide +kernel
theorem dn_X1_hasPasses_1 : decode cn_X1_hasPasses 1 = .ok (.aload_n 0, 1) := by decide +kernel
theorem dn_X1_hasPasses_2 : decode cn_X1_hasPasses 2 = .ok (.getfield 21, 3) := by decide +kernel
theorem dn_X1_hasPasses_5 : decode cn_X1_hasPasses 5 = .ok (.iload_n 1, 1) := by decide +kernel
theorem dn_X1_hasPasses_6 : decode cn_X1_hasPasses 6 = .ok (.iaload, 1) := by decide +kernel
theorem dn_X1_hasPasses_7 : decode cn_X1_hasPasses 7 = .ok (.ishl, 1) := by decide +kernel
theorem dn_X1_hasPasses_8 : decode cn_X1_hasPasses 8 = .ok (.iconst 1, 1) := by decide +kernel
theorem dn_X1_hasPasses_9 : decode cn_X1_hasPasses 9 = .ok (.isub, 1) := by decide +kernel
theorem dn_X1_hasPasses_10 : decode cn_X1_hasPasses 10 = .ok (.istore_n 3, 1) := by decide +kernel
theorem dn_X1_hasPasses_11 : decode cn_X1_hasPasses 11 = .ok (.iload_n 2, 1) := by decide +kernel
theorem dn_X1_hasPasses_12 : decode cn_X1_hasPasses 12 = .ok (.ifCond .eq 15, 3) := by decide +kernel
theorem dn_X1_hasPasses_15 : decode cn_X1_hasPasses 15 = .ok (.iload_n 2, 1) := by decide +kernel
theorem dn_X1_hasPasses_16 : decode cn_X1_hasPasses 16 = .ok (.iload_n 3, 1) := by decide +kernel
theorem dn_X1_hasPasses_17 : decode cn_X1_hasPasses 17 = .ok (.iconst (-1), 1) := by decide +kernel
theorem dn_X1_hasPasses_18 : decode cn_X1_hasPasses 18 = .ok (.ixor, 1) := by decide +kernel
theorem dn_X1_hasPasses_19 : decode cn_X1_hasPasses 19 = .ok (.iand, 1) := by decide +kernel
theorem dn_X1_hasPasses_20 : decode cn_X1_hasPasses 20 = .ok (.ifCond .ne 7, 3) := by decide +kernel
theorem dn_X1_hasPasses_23 : decode cn_X1_hasPasses 23 = .ok (.iconst 1, 1) := by decide +kernel
theorem dn_X1_hasPasses_24 : decode cn_X1_hasPasses 24 = .ok (.goto 4, 3) := by decide +kernel
theorem dn_X1_hasPasses_27 : decode cn_X1_hasPasses 27 = .ok (.iconst 0, 1) := by decide +kernel
theorem dn_X1_hasPasses_28 : decode cn_X1_hasPasses 28 = .ok (.ireturn, 1) := by decide +kernel
theorem dn_X1_addBar_0 : decode cn_X1_addBar 0 = .ok (.aload_n 0, 1) := by decide +kernel
theorem dn_X1_addBar_1 : decode cn_X1_addBar 1 = .ok (.getfield 9, 3) := by decide +kernel
theorem dn_X1_addBar_4 : decode cn_X1_addBar 4 = .ok (.aload_n 0, 1) := by decide +kernel
theorem dn_X1_addBar_5 : decode cn_X1_addBar 5 = .ok (.getfield 64, 3) := by decide +kernel
theorem dn_X1_addBar_8 : decode cn_X1_addBar 8 = .ok (.iload_n 1, 1) := by decide +kernel
theorem dn_X1_addBar_9 : decode cn_X1_addBar 9 = .ok (.iastore, 1) := by decide +kernel
theorem dn_X1_addBar_10 : decode cn_X1_addBar 10 = .ok (.aload_n 0, 1) := by decide +kernel
theorem dn_X1_addBar_11 : decode cn_X1_addBar 11 = .ok (.dup, 1) := by decide +kernel
theorem dn_X1_addBar_12 : decode cn_X1_addBar 12 = .ok (.getfield 64, 3) := by decide +kernel
theorem dn_X1_addBar_15 : decode cn_X1_addBar 15 = .ok (.dup_x1, 1) := by decide +kernel
theorem dn_X1_addBar_16 : decode cn_X1_addBar 16 = .ok (.iconst 1, 1) := by decide +kernel
theorem dn_X1_addBar_17 : decode cn_X1_addBar 17 = .ok (.iadd, 1) := by decide +kernel
theorem dn_X1_addBar_18 : decode cn_X1_addBar 18 = .ok (.putfield 64, 3) := by decide +kernel
theorem dn_X1_addBar_21 : decode cn_X1_addBar 21 = .ok (.ireturn, 1) := by decide +kernel
theorem dn_X1_liesWithin_0 : decode cn_X1_liesWithin 0 = .ok (.iload_n 2, 1) := by decide +kernel
theorem dn_X1_liesWithin_1 : decode cn_X1_liesWithin 1 = .ok (.iload_n 0, 1) := by decide +kernel
theorem dn_X1_liesWithin_2 : decode cn_X1_liesWithin 2 = .ok (.if_icmp .gt 12, 3) := by decide +kernel
theorem dn_X1_liesWithin_5 : decode cn_X1_liesWithin 5 = .ok (.iload_n 1, 1) := by decide +kernel
theorem dn_X1_liesWithin_6 : decode cn_X1_liesWithin 6 = .ok (.iload_n 3, 1) := by decide +kernel
theorem dn_X1_liesWithin_7 : decode cn_X1_liesWithin 7 = .ok (.if_icmp .gt 7, 3) := by decide +kernel
theorem dn_X1_liesWithin_10 : decode cn_X1_liesWithin 10 = .ok (.iconst 1, 1) := by decide +kernel
theorem dn_X1_liesWithin_11 : decode cn_X1_liesWithin 11 = .ok (.goto 4, 3) := by decide +kernel
theorem dn_X1_liesWithin_14 : decode cn_X1_liesWithin 14 = .ok (.iconst 0, 1) := by decide +kernel
theorem dn_X1_liesWithin_15 : decode cn_X1_liesWithin 15 = .ok (.ireturn, 1) := by decide +kernel
theorem dn_X1_liesWell_0 : decode cn_X1_liesWell 0 = .ok (.iload_n 1, 1) := by decide +kernel
theorem dn_X1_liesWell_1 : decode cn_X1_liesWell 1 = .ok (.iload_n 2, 1) := by decide +kernel
theorem dn_X1_liesWell_2 : decode cn_X1_liesWell 2 = .ok (.if_icmp .lt 28, 3) := by decide +kernel
theorem dn_X1_liesWell_5 : decode cn_X1_liesWell 5 = .ok (.iload_n 3, 1) := by decide +kernel
theorem dn_X1_liesWell_6 : decode cn_X1_liesWell 6 = .ok (.iload_n 0, 1) := by decide +kernel
theorem dn_X1_liesWell_7 : decode cn_X1_liesWell 7 = .ok (.if_icmp .lt 23, 3) := by decide +kernel
theorem dn_X1_liesWell_10 : decode cn_X1_liesWell 10 = .ok (.iload_n 0, 1) := by decide +kernel
theorem dn_X1_liesWell_11 : decode cn_X1_liesWell 11 = .ok (.iload_n 1, 1) := by decide +kernel
theorem dn_X1_liesWell_12 : decode cn_X1_liesWell 12 = .ok (.iload_n 2, 1) := by decide +kernel
theorem dn_X1_liesWell_13 : decode cn_X1_liesWell 13 = .ok (.iload_n 3, 1) := by decide +kernel
theorem dn_X1_liesWell_14 : decode cn_X1_liesWell 14 = .ok (.invokestatic 71, 3) := by decide +kernel
theorem dn_X1_liesWell_17 : decode cn_X1_liesWell 17 = .ok (.ifCond .ne 13, 3) := by decide +kernel
theorem dn_X1_liesWell_20 : decode cn_X1_liesWell 20 = .ok (.iload_n 2, 1) := by decide +kernel
theorem dn_X1_liesWell_21 : decode cn_X1_liesWell 21 = .ok (.iload_n 3, 1) := by decide +kernel
theorem dn_X1_liesWell_22 : decode cn_X1_liesWell 22 = .ok (.iload_n 0, 1) := by decide +kernel
theorem dn_X1_liesWell_23 : decode cn_X1_liesWell 23 = .ok (.iload_n 1, 1) := by decide +kernel
theorem dn_X1_liesWell_24 : decode cn_X1_liesWell 24 = .ok (.invokestatic 71, 3) := by decide +kernel
theorem dn_X1_liesWell_27 : decode cn_X1_liesWell 27 = .ok (.ifCond .eq 7, 3) := by decide +kernel
theorem dn_X1_liesWell_30 : decode cn_X1_liesWell 30 = .ok (.iconst 1, 1) := by decide +kernel
theorem dn_X1_liesWell_31 : decode cn_X1_liesWell 31 = .ok (.goto 4, 3) := by decide +kernel
theorem dn_X1_liesWell_34 : decode cn_X1_liesWell 34 = .ok (.iconst 0, 1) := by decide +kernel
theorem dn_X1_liesWell_35 : decode cn_X1_liesWell 35 = .ok (.ireturn, 1) := by decide +kernel
theorem dn_X1_takesRepeat_0 : decode cn_X1_takesRepeat 0 = .ok (.aload_n 0, 1) := by decide +kernel
theorem dn_X1_takesRepeat_1 : decode cn_X1_takesRepeat 1 = .ok (.getfield 68, 3) := by decide +kernel
theorem dn_X1_takesRepeat_4 : decode cn_X1_takesRepeat 4 = .ok (.bipush 20, 2) := by decide +kernel
theorem dn_X1_takesRepeat_6 : decode cn_X1_takesRepeat 6 = .ok (.if_icmp .ge 43, 3) := by decide +kernel
theorem dn_X1_takesRepeat_9 : decode cn_X1_takesRepeat 9 = .ok (.aload_n 0, 1) := by decide +kernel
theorem dn_X1_takesRepeat_10 : decode cn_X1_takesRepeat 10 = .ok (.iload_n 1, 1) := by decide +kernel
theorem dn_X1_takesRepeat_11 : decode cn_X1_takesRepeat 11 = .ok (.iload_n 2, 1) := by decide +kernel
theorem dn_X1_takesRepeat_12 : decode cn_X1_takesRepeat 12 = .ok (.invokevirtual 75, 3) := by decide +kernel
theorem dn_X1_takesRepeat_15 : decode cn_X1_takesRepeat 15 = .ok (.ifCond .eq 34, 3) := by decide +kernel
theorem dn_X1_takesRepeat_18 : decode cn_X1_takesRepeat 18 = .ok (.aload_n 0, 1) := by decide +kernel
theorem dn_X1_takesRepeat_19 : decode cn_X1_takesRepeat 19 = .ok (.iload_n 1, 1) := by decide +kernel
theorem dn_X1_takesRepeat_20 : decode cn_X1_takesRepeat 20 = .ok (.iload_n 2, 1) := by decide +kernel
theorem dn_X1_takesRepeat_21 : decode cn_X1_takesRepeat 21 = .ok (.invokevirtual 79, 3) := by decide +kernel
theorem dn_X1_takesRepeat_24 : decode cn_X1_takesRepeat 24 = .ok (.ifCond .ne 25, 3) := by decide +kernel
theorem dn_X1_takesRepeat_27 : decode cn_X1_takesRepeat 27 = .ok (.aload_n 0, 1) := by decide +kernel
theorem dn_X1_takesRepeat_28 : decode cn_X1_takesRepeat 28 = .ok (.iload_n 1, 1) := by decide +kernel
theorem dn_X1_takesRepeat_29 : decode cn_X1_takesRepeat 29 = .ok (.iload_n 2, 1) := by decide +kernel
theorem dn_X1_takesRepeat_30 : decode cn_X1_takesRepeat 30 = .ok (.invokevirtual 82, 3) := by decide +kernel
theorem dn_X1_takesRepeat_33 : decode cn_X1_takesRepeat 33 = .ok (.ifCond .eq 16, 3) := by decide +kernel
theorem dn_X1_takesRepeat_36 : decode cn_X1_takesRepeat 36 = .ok (.aload_n 0, 1) := by decide +kernel
theorem dn_X1_takesRepeat_37 : decode cn_X1_takesRepeat 37 = .ok (.iload_n 1, 1) := by decide +kernel
theorem dn_X1_takesRepeat_38 : decode cn_X1_takesRepeat 38 = .ok (.iload_n 2, 1) := by decide +kernel
theorem dn_X1_takesRepeat_39 : decode cn_X1_takesRepeat 39 = .ok (.invokevirtual 85, 3) := by decide +kernel
theorem dn_X1_takesRepeat_42 : decode cn_X1_takesRepeat 42 = .ok (.ifCond .eq 7, 3) := by decide +kernel
theorem dn_X1_takesRepeat_45 : decode cn_X1_takesRepeat 45 = .ok (.iconst 1, 1) := by decide +kernel
theorem dn_X1_takesRepeat_46 : decode cn_X1_takesRepeat 46 = .ok (.goto 4, 3) := by decide +kernel
theorem dn_X1_takesRepeat_49 : decode cn_X1_takesRepeat 49 = .ok (.iconst 0, 1) := by decide +kernel
theorem dn_X1_takesRepeat_50 : decode cn_X1_takesRepeat 50 = .ok (.ireturn, 1) := by decide +kernel
theorem dn_X1_takesEnding_0 : decode cn_X1_takesEnding 0 = .ok (.aload_n 0, 1) := by decide +kernel
theorem dn_X1_takesEnding_1 : decode cn_X1_takesEnding 1 = .ok (.getfield 88, 3) := by decide +kernel
theorem dn_X1_takesEnding_4 : decode cn_X1_takesEnding 4 = .ok (.bipush 20, 2) := by decide +kernel
theorem dn_X1_takesEnding_6 : decode cn_X1_takesEnding 6 = .ok (.if_icmp .ge 45, 3) := by decide +kernel
theorem dn_X1_takesEnding_9 : decode cn_X1_takesEnding 9 = .ok (.iload_n 2, 1) := by decide +kernel
theorem dn_X1_takesEnding_10 : decode cn_X1_takesEnding 10 = .ok (.iload_n 3, 1) := by decide +kernel
theorem dn_X1_takesEnding_11 : decode cn_X1_takesEnding 11 = .ok (.aload_n 0, 1) := by decide +kernel
theorem dn_X1_takesEnding_12 : decode cn_X1_takesEnding 12 = .ok (.getfield 15, 3) := by decide +kernel
theorem dn_X1_takesEnding_15 : decode cn_X1_takesEnding 15 = .ok (.iload_n 1, 1) := by decide +kernel
theorem dn_X1_takesEnding_16 : decode cn_X1_takesEnding 16 = .ok (.iaload, 1) := by decide +kernel
theorem dn_X1_takesEnding_17 : decode cn_X1_takesEnding 17 = .ok (.aload_n 0, 1) := by decide +kernel
theorem dn_X1_takesEnding_18 : decode cn_X1_takesEnding 18 = .ok (.getfield 18, 3) := by decide +kernel
theorem dn_X1_takesEnding_21 : decode cn_X1_takesEnding 21 = .ok (.iload_n 1, 1) := by decide +kernel
theorem dn_X1_takesEnding_22 : decode cn_X1_takesEnding 22 = .ok (.iaload, 1) := by decide +kernel
theorem dn_X1_takesEnding_23 : decode cn_X1_takesEnding 23 = .ok (.invokestatic 71, 3) := by decide +kernel
theorem dn_X1_takesEnding_26 : decode cn_X1_takesEnding 26 = .ok (.ifCond .eq 25, 3) := by decide +kernel
theorem dn_X1_takesEnding_29 : decode cn_X1_takesEnding 29 = .ok (.aload_n 0, 1) := by decide +kernel
theorem dn_X1_takesEnding_30 : decode cn_X1_takesEnding 30 = .ok (.iload_n 2, 1) := by decide +kernel
theorem dn_X1_takesEnding_31 : decode cn_X1_takesEnding 31 = .ok (.iload_n 3, 1) := by decide +kernel
theorem dn_X1_takesEnding_32 : decode cn_X1_takesEnding 32 = .ok (.invokevirtual 75, 3) := by decide +kernel
theorem dn_X1_takesEnding_35 : decode cn_X1_takesEnding 35 = .ok (.ifCond .eq 16, 3) := by decide +kernel
theorem dn_X1_takesEnding_38 : decode cn_X1_takesEnding 38 = .ok (.aload_n 0, 1) := by decide +kernel
theorem dn_X1_takesEnding_39 : decode cn_X1_takesEnding 39 = .ok (.iload_n 2, 1) := by decide +kernel
theorem dn_X1_takesEnding_40 : decode cn_X1_takesEnding 40 = .ok (.iload_n 3, 1) := by decide +kernel
theorem dn_X1_takesEnding_41 : decode cn_X1_takesEnding 41 = .ok (.invokevirtual 91, 3) := by decide +kernel
theorem dn_X1_takesEnding_44 : decode cn_X1_takesEnding 44 = .ok (.ifCond .eq 7, 3) := by decide +kernel
theorem dn_X1_takesEnding_47 : decode cn_X1_takesEnding 47 = .ok (.iconst 1, 1) := by decide +kernel
theorem dn_X1_takesEnding_48 : decode cn_X1_takesEnding 48 = .ok (.goto 4, 3) := by decide +kernel
theorem dn_X1_takesEnding_51 : decode cn_X1_takesEnding 51 = .ok (.iconst 0, 1) := by decide +kernel
theorem dn_X1_takesEnding_52 : decode cn_X1_takesEnding 52 = .ok (.ireturn, 1) := by decide +kernel
theorem dn_X1_liesWellByRepeats_0 : decode cn_X1_liesWellByRepeats 0 = .ok (.iconst 0, 1) := by decide +kernel
theorem dn_X1_liesWellByRepeats_1 : decode cn_X1_liesWellByRepeats 1 = .ok (.istore_n 3, 1) := by decide +kernel
theorem dn_X1_liesWellByRepeats_2 : decode cn_X1_liesWellByRepeats 2 = .ok (.iload_n 3, 1) := by decide +kernel
theorem dn_X1_liesWellByRepeats_3 : decode cn_X1_liesWellByRepeats 3 = .ok (.aload_n 0, 1) := by decide +kernel
theorem dn_X1_liesWellByRepeats_4 : decode cn_X1_liesWellByRepeats 4 = .ok (.getfield 68, 3) := by decide +kernel
theorem dn_X1_liesWellByRepeats_7 : decode cn_X1_liesWellByRepeats 7 = .ok (.if_icmp .ge 31, 3) := by decide +kernel
theorem dn_X1_liesWellByRepeats_10 : decode cn_X1_liesWellByRepeats 10 = .ok (.iload_n 1, 1) := by decide +kernel
theorem dn_X1_liesWellByRepeats_11 : decode cn_X1_liesWellByRepeats 11 = .ok (.iload_n 2, 1) := by decide +kernel
theorem dn_X1_liesWellByRepeats_12 : decode cn_X1_liesWellByRepeats 12 = .ok (.aload_n 0, 1) := by decide +kernel
theorem dn_X1_liesWellByRepeats_13 : decode cn_X1_liesWellByRepeats 13 = .ok (.getfield 15, 3) := by decide +kernel
theorem dn_X1_liesWellByRepeats_16 : decode cn_X1_liesWellByRepeats 16 = .ok (.iload_n 3, 1) := by decide +kernel
theorem dn_X1_liesWellByRepeats_17 : decode cn_X1_liesWellByRepeats 17 = .ok (.iaload, 1) := by decide +kernel
theorem dn_X1_liesWellByRepeats_18 : decode cn_X1_liesWellByRepeats 18 = .ok (.aload_n 0, 1) := by decide +kernel
theorem dn_X1_liesWellByRepeats_19 : decode cn_X1_liesWellByRepeats 19 = .ok (.getfield 18, 3) := by decide +kernel
theorem dn_X1_liesWellByRepeats_22 : decode cn_X1_liesWellByRepeats 22 = .ok (.iload_n 3, 1) := by decide +kernel
theorem dn_X1_liesWellByRepeats_23 : decode cn_X1_liesWellByRepeats 23 = .ok (.iaload, 1) := by decide +kernel
theorem dn_X1_liesWellByRepeats_24 : decode cn_X1_liesWellByRepeats 24 = .ok (.invokestatic 94, 3) := by decide +kernel
theorem dn_X1_liesWellByRepeats_27 : decode cn_X1_liesWellByRepeats 27 = .ok (.ifCond .ne 5, 3) := by decide +kernel
theorem dn_X1_liesWellByRepeats_30 : decode cn_X1_liesWellByRepeats 30 = .ok (.iconst 0, 1) := by decide +kernel
theorem dn_X1_liesWellByRepeats_31 : decode cn_X1_liesWellByRepeats 31 = .ok (.ireturn, 1) := by decide +kernel
theorem dn_X1_liesWellByRepeats_32 : decode cn_X1_liesWellByRepeats 32 = .ok (.iinc 3 1, 3) := by decide +kernel
theorem dn_X1_liesWellByRepeats_35 : decode cn_X1_liesWellByRepeats 35 = .ok (.goto (-33), 3) := by decide +kernel
theorem dn_X1_liesWellByRepeats_38 : decode cn_X1_liesWellByRepeats 38 = .ok (.iconst 1, 1) := by decide +kernel
theorem dn_X1_liesWellByRepeats_39 : decode cn_X1_liesWellByRepeats 39 = .ok (.ireturn, 1) := by decide +kernel
theorem dn_X1_hasSameRepeat_0 : decode cn_X1_hasSameRepeat 0 = .ok (.iconst 0, 1) := by decide +kernel
theorem dn_X1_hasSameRepeat_1 : decode cn_X1_hasSameRepeat 1 = .ok (.istore_n 3, 1) := by decide +kernel
theorem dn_X1_hasSameRepeat_2 : decode cn_X1_hasSameRepeat 2 = .ok (.iload_n 3, 1) := by decide +kernel
theorem dn_X1_hasSameRepeat_3 : decode cn_X1_hasSameRepeat 3 = .ok (.aload_n 0, 1) := by decide +kernel
theorem dn_X1_hasSameRepeat_4 : decode cn_X1_hasSameRepeat 4 = .ok (.getfield 68, 3) := by decide +kernel
theorem dn_X1_hasSameRepeat_7 : decode cn_X1_hasSameRepeat 7 = .ok (.if_icmp .ge 31, 3) := by decide +kernel
theorem dn_X1_hasSameRepeat_10 : decode cn_X1_hasSameRepeat 10 = .ok (.aload_n 0, 1) := by decide +kernel
theorem dn_X1_hasSameRepeat_11 : decode cn_X1_hasSameRepeat 11 = .ok (.getfield 15, 3) := by decide +kernel
theorem dn_X1_hasSameRepeat_14 : decode cn_X1_hasSameRepeat 14 = .ok (.iload_n 3, 1) := by decide +kernel
theorem dn_X1_hasSameRepeat_15 : decode cn_X1_hasSameRepeat 15 = .ok (.iaload, 1) := by decide +kernel
theorem dn_X1_hasSameRepeat_16 : decode cn_X1_hasSameRepeat 16 = .ok (.iload_n 1, 1) := by decide +kernel
theorem dn_X1_hasSameRepeat_17 : decode cn_X1_hasSameRepeat 17 = .ok (.if_icmp .ne 15, 3) := by decide +kernel
theorem dn_X1_hasSameRepeat_20 : decode cn_X1_hasSameRepeat 20 = .ok (.aload_n 0, 1) := by decide +kernel
theorem dn_X1_hasSameRepeat_21 : decode cn_X1_hasSameRepeat 21 = .ok (.getfield 18, 3) := by decide +kernel
theorem dn_X1_hasSameRepeat_24 : decode cn_X1_hasSameRepeat 24 = .ok (.iload_n 3, 1) := by decide +kernel
theorem dn_X1_hasSameRepeat_25 : decode cn_X1_hasSameRepeat 25 = .ok (.iaload, 1) := by decide +kernel
theorem dn_X1_hasSameRepeat_26 : decode cn_X1_hasSameRepeat 26 = .ok (.iload_n 2, 1) := by decide +kernel
theorem dn_X1_hasSameRepeat_27 : decode cn_X1_hasSameRepeat 27 = .ok (.if_icmp .ne 5, 3) := by decide +kernel
theorem dn_X1_hasSameRepeat_30 : decode cn_X1_hasSameRepeat 30 = .ok (.iconst 1, 1) := by decide +kernel
theorem dn_X1_hasSameRepeat_31 : decode cn_X1_hasSameRepeat 31 = .ok (.ireturn, 1) := by decide +kernel
theorem dn_X1_hasSameRepeat_32 : decode cn_X1_hasSameRepeat 32 = .ok (.iinc 3 1, 3) := by decide +kernel
theorem dn_X1_hasSameRepeat_35 : decode cn_X1_hasSameRepeat 35 = .ok (.goto (-33), 3) := by decide +kernel
theorem dn_X1_hasSameRepeat_38 : decode cn_X1_hasSameRepeat 38 = .ok (.iconst 0, 1) := by decide +kernel
theorem dn_X1_hasSameRepeat_39 : decode cn_X1_hasSameRepeat 39 = .ok (.ireturn, 1) := by decide +kernel
theorem dn_X1_liesWellByEndings_0 : decode cn_X1_liesWellByEndings 0 = .ok (.iconst 0, 1) := by decide +kernel
theorem dn_X1_liesWellByEndings_1 : decode cn_X1_liesWellByEndings 1 = .ok (.istore_n 3, 1) := by decide +kernel
theorem dn_X1_liesWellByEndings_2 : decode cn_X1_liesWellByEndings 2 = .ok (.iload_n 3, 1) := by decide +kernel
theorem dn_X1_liesWellByEndings_3 : decode cn_X1_liesWellByEndings 3 = .ok (.aload_n 0, 1) := by decide +kernel
theorem dn_X1_liesWellByEndings_4 : decode cn_X1_liesWellByEndings 4 = .ok (.getfield 88, 3) := by decide +kernel
theorem dn_X1_liesWellByEndings_7 : decode cn_X1_liesWellByEndings 7 = .ok (.if_icmp .ge 31, 3) := by decide +kernel
theorem dn_X1_liesWellByEndings_10 : decode cn_X1_liesWellByEndings 10 = .ok (.iload_n 1, 1) := by decide +kernel
theorem dn_X1_liesWellByEndings_11 : decode cn_X1_liesWellByEndings 11 = .ok (.iload_n 2, 1) := by decide +kernel
theorem dn_X1_liesWellByEndings_12 : decode cn_X1_liesWellByEndings 12 = .ok (.aload_n 0, 1) := by decide +kernel
theorem dn_X1_liesWellByEndings_13 : decode cn_X1_liesWellByEndings 13 = .ok (.getfield 27, 3) := by decide +kernel
theorem dn_X1_liesWellByEndings_16 : decode cn_X1_liesWellByEndings 16 = .ok (.iload_n 3, 1) := by decide +kernel
theorem dn_X1_liesWellByEndings_17 : decode cn_X1_liesWellByEndings 17 = .ok (.iaload, 1) := by decide +kernel
theorem dn_X1_liesWellByEndings_18 : decode cn_X1_liesWellByEndings 18 = .ok (.aload_n 0, 1) := by decide +kernel
theorem dn_X1_liesWellByEndings_19 : decode cn_X1_liesWellByEndings 19 = .ok (.getfield 30, 3) := by decide +kernel
theorem dn_X1_liesWellByEndings_22 : decode cn_X1_liesWellByEndings 22 = .ok (.iload_n 3, 1) := by decide +kernel
theorem dn_X1_liesWellByEndings_23 : decode cn_X1_liesWellByEndings 23 = .ok (.iaload, 1) := by decide +kernel
theorem dn_X1_liesWellByEndings_24 : decode cn_X1_liesWellByEndings 24 = .ok (.invokestatic 94, 3) := by decide +kernel
theorem dn_X1_liesWellByEndings_27 : decode cn_X1_liesWellByEndings 27 = .ok (.ifCond .ne 5, 3) := by decide +kernel
theorem dn_X1_liesWellByEndings_30 : decode cn_X1_liesWellByEndings 30 = .ok (.iconst 0, 1) := by decide +kernel
theorem dn_X1_liesWellByEndings_31 : decode cn_X1_liesWellByEndings 31 = .ok (.ireturn, 1) := by decide +kernel
theorem dn_X1_liesWellByEndings_32 : decode cn_X1_liesWellByEndings 32 = .ok (.iinc 3 1, 3) := by decide +kernel
theorem dn_X1_liesWellByEndings_35 : decode cn_X1_liesWellByEndings 35 = .ok (.goto (-33), 3) := by decide +kernel
theorem dn_X1_liesWellByEndings_38 : decode cn_X1_liesWellByEndings 38 = .ok (.iconst 1, 1) := by decide +kernel
theorem dn_X1_liesWellByEndings_39 : decode cn_X1_liesWellByEndings 39 = .ok (.ireturn, 1) := by decide +kernel
theorem dn_X1_isApartFromEndings_0 : decode cn_X1_isApartFromEndings 0 = .ok (.iconst 0, 1) := by decide +kernel
theorem dn_X1_isApartFromEndings_1 : decode cn_X1_isApartFromEndings 1 = .ok (.istore_n 3, 1) := by decide +kernel
theorem dn_X1_isApartFromEndings_2 : decode cn_X1_isApartFromEndings 2 = .ok (.iload_n 3, 1) := by decide +kernel
theorem dn_X1_isApartFromEndings_3 : decode cn_X1_isApartFromEndings 3 = .ok (.aload_n 0, 1) := by decide +kernel
theorem dn_X1_isApartFromEndings_4 : decode cn_X1_isApartFromEndings 4 = .ok (.getfield 88, 3) := by decide +kernel
theorem dn_X1_isApartFromEndings_7 : decode cn_X1_isApartFromEndings 7 = .ok (.if_icmp .ge 31, 3) := by decide +kernel
theorem dn_X1_isApartFromEndings_10 : decode cn_X1_isApartFromEndings 10 = .ok (.iload_n 1, 1) := by decide +kernel
theorem dn_X1_isApartFromEndings_11 : decode cn_X1_isApartFromEndings 11 = .ok (.aload_n 0, 1) := by decide +kernel
theorem dn_X1_isApartFromEndings_12 : decode cn_X1_isApartFromEndings 12 = .ok (.getfield 30, 3) := by decide +kernel
theorem dn_X1_isApartFromEndings_15 : decode cn_X1_isApartFromEndings 15 = .ok (.iload_n 3, 1) := by decide +kernel
theorem dn_X1_isApartFromEndings_16 : decode cn_X1_isApartFromEndings 16 = .ok (.iaload, 1) := by decide +kernel
theorem dn_X1_isApartFromEndings_17 : decode cn_X1_isApartFromEndings 17 = .ok (.if_icmp .gt 15, 3) := by decide +kernel
theorem dn_X1_isApartFromEndings_20 : decode cn_X1_isApartFromEndings 20 = .ok (.aload_n 0, 1) := by decide +kernel
theorem dn_X1_isApartFromEndings_21 : decode cn_X1_isApartFromEndings 21 = .ok (.getfield 27, 3) := by decide +kernel
theorem dn_X1_isApartFromEndings_24 : decode cn_X1_isApartFromEndings 24 = .ok (.iload_n 3, 1) := by decide +kernel
theorem dn_X1_isApartFromEndings_25 : decode cn_X1_isApartFromEndings 25 = .ok (.iaload, 1) := by decide +kernel
theorem dn_X1_isApartFromEndings_26 : decode cn_X1_isApartFromEndings 26 = .ok (.iload_n 2, 1) := by decide +kernel
theorem dn_X1_isApartFromEndings_27 : decode cn_X1_isApartFromEndings 27 = .ok (.if_icmp .gt 5, 3) := by decide +kernel
theorem dn_X1_isApartFromEndings_30 : decode cn_X1_isApartFromEndings 30 = .ok (.iconst 0, 1) := by decide +kernel
theorem dn_X1_isApartFromEndings_31 : decode cn_X1_isApartFromEndings 31 = .ok (.ireturn, 1) := by decide +kernel
theorem dn_X1_isApartFromEndings_32 : decode cn_X1_isApartFromEndings 32 = .ok (.iinc 3 1, 3) := by decide +kernel
theorem dn_X1_isApartFromEndings_35 : decode cn_X1_isApartFromEndings 35 = .ok (.goto (-33), 3) := by decide +kernel
theorem dn_X1_isApartFromEndings_38 : decode cn_X1_isApartFromEndings 38 = .ok (.iconst 1, 1) := by decide +kernel
theorem dn_X1_isApartFromEndings_39 : decode cn_X1_isApartFromEndings 39 = .ok (.ireturn, 1) := by decide +kernel
theorem dn_X1_isDepthLeft_0 : decode cn_X1_isDepthLeft 0 = .ok (.iload_n 1, 1) := by decide +kernel
theorem dn_X1_isDepthLeft_1 : decode cn_X1_isDepthLeft 1 = .ok (.istore_n 3, 1) := by decide +kernel
theorem dn_X1_isDepthLeft_2 : decode cn_X1_isDepthLeft 2 = .ok (.iload_n 3, 1) := by decide +kernel
theorem dn_X1_isDepthLeft_3 : decode cn_X1_isDepthLeft 3 = .ok (.iload_n 2, 1) := by decide +kernel
theorem dn_X1_isDepthLeft_4 : decode cn_X1_isDepthLeft 4 = .ok (.if_icmp .gt 21, 3) := by decide +kernel
theorem dn_X1_isDepthLeft_7 : decode cn_X1_isDepthLeft 7 = .ok (.aload_n 0, 1) := by decide +kernel
theorem dn_X1_isDepthLeft_8 : decode cn_X1_isDepthLeft 8 = .ok (.getfield 52, 3) := by decide +kernel
theorem dn_X1_isDepthLeft_11 : decode cn_X1_isDepthLeft 11 = .ok (.iload_n 3, 1) := by decide +kernel
theorem dn_X1_isDepthLeft_12 : decode cn_X1_isDepthLeft 12 = .ok (.iaload, 1) := by decide +kernel
theorem dn_X1_isDepthLeft_13 : decode cn_X1_isDepthLeft 13 = .ok (.iconst 3, 1) := by decide +kernel
theorem dn_X1_isDepthLeft_14 : decode cn_X1_isDepthLeft 14 = .ok (.if_icmp .lt 5, 3) := by decide +kernel
theorem dn_X1_isDepthLeft_17 : decode cn_X1_isDepthLeft 17 = .ok (.iconst 0, 1) := by decide +kernel
theorem dn_X1_isDepthLeft_18 : decode cn_X1_isDepthLeft 18 = .ok (.ireturn, 1) := by decide +kernel
theorem dn_X1_isDepthLeft_19 : decode cn_X1_isDepthLeft 19 = .ok (.iinc 3 1, 3) := by decide +kernel
theorem dn_X1_isDepthLeft_22 : decode cn_X1_isDepthLeft 22 = .ok (.goto (-20), 3) := by decide +kernel
theorem dn_X1_isDepthLeft_25 : decode cn_X1_isDepthLeft 25 = .ok (.iconst 1, 1) := by decide +kernel
theorem dn_X1_isDepthLeft_26 : decode cn_X1_isDepthLeft 26 = .ok (.ireturn, 1) := by decide +kernel
theorem dn_X1_addRepeat_0 : decode cn_X1_addRepeat 0 = .ok (.aload_n 0, 1) := by decide +kernel
theorem dn_X1_addRepeat_1 : decode cn_X1_addRepeat 1 = .ok (.getfield 15, 3) := by decide +kernel
theorem dn_X1_addRepeat_4 : decode cn_X1_addRepeat 4 = .ok (.aload_n 0, 1) := by decide +kernel
theorem dn_X1_addRepeat_5 : decode cn_X1_addRepeat 5 = .ok (.getfield 68, 3) := by decide +kernel
theorem dn_X1_addRepeat_8 : decode cn_X1_addRepeat 8 = .ok (.iload_n 1, 1) := by decide +kernel
theorem dn_X1_addRepeat_9 : decode cn_X1_addRepeat 9 = .ok (.iastore, 1) := by decide +kernel
theorem dn_X1_addRepeat_10 : decode cn_X1_addRepeat 10 = .ok (.aload_n 0, 1) := by decide +kernel
theorem dn_X1_addRepeat_11 : decode cn_X1_addRepeat 11 = .ok (.getfield 18, 3) := by decide +kernel
theorem dn_X1_addRepeat_14 : decode cn_X1_addRepeat 14 = .ok (.aload_n 0, 1) := by decide +kernel
theorem dn_X1_addRepeat_15 : decode cn_X1_addRepeat 15 = .ok (.getfield 68, 3) := by decide +kernel
theorem dn_X1_addRepeat_18 : decode cn_X1_addRepeat 18 = .ok (.iload_n 2, 1) := by decide +kernel
theorem dn_X1_addRepeat_19 : decode cn_X1_addRepeat 19 = .ok (.iastore, 1) := by decide +kernel
theorem dn_X1_addRepeat_20 : decode cn_X1_addRepeat 20 = .ok (.aload_n 0, 1) := by decide +kernel
theorem dn_X1_addRepeat_21 : decode cn_X1_addRepeat 21 = .ok (.getfield 21, 3) := by decide +kernel
theorem dn_X1_addRepeat_24 : decode cn_X1_addRepeat 24 = .ok (.aload_n 0, 1) := by decide +kernel
theorem dn_X1_addRepeat_25 : decode cn_X1_addRepeat 25 = .ok (.getfield 68, 3) := by decide +kernel
theorem dn_X1_addRepeat_28 : decode cn_X1_addRepeat 28 = .ok (.iload_n 3, 1) := by decide +kernel
theorem dn_X1_addRepeat_29 : decode cn_X1_addRepeat 29 = .ok (.iastore, 1) := by decide +kernel
theorem dn_X1_addRepeat_30 : decode cn_X1_addRepeat 30 = .ok (.iload_n 1, 1) := by decide +kernel
theorem dn_X1_addRepeat_31 : decode cn_X1_addRepeat 31 = .ok (.istore 4, 2) := by decide +kernel
theorem dn_X1_addRepeat_33 : decode cn_X1_addRepeat 33 = .ok (.iload 4, 2) := by decide +kernel
theorem dn_X1_addRepeat_35 : decode cn_X1_addRepeat 35 = .ok (.iload_n 2, 1) := by decide +kernel
theorem dn_X1_addRepeat_36 : decode cn_X1_addRepeat 36 = .ok (.if_icmp .gt 19, 3) := by decide +kernel
theorem dn_X1_addRepeat_39 : decode cn_X1_addRepeat 39 = .ok (.aload_n 0, 1) := by decide +kernel
theorem dn_X1_addRepeat_40 : decode cn_X1_addRepeat 40 = .ok (.iload 4, 2) := by decide +kernel
theorem dn_X1_addRepeat_42 : decode cn_X1_addRepeat 42 = .ok (.aload_n 0, 1) := by decide +kernel
theorem dn_X1_addRepeat_43 : decode cn_X1_addRepeat 43 = .ok (.getfield 68, 3) := by decide +kernel
theorem dn_X1_addRepeat_46 : decode cn_X1_addRepeat 46 = .ok (.invokevirtual 97, 3) := by decide +kernel
theorem dn_X1_addRepeat_49 : decode cn_X1_addRepeat 49 = .ok (.iinc 4 1, 3) := by decide +kernel
theorem dn_X1_addRepeat_52 : decode cn_X1_addRepeat 52 = .ok (.goto (-19), 3) := by decide +kernel
theorem dn_X1_addRepeat_55 : decode cn_X1_addRepeat 55 = .ok (.aload_n 0, 1) := by decide +kernel
theorem dn_X1_addRepeat_56 : decode cn_X1_addRepeat 56 = .ok (.dup, 1) := by decide +kernel
theorem dn_X1_addRepeat_57 : decode cn_X1_addRepeat 57 = .ok (.getfield 68, 3) := by decide +kernel
theorem dn_X1_addRepeat_60 : decode cn_X1_addRepeat 60 = .ok (.dup_x1, 1) := by decide +kernel
theorem dn_X1_addRepeat_61 : decode cn_X1_addRepeat 61 = .ok (.iconst 1, 1) := by decide +kernel
theorem dn_X1_addRepeat_62 : decode cn_X1_addRepeat 62 = .ok (.iadd, 1) := by decide +kernel
theorem dn_X1_addRepeat_63 : decode cn_X1_addRepeat 63 = .ok (.putfield 68, 3) := by decide +kernel
theorem dn_X1_addRepeat_66 : decode cn_X1_addRepeat 66 = .ok (.ireturn, 1) := by decide +kernel
theorem dn_X1_putAround_0 : decode cn_X1_putAround 0 = .ok (.iload_n 1, 1) := by decide +kernel
theorem dn_X1_putAround_1 : decode cn_X1_putAround 1 = .ok (.iconst 3, 1) := by decide +kernel
theorem dn_X1_putAround_2 : decode cn_X1_putAround 2 = .ok (.imul, 1) := by decide +kernel
theorem dn_X1_putAround_3 : decode cn_X1_putAround 3 = .ok (.istore_n 3, 1) := by decide +kernel
theorem dn_X1_putAround_4 : decode cn_X1_putAround 4 = .ok (.iload_n 3, 1) := by decide +kernel
theorem dn_X1_putAround_5 : decode cn_X1_putAround 5 = .ok (.aload_n 0, 1) := by decide +kernel
theorem dn_X1_putAround_6 : decode cn_X1_putAround 6 = .ok (.getfield 52, 3) := by decide +kernel
theorem dn_X1_putAround_9 : decode cn_X1_putAround 9 = .ok (.iload_n 1, 1) := by decide +kernel
theorem dn_X1_putAround_10 : decode cn_X1_putAround 10 = .ok (.iaload, 1) := by decide +kernel
theorem dn_X1_putAround_11 : decode cn_X1_putAround 11 = .ok (.iadd, 1) := by decide +kernel
theorem dn_X1_putAround_12 : decode cn_X1_putAround 12 = .ok (.istore 4, 2) := by decide +kernel
theorem dn_X1_putAround_14 : decode cn_X1_putAround 14 = .ok (.iload 4, 2) := by decide +kernel
theorem dn_X1_putAround_16 : decode cn_X1_putAround 16 = .ok (.iload_n 3, 1) := by decide +kernel
theorem dn_X1_putAround_17 : decode cn_X1_putAround 17 = .ok (.if_icmp .le 42, 3) := by decide +kernel
theorem dn_X1_putAround_20 : decode cn_X1_putAround 20 = .ok (.aload_n 0, 1) := by decide +kernel
theorem dn_X1_putAround_21 : decode cn_X1_putAround 21 = .ok (.aload_n 0, 1) := by decide +kernel
theorem dn_X1_putAround_22 : decode cn_X1_putAround 22 = .ok (.getfield 49, 3) := by decide +kernel
theorem dn_X1_putAround_25 : decode cn_X1_putAround 25 = .ok (.iload 4, 2) := by decide +kernel
theorem dn_X1_putAround_27 : decode cn_X1_putAround 27 = .ok (.iconst 1, 1) := by decide +kernel
theorem dn_X1_putAround_28 : decode cn_X1_putAround 28 = .ok (.isub, 1) := by decide +kernel
theorem dn_X1_putAround_29 : decode cn_X1_putAround 29 = .ok (.iaload, 1) := by decide +kernel
theorem dn_X1_putAround_30 : decode cn_X1_putAround 30 = .ok (.iload_n 2, 1) := by decide +kernel
theorem dn_X1_putAround_31 : decode cn_X1_putAround 31 = .ok (.invokevirtual 101, 3) := by decide +kernel
theorem dn_X1_putAround_34 : decode cn_X1_putAround 34 = .ok (.ifCond .eq 25, 3) := by decide +kernel
theorem dn_X1_putAround_37 : decode cn_X1_putAround 37 = .ok (.aload_n 0, 1) := by decide +kernel
theorem dn_X1_putAround_38 : decode cn_X1_putAround 38 = .ok (.getfield 49, 3) := by decide +kernel
theorem dn_X1_putAround_41 : decode cn_X1_putAround 41 = .ok (.iload 4, 2) := by decide +kernel
theorem dn_X1_putAround_43 : decode cn_X1_putAround 43 = .ok (.aload_n 0, 1) := by decide +kernel
theorem dn_X1_putAround_44 : decode cn_X1_putAround 44 = .ok (.getfield 49, 3) := by decide +kernel
theorem dn_X1_putAround_47 : decode cn_X1_putAround 47 = .ok (.iload 4, 2) := by decide +kernel
theorem dn_X1_putAround_49 : decode cn_X1_putAround 49 = .ok (.iconst 1, 1) := by decide +kernel
theorem dn_X1_putAround_50 : decode cn_X1_putAround 50 = .ok (.isub, 1) := by decide +kernel
theorem dn_X1_putAround_51 : decode cn_X1_putAround 51 = .ok (.iaload, 1) := by decide +kernel
theorem dn_X1_putAround_52 : decode cn_X1_putAround 52 = .ok (.iastore, 1) := by decide +kernel
theorem dn_X1_putAround_53 : decode cn_X1_putAround 53 = .ok (.iinc 4 (-1), 3) := by decide +kernel
theorem dn_X1_putAround_56 : decode cn_X1_putAround 56 = .ok (.goto (-42), 3) := by decide +kernel
theorem dn_X1_putAround_59 : decode cn_X1_putAround 59 = .ok (.aload_n 0, 1) := by decide +kernel
theorem dn_X1_putAround_60 : decode cn_X1_putAround 60 = .ok (.getfield 49, 3) := by decide +kernel
theorem dn_X1_putAround_63 : decode cn_X1_putAround 63 = .ok (.iload 4, 2) := by decide +kernel
theorem dn_X1_putAround_65 : decode cn_X1_putAround 65 = .ok (.iload_n 2, 1) := by decide +kernel
theorem dn_X1_putAround_66 : decode cn_X1_putAround 66 = .ok (.iastore, 1) := by decide +kernel
theorem dn_X1_putAround_67 : decode cn_X1_putAround 67 = .ok (.aload_n 0, 1) := by decide +kernel
theorem dn_X1_putAround_68 : decode cn_X1_putAround 68 = .ok (.getfield 52, 3) := by decide +kernel
theorem dn_X1_putAround_71 : decode cn_X1_putAround 71 = .ok (.iload_n 1, 1) := by decide +kernel
theorem dn_X1_putAround_72 : decode cn_X1_putAround 72 = .ok (.dup2, 1) := by decide +kernel
theorem dn_X1_putAround_73 : decode cn_X1_putAround 73 = .ok (.iaload, 1) := by decide +kernel
theorem dn_X1_putAround_74 : decode cn_X1_putAround 74 = .ok (.iconst 1, 1) := by decide +kernel
theorem dn_X1_putAround_75 : decode cn_X1_putAround 75 = .ok (.iadd, 1) := by decide +kernel
theorem dn_X1_putAround_76 : decode cn_X1_putAround 76 = .ok (.iastore, 1) := by decide +kernel
theorem dn_X1_putAround_77 : decode cn_X1_putAround 77 = .ok (.return_, 1) := by decide +kernel
theorem dn_X1_isRepeatWithin_0 : decode cn_X1_isRepeatWithin 0 = .ok (.aload_n 0, 1) := by decide +kernel
theorem dn_X1_isRepeatWithin_1 : decode cn_X1_isRepeatWithin 1 = .ok (.getfield 15, 3) := by decide +kernel
theorem dn_X1_isRepeatWithin_4 : decode cn_X1_isRepeatWithin 4 = .ok (.iload_n 1, 1) := by decide +kernel
theorem dn_X1_isRepeatWithin_5 : decode cn_X1_isRepeatWithin 5 = .ok (.iaload, 1) := by decide +kernel
theorem dn_X1_isRepeatWithin_6 : decode cn_X1_isRepeatWithin 6 = .ok (.aload_n 0, 1) := by decide +kernel
theorem dn_X1_isRepeatWithin_7 : decode cn_X1_isRepeatWithin 7 = .ok (.getfield 18, 3) := by decide +kernel
theorem dn_X1_isRepeatWithin_10 : decode cn_X1_isRepeatWithin 10 = .ok (.iload_n 1, 1) := by decide +kernel
theorem dn_X1_isRepeatWithin_11 : decode cn_X1_isRepeatWithin 11 = .ok (.iaload, 1) := by decide +kernel
theorem dn_X1_isRepeatWithin_12 : decode cn_X1_isRepeatWithin 12 = .ok (.aload_n 0, 1) := by decide +kernel
theorem dn_X1_isRepeatWithin_13 : decode cn_X1_isRepeatWithin 13 = .ok (.getfield 15, 3) := by decide +kernel
theorem dn_X1_isRepeatWithin_16 : decode cn_X1_isRepeatWithin 16 = .ok (.iload_n 2, 1) := by decide +kernel
theorem dn_X1_isRepeatWithin_17 : decode cn_X1_isRepeatWithin 17 = .ok (.iaload, 1) := by decide +kernel
theorem dn_X1_isRepeatWithin_18 : decode cn_X1_isRepeatWithin 18 = .ok (.aload_n 0, 1) := by decide +kernel
theorem dn_X1_isRepeatWithin_19 : decode cn_X1_isRepeatWithin 19 = .ok (.getfield 18, 3) := by decide +kernel
theorem dn_X1_isRepeatWithin_22 : decode cn_X1_isRepeatWithin 22 = .ok (.iload_n 2, 1) := by decide +kernel
theorem dn_X1_isRepeatWithin_23 : decode cn_X1_isRepeatWithin 23 = .ok (.iaload, 1) := by decide +kernel
theorem dn_X1_isRepeatWithin_24 : decode cn_X1_isRepeatWithin 24 = .ok (.invokestatic 71, 3) := by decide +kernel
theorem dn_X1_isRepeatWithin_27 : decode cn_X1_isRepeatWithin 27 = .ok (.ireturn, 1) := by decide +kernel
theorem dn_X1_isRepeatWithinEnding_0 : decode cn_X1_isRepeatWithinEnding 0 = .ok (.aload_n 0, 1) := by decide +kernel
theorem dn_X1_isRepeatWithinEnding_1 : decode cn_X1_isRepeatWithinEnding 1 = .ok (.getfield 15, 3) := by decide +kernel
theorem dn_X1_isRepeatWithinEnding_4 : decode cn_X1_isRepeatWithinEnding 4 = .ok (.iload_n 1, 1) := by decide +kernel
theorem dn_X1_isRepeatWithinEnding_5 : decode cn_X1_isRepeatWithinEnding 5 = .ok (.iaload, 1) := by decide +kernel
theorem dn_X1_isRepeatWithinEnding_6 : decode cn_X1_isRepeatWithinEnding 6 = .ok (.aload_n 0, 1) := by decide +kernel
theorem dn_X1_isRepeatWithinEnding_7 : decode cn_X1_isRepeatWithinEnding 7 = .ok (.getfield 18, 3) := by decide +kernel
theorem dn_X1_isRepeatWithinEnding_10 : decode cn_X1_isRepeatWithinEnding 10 = .ok (.iload_n 1, 1) := by decide +kernel
theorem dn_X1_isRepeatWithinEnding_11 : decode cn_X1_isRepeatWithinEnding 11 = .ok (.iaload, 1) := by decide +kernel
theorem dn_X1_isRepeatWithinEnding_12 : decode cn_X1_isRepeatWithinEnding 12 = .ok (.aload_n 0, 1) := by decide +kernel
theorem dn_X1_isRepeatWithinEnding_13 : decode cn_X1_isRepeatWithinEnding 13 = .ok (.getfield 27, 3) := by decide +kernel
theorem dn_X1_isRepeatWithinEnding_16 : decode cn_X1_isRepeatWithinEnding 16 = .ok (.iload_n 2, 1) := by decide +kernel
theorem dn_X1_isRepeatWithinEnding_17 : decode cn_X1_isRepeatWithinEnding 17 = .ok (.iaload, 1) := by decide +kernel
theorem dn_X1_isRepeatWithinEnding_18 : decode cn_X1_isRepeatWithinEnding 18 = .ok (.aload_n 0, 1) := by decide +kernel
theorem dn_X1_isRepeatWithinEnding_19 : decode cn_X1_isRepeatWithinEnding 19 = .ok (.getfield 30, 3) := by decide +kernel
theorem dn_X1_isRepeatWithinEnding_22 : decode cn_X1_isRepeatWithinEnding 22 = .ok (.iload_n 2, 1) := by decide +kernel
theorem dn_X1_isRepeatWithinEnding_23 : decode cn_X1_isRepeatWithinEnding 23 = .ok (.iaload, 1) := by decide +kernel
theorem dn_X1_isRepeatWithinEnding_24 : decode cn_X1_isRepeatWithinEnding 24 = .ok (.invokestatic 71, 3) := by decide +kernel
theorem dn_X1_isRepeatWithinEnding_27 : decode cn_X1_isRepeatWithinEnding 27 = .ok (.ireturn, 1) := by decide +kernel
theorem dn_X1_repeatAround_0 : decode cn_X1_repeatAround 0 = .ok (.aload_n 0, 1) := by decide +kernel
theorem dn_X1_repeatAround_1 : decode cn_X1_repeatAround 1 = .ok (.getfield 49, 3) := by decide +kernel
theorem dn_X1_repeatAround_4 : decode cn_X1_repeatAround 4 = .ok (.iload_n 1, 1) := by decide +kernel
theorem dn_X1_repeatAround_5 : decode cn_X1_repeatAround 5 = .ok (.iconst 3, 1) := by decide +kernel
theorem dn_X1_repeatAround_6 : decode cn_X1_repeatAround 6 = .ok (.imul, 1) := by decide +kernel
theorem dn_X1_repeatAround_7 : decode cn_X1_repeatAround 7 = .ok (.iload_n 2, 1) := by decide +kernel
theorem dn_X1_repeatAround_8 : decode cn_X1_repeatAround 8 = .ok (.iadd, 1) := by decide +kernel
theorem dn_X1_repeatAround_9 : decode cn_X1_repeatAround 9 = .ok (.iaload, 1) := by decide +kernel
theorem dn_X1_repeatAround_10 : decode cn_X1_repeatAround 10 = .ok (.ireturn, 1) := by decide +kernel
theorem dn_X1_addEnding_0 : decode cn_X1_addEnding 0 = .ok (.aload_n 0, 1) := by decide +kernel
theorem dn_X1_addEnding_1 : decode cn_X1_addEnding 1 = .ok (.getfield 24, 3) := by decide +kernel
theorem dn_X1_addEnding_4 : decode cn_X1_addEnding 4 = .ok (.aload_n 0, 1) := by decide +kernel
theorem dn_X1_addEnding_5 : decode cn_X1_addEnding 5 = .ok (.getfield 88, 3) := by decide +kernel
theorem dn_X1_addEnding_8 : decode cn_X1_addEnding 8 = .ok (.iload_n 1, 1) := by decide +kernel
theorem dn_X1_addEnding_9 : decode cn_X1_addEnding 9 = .ok (.iastore, 1) := by decide +kernel
theorem dn_X1_addEnding_10 : decode cn_X1_addEnding 10 = .ok (.aload_n 0, 1) := by decide +kernel
theorem dn_X1_addEnding_11 : decode cn_X1_addEnding 11 = .ok (.getfield 27, 3) := by decide +kernel
theorem dn_X1_addEnding_14 : decode cn_X1_addEnding 14 = .ok (.aload_n 0, 1) := by decide +kernel
theorem dn_X1_addEnding_15 : decode cn_X1_addEnding 15 = .ok (.getfield 88, 3) := by decide +kernel
theorem dn_X1_addEnding_18 : decode cn_X1_addEnding 18 = .ok (.iload_n 2, 1) := by decide +kernel
theorem dn_X1_addEnding_19 : decode cn_X1_addEnding 19 = .ok (.iastore, 1) := by decide +kernel
theorem dn_X1_addEnding_20 : decode cn_X1_addEnding 20 = .ok (.aload_n 0, 1) := by decide +kernel
theorem dn_X1_addEnding_21 : decode cn_X1_addEnding 21 = .ok (.getfield 30, 3) := by decide +kernel
theorem dn_X1_addEnding_24 : decode cn_X1_addEnding 24 = .ok (.aload_n 0, 1) := by decide +kernel
theorem dn_X1_addEnding_25 : decode cn_X1_addEnding 25 = .ok (.getfield 88, 3) := by decide +kernel
theorem dn_X1_addEnding_28 : decode cn_X1_addEnding 28 = .ok (.iload_n 3, 1) := by decide +kernel
theorem dn_X1_addEnding_29 : decode cn_X1_addEnding 29 = .ok (.iastore, 1) := by decide +kernel
theorem dn_X1_addEnding_30 : decode cn_X1_addEnding 30 = .ok (.aload_n 0, 1) := by decide +kernel
theorem dn_X1_addEnding_31 : decode cn_X1_addEnding 31 = .ok (.getfield 33, 3) := by decide +kernel
theorem dn_X1_addEnding_34 : decode cn_X1_addEnding 34 = .ok (.aload_n 0, 1) := by decide +kernel
theorem dn_X1_addEnding_35 : decode cn_X1_addEnding 35 = .ok (.getfield 88, 3) := by decide +kernel
theorem dn_X1_addEnding_38 : decode cn_X1_addEnding 38 = .ok (.iload 4, 2) := by decide +kernel
theorem dn_X1_addEnding_40 : decode cn_X1_addEnding 40 = .ok (.iastore, 1) := by decide +kernel
theorem dn_X1_addEnding_41 : decode cn_X1_addEnding 41 = .ok (.aload_n 0, 1) := by decide +kernel
theorem dn_X1_addEnding_42 : decode cn_X1_addEnding 42 = .ok (.getfield 55, 3) := by decide +kernel
theorem dn_X1_addEnding_45 : decode cn_X1_addEnding 45 = .ok (.iload_n 2, 1) := by decide +kernel
theorem dn_X1_addEnding_46 : decode cn_X1_addEnding 46 = .ok (.aload_n 0, 1) := by decide +kernel
theorem dn_X1_addEnding_47 : decode cn_X1_addEnding 47 = .ok (.getfield 88, 3) := by decide +kernel
theorem dn_X1_addEnding_50 : decode cn_X1_addEnding 50 = .ok (.iastore, 1) := by decide +kernel
theorem dn_X1_addEnding_51 : decode cn_X1_addEnding 51 = .ok (.aload_n 0, 1) := by decide +kernel
theorem dn_X1_addEnding_52 : decode cn_X1_addEnding 52 = .ok (.dup, 1) := by decide +kernel
theorem dn_X1_addEnding_53 : decode cn_X1_addEnding 53 = .ok (.getfield 88, 3) := by decide +kernel
theorem dn_X1_addEnding_56 : decode cn_X1_addEnding 56 = .ok (.dup_x1, 1) := by decide +kernel
theorem dn_X1_addEnding_57 : decode cn_X1_addEnding 57 = .ok (.iconst 1, 1) := by decide +kernel
theorem dn_X1_addEnding_58 : decode cn_X1_addEnding 58 = .ok (.iadd, 1) := by decide +kernel
theorem dn_X1_addEnding_59 : decode cn_X1_addEnding 59 = .ok (.putfield 88, 3) := by decide +kernel
theorem dn_X1_addEnding_62 : decode cn_X1_addEnding 62 = .ok (.ireturn, 1) := by decide +kernel
theorem dn_X1_moveSign_0 : decode cn_X1_moveSign 0 = .ok (.aload_n 0, 1) := by decide +kernel
theorem dn_X1_moveSign_1 : decode cn_X1_moveSign 1 = .ok (.getfield 36, 3) := by decide +kernel
theorem dn_X1_moveSign_4 : decode cn_X1_moveSign 4 = .ok (.iload_n 1, 1) := by decide +kernel
theorem dn_X1_moveSign_5 : decode cn_X1_moveSign 5 = .ok (.iaload, 1) := by decide +kernel
theorem dn_X1_moveSign_6 : decode cn_X1_moveSign 6 = .ok (.istore_n 3, 1) := by decide +kernel
theorem dn_X1_moveSign_7 : decode cn_X1_moveSign 7 = .ok (.aload_n 0, 1) := by decide +kernel
theorem dn_X1_moveSign_8 : decode cn_X1_moveSign 8 = .ok (.getfield 36, 3) := by decide +kernel
theorem dn_X1_moveSign_11 : decode cn_X1_moveSign 11 = .ok (.iload_n 1, 1) := by decide +kernel
theorem dn_X1_moveSign_12 : decode cn_X1_moveSign 12 = .ok (.iload_n 2, 1) := by decide +kernel
theorem dn_X1_moveSign_13 : decode cn_X1_moveSign 13 = .ok (.iastore, 1) := by decide +kernel
theorem dn_X1_moveSign_14 : decode cn_X1_moveSign 14 = .ok (.iload_n 3, 1) := by decide +kernel
theorem dn_X1_moveSign_15 : decode cn_X1_moveSign 15 = .ok (.ireturn, 1) := by decide +kernel
theorem dn_X1_putJump_0 : decode cn_X1_putJump 0 = .ok (.aload_n 0, 1) := by decide +kernel
theorem dn_X1_putJump_1 : decode cn_X1_putJump 1 = .ok (.iload_n 1, 1) := by decide +kernel
theorem dn_X1_putJump_2 : decode cn_X1_putJump 2 = .ok (.invokevirtual 104, 3) := by decide +kernel
theorem dn_X1_putJump_5 : decode cn_X1_putJump 5 = .ok (.ifCond .ne 13, 3) := by decide +kernel
theorem dn_X1_putJump_8 : decode cn_X1_putJump 8 = .ok (.aload_n 0, 1) := by decide +kernel
theorem dn_X1_putJump_9 : decode cn_X1_putJump 9 = .ok (.dup, 1) := by decide +kernel
theorem dn_X1_putJump_10 : decode cn_X1_putJump 10 = .ok (.getfield 108, 3) := by decide +kernel
theorem dn_X1_putJump_13 : decode cn_X1_putJump 13 = .ok (.iconst 1, 1) := by decide +kernel
theorem dn_X1_putJump_14 : decode cn_X1_putJump 14 = .ok (.iadd, 1) := by decide +kernel
theorem dn_X1_putJump_15 : decode cn_X1_putJump 15 = .ok (.putfield 108, 3) := by decide +kernel
theorem dn_X1_putJump_18 : decode cn_X1_putJump 18 = .ok (.aload_n 0, 1) := by decide +kernel
theorem dn_X1_putJump_19 : decode cn_X1_putJump 19 = .ok (.getfield 39, 3) := by decide +kernel
theorem dn_X1_putJump_22 : decode cn_X1_putJump 22 = .ok (.iload_n 1, 1) := by decide +kernel
theorem dn_X1_putJump_23 : decode cn_X1_putJump 23 = .ok (.iload_n 2, 1) := by decide +kernel
theorem dn_X1_putJump_24 : decode cn_X1_putJump 24 = .ok (.iastore, 1) := by decide +kernel
theorem dn_X1_putJump_25 : decode cn_X1_putJump 25 = .ok (.aload_n 0, 1) := by decide +kernel
theorem dn_X1_putJump_26 : decode cn_X1_putJump 26 = .ok (.getfield 42, 3) := by decide +kernel
theorem dn_X1_putJump_29 : decode cn_X1_putJump 29 = .ok (.iload_n 1, 1) := by decide +kernel
theorem dn_X1_putJump_30 : decode cn_X1_putJump 30 = .ok (.iload_n 3, 1) := by decide +kernel
theorem dn_X1_putJump_31 : decode cn_X1_putJump 31 = .ok (.iastore, 1) := by decide +kernel
theorem dn_X1_putJump_32 : decode cn_X1_putJump 32 = .ok (.aload_n 0, 1) := by decide +kernel
theorem dn_X1_putJump_33 : decode cn_X1_putJump 33 = .ok (.getfield 45, 3) := by decide +kernel
theorem dn_X1_putJump_36 : decode cn_X1_putJump 36 = .ok (.iload_n 1, 1) := by decide +kernel
theorem dn_X1_putJump_37 : decode cn_X1_putJump 37 = .ok (.iload 4, 2) := by decide +kernel
theorem dn_X1_putJump_39 : decode cn_X1_putJump 39 = .ok (.bastore, 1) := by decide +kernel
theorem dn_X1_putJump_40 : decode cn_X1_putJump 40 = .ok (.return_, 1) := by decide +kernel
theorem dn_X1_takeJump_0 : decode cn_X1_takeJump 0 = .ok (.aload_n 0, 1) := by decide +kernel
theorem dn_X1_takeJump_1 : decode cn_X1_takeJump 1 = .ok (.getfield 39, 3) := by decide +kernel
theorem dn_X1_takeJump_4 : decode cn_X1_takeJump 4 = .ok (.iload_n 1, 1) := by decide +kernel
theorem dn_X1_takeJump_5 : decode cn_X1_takeJump 5 = .ok (.iconst (-1), 1) := by decide +kernel
theorem dn_X1_takeJump_6 : decode cn_X1_takeJump 6 = .ok (.iastore, 1) := by decide +kernel
theorem dn_X1_takeJump_7 : decode cn_X1_takeJump 7 = .ok (.aload_n 0, 1) := by decide +kernel
theorem dn_X1_takeJump_8 : decode cn_X1_takeJump 8 = .ok (.dup, 1) := by decide +kernel
theorem dn_X1_takeJump_9 : decode cn_X1_takeJump 9 = .ok (.getfield 108, 3) := by decide +kernel
theorem dn_X1_takeJump_12 : decode cn_X1_takeJump 12 = .ok (.iconst 1, 1) := by decide +kernel
theorem dn_X1_takeJump_13 : decode cn_X1_takeJump 13 = .ok (.isub, 1) := by decide +kernel
theorem dn_X1_takeJump_14 : decode cn_X1_takeJump 14 = .ok (.putfield 108, 3) := by decide +kernel
theorem dn_X1_takeJump_17 : decode cn_X1_takeJump 17 = .ok (.return_, 1) := by decide +kernel
theorem dn_X1_lacksSign_0 : decode cn_X1_lacksSign 0 = .ok (.aload_n 0, 1) := by decide +kernel
theorem dn_X1_lacksSign_1 : decode cn_X1_lacksSign 1 = .ok (.getfield 36, 3) := by decide +kernel
theorem dn_X1_lacksSign_4 : decode cn_X1_lacksSign 4 = .ok (.iload_n 1, 1) := by decide +kernel
theorem dn_X1_lacksSign_5 : decode cn_X1_lacksSign 5 = .ok (.iaload, 1) := by decide +kernel
theorem dn_X1_lacksSign_6 : decode cn_X1_lacksSign 6 = .ok (.iconst (-1), 1) := by decide +kernel
theorem dn_X1_lacksSign_7 : decode cn_X1_lacksSign 7 = .ok (.if_icmp .ne 7, 3) := by decide +kernel
theorem dn_X1_lacksSign_10 : decode cn_X1_lacksSign 10 = .ok (.iconst 1, 1) := by decide +kernel
theorem dn_X1_lacksSign_11 : decode cn_X1_lacksSign 11 = .ok (.goto 4, 3) := by decide +kernel
theorem dn_X1_lacksSign_14 : decode cn_X1_lacksSign 14 = .ok (.iconst 0, 1) := by decide +kernel
theorem dn_X1_lacksSign_15 : decode cn_X1_lacksSign 15 = .ok (.ireturn, 1) := by decide +kernel
theorem dn_X1_faultOfJump_0 : decode cn_X1_faultOfJump 0 = .ok (.aload_n 0, 1) := by decide +kernel
theorem dn_X1_faultOfJump_1 : decode cn_X1_faultOfJump 1 = .ok (.getfield 39, 3) := by decide +kernel
theorem dn_X1_faultOfJump_4 : decode cn_X1_faultOfJump 4 = .ok (.iload_n 1, 1) := by decide +kernel
theorem dn_X1_faultOfJump_5 : decode cn_X1_faultOfJump 5 = .ok (.iaload, 1) := by decide +kernel
theorem dn_X1_faultOfJump_6 : decode cn_X1_faultOfJump 6 = .ok (.iconst 1, 1) := by decide +kernel
theorem dn_X1_faultOfJump_7 : decode cn_X1_faultOfJump 7 = .ok (.if_icmp .ne 13, 3) := by decide +kernel
theorem dn_X1_faultOfJump_10 : decode cn_X1_faultOfJump 10 = .ok (.aload_n 0, 1) := by decide +kernel
theorem dn_X1_faultOfJump_11 : decode cn_X1_faultOfJump 11 = .ok (.iconst 0, 1) := by decide +kernel
theorem dn_X1_faultOfJump_12 : decode cn_X1_faultOfJump 12 = .ok (.invokevirtual 111, 3) := by decide +kernel
theorem dn_X1_faultOfJump_15 : decode cn_X1_faultOfJump 15 = .ok (.ifCond .eq 5, 3) := by decide +kernel
theorem dn_X1_faultOfJump_18 : decode cn_X1_faultOfJump 18 = .ok (.iconst 1, 1) := by decide +kernel
theorem dn_X1_faultOfJump_19 : decode cn_X1_faultOfJump 19 = .ok (.ireturn, 1) := by decide +kernel
theorem dn_X1_faultOfJump_20 : decode cn_X1_faultOfJump 20 = .ok (.aload_n 0, 1) := by decide +kernel
theorem dn_X1_faultOfJump_21 : decode cn_X1_faultOfJump 21 = .ok (.getfield 42, 3) := by decide +kernel
theorem dn_X1_faultOfJump_24 : decode cn_X1_faultOfJump 24 = .ok (.iload_n 1, 1) := by decide +kernel
theorem dn_X1_faultOfJump_25 : decode cn_X1_faultOfJump 25 = .ok (.iaload, 1) := by decide +kernel
theorem dn_X1_faultOfJump_26 : decode cn_X1_faultOfJump 26 = .ok (.iconst 1, 1) := by decide +kernel
theorem dn_X1_faultOfJump_27 : decode cn_X1_faultOfJump 27 = .ok (.if_icmp .ne 13, 3) := by decide +kernel
theorem dn_X1_faultOfJump_30 : decode cn_X1_faultOfJump 30 = .ok (.aload_n 0, 1) := by decide +kernel
theorem dn_X1_faultOfJump_31 : decode cn_X1_faultOfJump 31 = .ok (.iconst 3, 1) := by decide +kernel
theorem dn_X1_faultOfJump_32 : decode cn_X1_faultOfJump 32 = .ok (.invokevirtual 111, 3) := by decide +kernel
theorem dn_X1_faultOfJump_35 : decode cn_X1_faultOfJump 35 = .ok (.ifCond .eq 5, 3) := by decide +kernel
theorem dn_X1_faultOfJump_38 : decode cn_X1_faultOfJump 38 = .ok (.iconst 2, 1) := by decide +kernel
theorem dn_X1_faultOfJump_39 : decode cn_X1_faultOfJump 39 = .ok (.ireturn, 1) := by decide +kernel
theorem dn_X1_faultOfJump_40 : decode cn_X1_faultOfJump 40 = .ok (.aload_n 0, 1) := by decide +kernel
theorem dn_X1_faultOfJump_41 : decode cn_X1_faultOfJump 41 = .ok (.getfield 42, 3) := by decide +kernel
theorem dn_X1_faultOfJump_44 : decode cn_X1_faultOfJump 44 = .ok (.iload_n 1, 1) := by decide +kernel
theorem dn_X1_faultOfJump_45 : decode cn_X1_faultOfJump 45 = .ok (.iaload, 1) := by decide +kernel
theorem dn_X1_faultOfJump_46 : decode cn_X1_faultOfJump 46 = .ok (.iconst 2, 1) := by decide +kernel
theorem dn_X1_faultOfJump_47 : decode cn_X1_faultOfJump 47 = .ok (.if_icmp .ne 21, 3) := by decide +kernel
theorem dn_X1_faultOfJump_50 : decode cn_X1_faultOfJump 50 = .ok (.aload_n 0, 1) := by decide +kernel
theorem dn_X1_faultOfJump_51 : decode cn_X1_faultOfJump 51 = .ok (.iconst 2, 1) := by decide +kernel
theorem dn_X1_faultOfJump_52 : decode cn_X1_faultOfJump 52 = .ok (.invokevirtual 111, 3) := by decide +kernel
theorem dn_X1_faultOfJump_55 : decode cn_X1_faultOfJump 55 = .ok (.ifCond .ne 11, 3) := by decide +kernel
theorem dn_X1_faultOfJump_58 : decode cn_X1_faultOfJump 58 = .ok (.aload_n 0, 1) := by decide +kernel
theorem dn_X1_faultOfJump_59 : decode cn_X1_faultOfJump 59 = .ok (.iconst 1, 1) := by decide +kernel
theorem dn_X1_faultOfJump_60 : decode cn_X1_faultOfJump 60 = .ok (.invokevirtual 111, 3) := by decide +kernel
theorem dn_X1_faultOfJump_63 : decode cn_X1_faultOfJump 63 = .ok (.ifCond .eq 5, 3) := by decide +kernel
theorem dn_X1_faultOfJump_66 : decode cn_X1_faultOfJump 66 = .ok (.iconst 3, 1) := by decide +kernel
theorem dn_X1_faultOfJump_67 : decode cn_X1_faultOfJump 67 = .ok (.ireturn, 1) := by decide +kernel
theorem dn_X1_faultOfJump_68 : decode cn_X1_faultOfJump 68 = .ok (.iconst 0, 1) := by decide +kernel
theorem dn_X1_faultOfJump_69 : decode cn_X1_faultOfJump 69 = .ok (.ireturn, 1) := by decide +kernel
end
section
theorem dn_X2_init_0 : decode cn_X2_init 0 = .ok (.aload_n 0, 1) := by decide +kernel
theorem dn_X2_init_1 : decode cn_X2_init 1 = .ok (.invokespecial 3, 3) := by decide +kernel
theorem dn_X2_init_4 : decode cn_X2_init 4 = .ok (.aload_n 0, 1) := by decide +kernel
theorem dn_X2_init_5 : decode cn_X2_init 5 = .ok (.new 9, 3) := by decide +kernel
theorem dn_X2_init_8 : decode cn_X2_init 8 = .ok (.dup, 1) := by decide +kernel
theorem dn_X2_init_9 : decode cn_X2_init 9 = .ok (.invokespecial 11, 3) := by decide +kernel
theorem dn_X2_init_12 : decode cn_X2_init 12 = .ok (.putfield 12, 3) := by decide +kernel
theorem dn_X2_init_15 : decode cn_X2_init 15 = .ok (.aload_n 0, 1) := by decide +kernel
theorem dn_X2_init_16 : decode cn_X2_init 16 = .ok (.sipush 1000, 3) := by decide +kernel
theorem dn_X2_init_19 : decode cn_X2_init 19 = .ok (.newarray .int, 2) := by decide +kernel
theorem dn_X2_init_21 : decode cn_X2_init 21 = .ok (.putfield 18, 3) := by decide +kernel
theorem dn_X2_init_24 : decode cn_X2_init 24 = .ok (.aload_n 0, 1) := by decide +kernel
theorem dn_X2_init_25 : decode cn_X2_init 25 = .ok (.sipush 1000, 3) := by decide +kernel
theorem dn_X2_init_28 : decode cn_X2_init 28 = .ok (.newarray .int, 2) := by decide +kernel
theorem dn_X2_init_30 : decode cn_X2_init 30 = .ok (.putfield 22, 3) := by decide +kernel
theorem dn_X2_init_33 : decode cn_X2_init 33 = .ok (.aload_n 0, 1) := by decide +kernel
theorem dn_X2_init_34 : decode cn_X2_init 34 = .ok (.sipush 1000, 3) := by decide +kernel
theorem dn_X2_init_37 : decode cn_X2_init 37 = .ok (.newarray .int, 2) := by decide +kernel
theorem dn_X2_init_39 : decode cn_X2_init 39 = .ok (.putfield 25, 3) := by decide +kernel
theorem dn_X2_init_42 : decode cn_X2_init 42 = .ok (.aload_n 0, 1) := by decide +kernel
theorem dn_X2_init_43 : decode cn_X2_init 43 = .ok (.sipush 1000, 3) := by decide +kernel
theorem dn_X2_init_46 : decode cn_X2_init 46 = .ok (.newarray .int, 2) := by decide +kernel
theorem dn_X2_init_48 : decode cn_X2_init 48 = .ok (.putfield 28, 3) := by decide +kernel
theorem dn_X2_init_51 : decode cn_X2_init 51 = .ok (.aload_n 0, 1) := by decide +kernel
theorem dn_X2_init_52 : decode cn_X2_init 52 = .ok (.bipush 60, 2) := by decide +kernel
theorem dn_X2_init_54 : decode cn_X2_init 54 = .ok (.newarray .int, 2) := by decide +kernel
theorem dn_X2_init_56 : decode cn_X2_init 56 = .ok (.putfield 31, 3) := by decide +kernel
theorem dn_X2_init_59 : decode cn_X2_init 59 = .ok (.aload_n 0, 1) := by decide +kernel
theorem dn_X2_init_60 : decode cn_X2_init 60 = .ok (.bipush 60, 2) := by decide +kernel
theorem dn_X2_init_62 : decode cn_X2_init 62 = .ok (.newarray .int, 2) := by decide +kernel
theorem dn_X2_init_64 : decode cn_X2_init 64 = .ok (.putfield 34, 3) := by decide +kernel
theorem dn_X2_init_67 : decode cn_X2_init 67 = .ok (.aload_n 0, 1) := by decide +kernel
theorem dn_X2_init_68 : decode cn_X2_init 68 = .ok (.bipush 20, 2) := by decide +kernel
theorem dn_X2_init_70 : decode cn_X2_init 70 = .ok (.newarray .int, 2) := by decide +kernel
theorem dn_X2_init_72 : decode cn_X2_init 72 = .ok (.putfield 37, 3) := by decide +kernel
theorem dn_X2_init_75 : decode cn_X2_init 75 = .ok (.aload_n 0, 1) := by decide +kernel
theorem dn_X2_init_76 : decode cn_X2_init 76 = .ok (.bipush 60, 2) := by decide +kernel
theorem dn_X2_init_78 : decode cn_X2_init 78 = .ok (.newarray .boolean, 2) := by decide +kernel
theorem dn_X2_init_80 : decode cn_X2_init 80 = .ok (.putfield 40, 3) := by decide +kernel
theorem dn_X2_init_83 : decode cn_X2_init 83 = .ok (.aload_n 0, 1) := by decide +kernel
theorem dn_X2_init_84 : decode cn_X2_init 84 = .ok (.iconst (-1), 1) := by decide +kernel
theorem dn_X2_init_85 : decode cn_X2_init 85 = .ok (.putfield 44, 3) := by decide +kernel
theorem dn_X2_init_88 : decode cn_X2_init 88 = .ok (.aload_n 0, 1) := by decide +kernel
theorem dn_X2_init_89 : decode cn_X2_init 89 = .ok (.iconst 0, 1) := by decide +kernel
theorem dn_X2_init_90 : decode cn_X2_init 90 = .ok (.putfield 48, 3) := by decide +kernel
theorem dn_X2_init_93 : decode cn_X2_init 93 = .ok (.aload_n 0, 1) := by decide +kernel
theorem dn_X2_init_94 : decode cn_X2_init 94 = .ok (.iconst (-1), 1) := by decide +kernel
theorem dn_X2_init_95 : decode cn_X2_init 95 = .ok (.putfield 51, 3) := by decide +kernel
theorem dn_X2_init_98 : decode cn_X2_init 98 = .ok (.return_, 1) := by decide +kernel
theorem dn_X2_go_0 : decode cn_X2_go 0 = .ok (.aload_n 0, 1) := by decide +kernel
theorem dn_X2_go_1 : decode cn_X2_go 1 = .ok (.invokevirtual 54, 3) := by decide +kernel
theorem dn_X2_go_4 : decode cn_X2_go 4 = .ok (.aload_n 0, 1) := by decide +kernel
theorem dn_X2_go_5 : decode cn_X2_go 5 = .ok (.iconst 0, 1) := by decide +kernel
theorem dn_X2_go_6 : decode cn_X2_go 6 = .ok (.iconst (-1), 1) := by decide +kernel
theorem dn_X2_go_7 : decode cn_X2_go 7 = .ok (.invokevirtual 57, 3) := by decide +kernel
theorem dn_X2_go_10 : decode cn_X2_go 10 = .ok (.aload_n 0, 1) := by decide +kernel
theorem dn_X2_go_11 : decode cn_X2_go 11 = .ok (.invokevirtual 61, 3) := by decide +kernel
theorem dn_X2_go_14 : decode cn_X2_go 14 = .ok (.aload_n 0, 1) := by decide +kernel
theorem dn_X2_go_15 : decode cn_X2_go 15 = .ok (.getfield 48, 3) := by decide +kernel
theorem dn_X2_go_18 : decode cn_X2_go 18 = .ok (.ifCond .ne 7, 3) := by decide +kernel
theorem dn_X2_go_21 : decode cn_X2_go 21 = .ok (.aload_n 0, 1) := by decide +kernel
theorem dn_X2_go_22 : decode cn_X2_go 22 = .ok (.invokevirtual 64, 3) := by decide +kernel
theorem dn_X2_go_25 : decode cn_X2_go 25 = .ok (.aload_n 0, 1) := by decide +kernel
theorem dn_X2_go_26 : decode cn_X2_go 26 = .ok (.getfield 48, 3) := by decide +kernel
theorem dn_X2_go_29 : decode cn_X2_go 29 = .ok (.ifCond .eq 14, 3) := by decide +kernel
theorem dn_X2_go_32 : decode cn_X2_go 32 = .ok (.aload_n 0, 1) := by decide +kernel
theorem dn_X2_go_33 : decode cn_X2_go 33 = .ok (.invokevirtual 54, 3) := by decide +kernel
theorem dn_X2_go_36 : decode cn_X2_go 36 = .ok (.iconst (-1), 1) := by decide +kernel
theorem dn_X2_go_37 : decode cn_X2_go 37 = .ok (.aload_n 0, 1) := by decide +kernel
theorem dn_X2_go_38 : decode cn_X2_go 38 = .ok (.getfield 48, 3) := by decide +kernel
theorem dn_X2_go_41 : decode cn_X2_go 41 = .ok (.isub, 1) := by decide +kernel
theorem dn_X2_go_42 : decode cn_X2_go 42 = .ok (.ireturn, 1) := by decide +kernel
theorem dn_X2_go_43 : decode cn_X2_go 43 = .ok (.aload_n 0, 1) := by decide +kernel
theorem dn_X2_go_44 : decode cn_X2_go 44 = .ok (.getfield 67, 3) := by decide +kernel
theorem dn_X2_go_47 : decode cn_X2_go 47 = .ok (.ireturn, 1) := by decide +kernel
theorem dn_X2_forget_0 : decode cn_X2_forget 0 = .ok (.aload_n 0, 1) := by decide +kernel
theorem dn_X2_forget_1 : decode cn_X2_forget 1 = .ok (.iconst 0, 1) := by decide +kernel
theorem dn_X2_forget_2 : decode cn_X2_forget 2 = .ok (.putfield 67, 3) := by decide +kernel
theorem dn_X2_forget_5 : decode cn_X2_forget 5 = .ok (.aload_n 0, 1) := by decide +kernel
theorem dn_X2_forget_6 : decode cn_X2_forget 6 = .ok (.iconst 0, 1) := by decide +kernel
theorem dn_X2_forget_7 : decode cn_X2_forget 7 = .ok (.putfield 70, 3) := by decide +kernel
theorem dn_X2_forget_10 : decode cn_X2_forget 10 = .ok (.aload_n 0, 1) := by decide +kernel
theorem dn_X2_forget_11 : decode cn_X2_forget 11 = .ok (.iconst (-1), 1) := by decide +kernel
theorem dn_X2_forget_12 : decode cn_X2_forget 12 = .ok (.putfield 44, 3) := by decide +kernel
theorem dn_X2_forget_15 : decode cn_X2_forget 15 = .ok (.aload_n 0, 1) := by decide +kernel
theorem dn_X2_forget_16 : decode cn_X2_forget 16 = .ok (.iconst 0, 1) := by decide +kernel
theorem dn_X2_forget_17 : decode cn_X2_forget 17 = .ok (.putfield 73, 3) := by decide +kernel
theorem dn_X2_forget_20 : decode cn_X2_forget 20 = .ok (.aload_n 0, 1) := by decide +kernel
theorem dn_X2_forget_21 : decode cn_X2_forget 21 = .ok (.getfield 31, 3) := by decide +kernel
theorem dn_X2_forget_24 : decode cn_X2_forget 24 = .ok (.iconst 0, 1) := by decide +kernel
theorem dn_X2_forget_25 : decode cn_X2_forget 25 = .ok (.invokestatic 77, 3) := by decide +kernel
theorem dn_X2_forget_28 : decode cn_X2_forget 28 = .ok (.aload_n 0, 1) := by decide +kernel
theorem dn_X2_forget_29 : decode cn_X2_forget 29 = .ok (.getfield 34, 3) := by decide +kernel
theorem dn_X2_forget_32 : decode cn_X2_forget 32 = .ok (.iconst 0, 1) := by decide +kernel
theorem dn_X2_forget_33 : decode cn_X2_forget 33 = .ok (.invokestatic 77, 3) := by decide +kernel
theorem dn_X2_forget_36 : decode cn_X2_forget 36 = .ok (.iconst 0, 1) := by decide +kernel
theorem dn_X2_forget_37 : decode cn_X2_forget 37 = .ok (.istore_n 1, 1) := by decide +kernel
theorem dn_X2_forget_38 : decode cn_X2_forget 38 = .ok (.iload_n 1, 1) := by decide +kernel
theorem dn_X2_forget_39 : decode cn_X2_forget 39 = .ok (.bipush 60, 2) := by decide +kernel
theorem dn_X2_forget_41 : decode cn_X2_forget 41 = .ok (.if_icmp .ge 16, 3) := by decide +kernel
theorem dn_X2_forget_44 : decode cn_X2_forget 44 = .ok (.aload_n 0, 1) := by decide +kernel
theorem dn_X2_forget_45 : decode cn_X2_forget 45 = .ok (.getfield 40, 3) := by decide +kernel
theorem dn_X2_forget_48 : decode cn_X2_forget 48 = .ok (.iload_n 1, 1) := by decide +kernel
theorem dn_X2_forget_49 : decode cn_X2_forget 49 = .ok (.iconst 0, 1) := by decide +kernel
theorem dn_X2_forget_50 : decode cn_X2_forget 50 = .ok (.bastore, 1) := by decide +kernel
theorem dn_X2_forget_51 : decode cn_X2_forget 51 = .ok (.iinc 1 1, 3) := by decide +kernel
theorem dn_X2_forget_54 : decode cn_X2_forget 54 = .ok (.goto (-16), 3) := by decide +kernel
theorem dn_X2_forget_57 : decode cn_X2_forget 57 = .ok (.aload_n 0, 1) := by decide +kernel
theorem dn_X2_forget_58 : decode cn_X2_forget 58 = .ok (.invokevirtual 83, 3) := by decide +kernel
theorem dn_X2_forget_61 : decode cn_X2_forget 61 = .ok (.return_, 1) := by decide +kernel
theorem dn_X2_setFault_0 : decode cn_X2_setFault 0 = .ok (.aload_n 0, 1) := by decide +kernel
theorem dn_X2_setFault_1 : decode cn_X2_setFault 1 = .ok (.iload_n 1, 1) := by decide +kernel
theorem dn_X2_setFault_2 : decode cn_X2_setFault 2 = .ok (.putfield 48, 3) := by decide +kernel
theorem dn_X2_setFault_5 : decode cn_X2_setFault 5 = .ok (.aload_n 0, 1) := by decide +kernel
theorem dn_X2_setFault_6 : decode cn_X2_setFault 6 = .ok (.iload_n 2, 1) := by decide +kernel
theorem dn_X2_setFault_7 : decode cn_X2_setFault 7 = .ok (.putfield 51, 3) := by decide +kernel
theorem dn_X2_setFault_10 : decode cn_X2_setFault 10 = .ok (.return_, 1) := by decide +kernel
theorem dn_X2_findFaultOfJumps_0 : decode cn_X2_findFaultOfJumps 0 = .ok (.iconst 0, 1) := by decide +kernel
theorem dn_X2_findFaultOfJumps_1 : decode cn_X2_findFaultOfJumps 1 = .ok (.istore_n 1, 1) := by decide +kernel
theorem dn_X2_findFaultOfJumps_2 : decode cn_X2_findFaultOfJumps 2 = .ok (.iload_n 1, 1) := by decide +kernel
theorem dn_X2_findFaultOfJumps_3 : decode cn_X2_findFaultOfJumps 3 = .ok (.aload_n 0, 1) := by decide +kernel
theorem dn_X2_findFaultOfJumps_4 : decode cn_X2_findFaultOfJumps 4 = .ok (.getfield 12, 3) := by decide +kernel
theorem dn_X2_findFaultOfJumps_7 : decode cn_X2_findFaultOfJumps 7 = .ok (.getfield 86, 3) := by decide +kernel
theorem dn_X2_findFaultOfJumps_10 : decode cn_X2_findFaultOfJumps 10 = .ok (.if_icmp .ge 50, 3) := by decide +kernel
theorem dn_X2_findFaultOfJumps_13 : decode cn_X2_findFaultOfJumps 13 = .ok (.aload_n 0, 1) := by decide +kernel
theorem dn_X2_findFaultOfJumps_14 : decode cn_X2_findFaultOfJumps 14 = .ok (.getfield 48, 3) := by decide +kernel
theorem dn_X2_findFaultOfJumps_17 : decode cn_X2_findFaultOfJumps 17 = .ok (.ifCond .ne 43, 3) := by decide +kernel
theorem dn_X2_findFaultOfJumps_20 : decode cn_X2_findFaultOfJumps 20 = .ok (.aload_n 0, 1) := by decide +kernel
theorem dn_X2_findFaultOfJumps_21 : decode cn_X2_findFaultOfJumps 21 = .ok (.getfield 12, 3) := by decide +kernel
theorem dn_X2_findFaultOfJumps_24 : decode cn_X2_findFaultOfJumps 24 = .ok (.iload_n 1, 1) := by decide +kernel
theorem dn_X2_findFaultOfJumps_25 : decode cn_X2_findFaultOfJumps 25 = .ok (.invokevirtual 89, 3) := by decide +kernel
theorem dn_X2_findFaultOfJumps_28 : decode cn_X2_findFaultOfJumps 28 = .ok (.ifCond .eq 26, 3) := by decide +kernel
theorem dn_X2_findFaultOfJumps_31 : decode cn_X2_findFaultOfJumps 31 = .ok (.aload_n 0, 1) := by decide +kernel
theorem dn_X2_findFaultOfJumps_32 : decode cn_X2_findFaultOfJumps 32 = .ok (.getfield 12, 3) := by decide +kernel
theorem dn_X2_findFaultOfJumps_35 : decode cn_X2_findFaultOfJumps 35 = .ok (.iload_n 1, 1) := by decide +kernel
theorem dn_X2_findFaultOfJumps_36 : decode cn_X2_findFaultOfJumps 36 = .ok (.invokevirtual 93, 3) := by decide +kernel
theorem dn_X2_findFaultOfJumps_39 : decode cn_X2_findFaultOfJumps 39 = .ok (.istore_n 2, 1) := by decide +kernel
theorem dn_X2_findFaultOfJumps_40 : decode cn_X2_findFaultOfJumps 40 = .ok (.aload_n 0, 1) := by decide +kernel
theorem dn_X2_findFaultOfJumps_41 : decode cn_X2_findFaultOfJumps 41 = .ok (.iload_n 2, 1) := by decide +kernel
theorem dn_X2_findFaultOfJumps_42 : decode cn_X2_findFaultOfJumps 42 = .ok (.iload_n 2, 1) := by decide +kernel
theorem dn_X2_findFaultOfJumps_43 : decode cn_X2_findFaultOfJumps 43 = .ok (.ifCond .ne 7, 3) := by decide +kernel
theorem dn_X2_findFaultOfJumps_46 : decode cn_X2_findFaultOfJumps 46 = .ok (.iconst (-1), 1) := by decide +kernel
theorem dn_X2_findFaultOfJumps_47 : decode cn_X2_findFaultOfJumps 47 = .ok (.goto 4, 3) := by decide +kernel
theorem dn_X2_findFaultOfJumps_50 : decode cn_X2_findFaultOfJumps 50 = .ok (.iload_n 1, 1) := by decide +kernel
theorem dn_X2_findFaultOfJumps_51 : decode cn_X2_findFaultOfJumps 51 = .ok (.invokevirtual 57, 3) := by decide +kernel
theorem dn_X2_findFaultOfJumps_54 : decode cn_X2_findFaultOfJumps 54 = .ok (.iinc 1 1, 3) := by decide +kernel
theorem dn_X2_findFaultOfJumps_57 : decode cn_X2_findFaultOfJumps 57 = .ok (.goto (-55), 3) := by decide +kernel
theorem dn_X2_findFaultOfJumps_60 : decode cn_X2_findFaultOfJumps 60 = .ok (.return_, 1) := by decide +kernel
theorem dn_X2_playFromFirstBar_0 : decode cn_X2_playFromFirstBar 0 = .ok (.aload_n 0, 1) := by decide +kernel
theorem dn_X2_playFromFirstBar_1 : decode cn_X2_playFromFirstBar 1 = .ok (.getfield 12, 3) := by decide +kernel
theorem dn_X2_playFromFirstBar_4 : decode cn_X2_playFromFirstBar 4 = .ok (.getfield 86, 3) := by decide +kernel
theorem dn_X2_playFromFirstBar_7 : decode cn_X2_playFromFirstBar 7 = .ok (.ifCond .le 7, 3) := by decide +kernel
theorem dn_X2_playFromFirstBar_10 : decode cn_X2_playFromFirstBar 10 = .ok (.iconst 0, 1) := by decide +kernel
theorem dn_X2_playFromFirstBar_11 : decode cn_X2_playFromFirstBar 11 = .ok (.goto 4, 3) := by decide +kernel
theorem dn_X2_playFromFirstBar_14 : decode cn_X2_playFromFirstBar 14 = .ok (.iconst (-1), 1) := by decide +kernel
theorem dn_X2_playFromFirstBar_15 : decode cn_X2_playFromFirstBar 15 = .ok (.istore_n 1, 1) := by decide +kernel
theorem dn_X2_playFromFirstBar_16 : decode cn_X2_playFromFirstBar 16 = .ok (.iconst 0, 1) := by decide +kernel
theorem dn_X2_playFromFirstBar_17 : decode cn_X2_playFromFirstBar 17 = .ok (.istore_n 2, 1) := by decide +kernel
theorem dn_X2_playFromFirstBar_18 : decode cn_X2_playFromFirstBar 18 = .ok (.iload_n 2, 1) := by decide +kernel
theorem dn_X2_playFromFirstBar_19 : decode cn_X2_playFromFirstBar 19 = .ok (.ldc 97, 2) := by decide +kernel
theorem dn_X2_playFromFirstBar_21 : decode cn_X2_playFromFirstBar 21 = .ok (.if_icmp .ge 20, 3) := by decide +kernel
theorem dn_X2_playFromFirstBar_24 : decode cn_X2_playFromFirstBar 24 = .ok (.iload_n 1, 1) := by decide +kernel
theorem dn_X2_playFromFirstBar_25 : decode cn_X2_playFromFirstBar 25 = .ok (.iconst (-1), 1) := by decide +kernel
theorem dn_X2_playFromFirstBar_26 : decode cn_X2_playFromFirstBar 26 = .ok (.if_icmp .eq 15, 3) := by decide +kernel
theorem dn_X2_playFromFirstBar_29 : decode cn_X2_playFromFirstBar 29 = .ok (.aload_n 0, 1) := by decide +kernel
theorem dn_X2_playFromFirstBar_30 : decode cn_X2_playFromFirstBar 30 = .ok (.iload_n 1, 1) := by decide +kernel
theorem dn_X2_playFromFirstBar_31 : decode cn_X2_playFromFirstBar 31 = .ok (.invokevirtual 98, 3) := by decide +kernel
theorem dn_X2_playFromFirstBar_34 : decode cn_X2_playFromFirstBar 34 = .ok (.istore_n 1, 1) := by decide +kernel
theorem dn_X2_playFromFirstBar_35 : decode cn_X2_playFromFirstBar 35 = .ok (.iinc 2 1, 3) := by decide +kernel
theorem dn_X2_playFromFirstBar_38 : decode cn_X2_playFromFirstBar 38 = .ok (.goto (-20), 3) := by decide +kernel
theorem dn_X2_playFromFirstBar_41 : decode cn_X2_playFromFirstBar 41 = .ok (.return_, 1) := by decide +kernel
theorem dn_X2_comeTo_0 : decode cn_X2_comeTo 0 = .ok (.aload_n 0, 1) := by decide +kernel
theorem dn_X2_comeTo_1 : decode cn_X2_comeTo 1 = .ok (.getfield 34, 3) := by decide +kernel
theorem dn_X2_comeTo_4 : decode cn_X2_comeTo 4 = .ok (.iload_n 1, 1) := by decide +kernel
theorem dn_X2_comeTo_5 : decode cn_X2_comeTo 5 = .ok (.dup2, 1) := by decide +kernel
theorem dn_X2_comeTo_6 : decode cn_X2_comeTo 6 = .ok (.iaload, 1) := by decide +kernel
theorem dn_X2_comeTo_7 : decode cn_X2_comeTo 7 = .ok (.iconst 1, 1) := by decide +kernel
theorem dn_X2_comeTo_8 : decode cn_X2_comeTo 8 = .ok (.iadd, 1) := by decide +kernel
theorem dn_X2_comeTo_9 : decode cn_X2_comeTo 9 = .ok (.iastore, 1) := by decide +kernel
theorem dn_X2_comeTo_10 : decode cn_X2_comeTo 10 = .ok (.aload_n 0, 1) := by decide +kernel
theorem dn_X2_comeTo_11 : decode cn_X2_comeTo 11 = .ok (.iload_n 1, 1) := by decide +kernel
theorem dn_X2_comeTo_12 : decode cn_X2_comeTo 12 = .ok (.invokevirtual 101, 3) := by decide +kernel
theorem dn_X2_comeTo_15 : decode cn_X2_comeTo 15 = .ok (.aload_n 0, 1) := by decide +kernel
theorem dn_X2_comeTo_16 : decode cn_X2_comeTo 16 = .ok (.getfield 12, 3) := by decide +kernel
theorem dn_X2_comeTo_19 : decode cn_X2_comeTo 19 = .ok (.getfield 105, 3) := by decide +kernel
theorem dn_X2_comeTo_22 : decode cn_X2_comeTo 22 = .ok (.iload_n 1, 1) := by decide +kernel
theorem dn_X2_comeTo_23 : decode cn_X2_comeTo 23 = .ok (.iaload, 1) := by decide +kernel
theorem dn_X2_comeTo_24 : decode cn_X2_comeTo 24 = .ok (.istore_n 2, 1) := by decide +kernel
theorem dn_X2_comeTo_25 : decode cn_X2_comeTo 25 = .ok (.iload_n 2, 1) := by decide +kernel
theorem dn_X2_comeTo_26 : decode cn_X2_comeTo 26 = .ok (.iconst (-1), 1) := by decide +kernel
theorem dn_X2_comeTo_27 : decode cn_X2_comeTo 27 = .ok (.if_icmp .eq 30, 3) := by decide +kernel
theorem dn_X2_comeTo_30 : decode cn_X2_comeTo 30 = .ok (.aload_n 0, 1) := by decide +kernel
theorem dn_X2_comeTo_31 : decode cn_X2_comeTo 31 = .ok (.iload_n 2, 1) := by decide +kernel
theorem dn_X2_comeTo_32 : decode cn_X2_comeTo 32 = .ok (.invokevirtual 108, 3) := by decide +kernel
theorem dn_X2_comeTo_35 : decode cn_X2_comeTo 35 = .ok (.ifCond .eq 22, 3) := by decide +kernel
theorem dn_X2_comeTo_38 : decode cn_X2_comeTo 38 = .ok (.aload_n 0, 1) := by decide +kernel
theorem dn_X2_comeTo_39 : decode cn_X2_comeTo 39 = .ok (.iload_n 2, 1) := by decide +kernel
theorem dn_X2_comeTo_40 : decode cn_X2_comeTo 40 = .ok (.invokevirtual 111, 3) := by decide +kernel
theorem dn_X2_comeTo_43 : decode cn_X2_comeTo 43 = .ok (.aload_n 0, 1) := by decide +kernel
theorem dn_X2_comeTo_44 : decode cn_X2_comeTo 44 = .ok (.aload_n 0, 1) := by decide +kernel
theorem dn_X2_comeTo_45 : decode cn_X2_comeTo 45 = .ok (.getfield 12, 3) := by decide +kernel
theorem dn_X2_comeTo_48 : decode cn_X2_comeTo 48 = .ok (.getfield 114, 3) := by decide +kernel
theorem dn_X2_comeTo_51 : decode cn_X2_comeTo 51 = .ok (.iload_n 2, 1) := by decide +kernel
theorem dn_X2_comeTo_52 : decode cn_X2_comeTo 52 = .ok (.iaload, 1) := by decide +kernel
theorem dn_X2_comeTo_53 : decode cn_X2_comeTo 53 = .ok (.invokevirtual 117, 3) := by decide +kernel
theorem dn_X2_comeTo_56 : decode cn_X2_comeTo 56 = .ok (.ireturn, 1) := by decide +kernel
theorem dn_X2_comeTo_57 : decode cn_X2_comeTo 57 = .ok (.aload_n 0, 1) := by decide +kernel
theorem dn_X2_comeTo_58 : decode cn_X2_comeTo 58 = .ok (.getfield 67, 3) := by decide +kernel
theorem dn_X2_comeTo_61 : decode cn_X2_comeTo 61 = .ok (.sipush 1000, 3) := by decide +kernel
theorem dn_X2_comeTo_64 : decode cn_X2_comeTo 64 = .ok (.if_icmp .lt 11, 3) := by decide +kernel
theorem dn_X2_comeTo_67 : decode cn_X2_comeTo 67 = .ok (.aload_n 0, 1) := by decide +kernel
theorem dn_X2_comeTo_68 : decode cn_X2_comeTo 68 = .ok (.iconst 4, 1) := by decide +kernel
theorem dn_X2_comeTo_69 : decode cn_X2_comeTo 69 = .ok (.iload_n 1, 1) := by decide +kernel
theorem dn_X2_comeTo_70 : decode cn_X2_comeTo 70 = .ok (.invokevirtual 57, 3) := by decide +kernel
theorem dn_X2_comeTo_73 : decode cn_X2_comeTo 73 = .ok (.iconst (-1), 1) := by decide +kernel
theorem dn_X2_comeTo_74 : decode cn_X2_comeTo 74 = .ok (.ireturn, 1) := by decide +kernel
theorem dn_X2_comeTo_75 : decode cn_X2_comeTo 75 = .ok (.aload_n 0, 1) := by decide +kernel
theorem dn_X2_comeTo_76 : decode cn_X2_comeTo 76 = .ok (.iload_n 1, 1) := by decide +kernel
theorem dn_X2_comeTo_77 : decode cn_X2_comeTo 77 = .ok (.invokevirtual 120, 3) := by decide +kernel
theorem dn_X2_comeTo_80 : decode cn_X2_comeTo 80 = .ok (.aload_n 0, 1) := by decide +kernel
theorem dn_X2_comeTo_81 : decode cn_X2_comeTo 81 = .ok (.iload_n 1, 1) := by decide +kernel
theorem dn_X2_comeTo_82 : decode cn_X2_comeTo 82 = .ok (.invokevirtual 123, 3) := by decide +kernel
theorem dn_X2_comeTo_85 : decode cn_X2_comeTo 85 = .ok (.ireturn, 1) := by decide +kernel
theorem dn_X2_openAround_0 : decode cn_X2_openAround 0 = .ok (.aload_n 0, 1) := by decide +kernel
theorem dn_X2_openAround_1 : decode cn_X2_openAround 1 = .ok (.getfield 44, 3) := by decide +kernel
theorem dn_X2_openAround_4 : decode cn_X2_openAround 4 = .ok (.iconst (-1), 1) := by decide +kernel
theorem dn_X2_openAround_5 : decode cn_X2_openAround 5 = .ok (.if_icmp .eq 22, 3) := by decide +kernel
theorem dn_X2_openAround_8 : decode cn_X2_openAround 8 = .ok (.aload_n 0, 1) := by decide +kernel
theorem dn_X2_openAround_9 : decode cn_X2_openAround 9 = .ok (.getfield 12, 3) := by decide +kernel
theorem dn_X2_openAround_12 : decode cn_X2_openAround 12 = .ok (.getfield 126, 3) := by decide +kernel
theorem dn_X2_openAround_15 : decode cn_X2_openAround 15 = .ok (.aload_n 0, 1) := by decide +kernel
theorem dn_X2_openAround_16 : decode cn_X2_openAround 16 = .ok (.getfield 44, 3) := by decide +kernel
theorem dn_X2_openAround_19 : decode cn_X2_openAround 19 = .ok (.baload, 1) := by decide +kernel
theorem dn_X2_openAround_20 : decode cn_X2_openAround 20 = .ok (.ifCond .ne 7, 3) := by decide +kernel
theorem dn_X2_openAround_23 : decode cn_X2_openAround 23 = .ok (.iconst 1, 1) := by decide +kernel
theorem dn_X2_openAround_24 : decode cn_X2_openAround 24 = .ok (.goto 4, 3) := by decide +kernel
theorem dn_X2_openAround_27 : decode cn_X2_openAround 27 = .ok (.iconst 0, 1) := by decide +kernel
theorem dn_X2_openAround_28 : decode cn_X2_openAround 28 = .ok (.istore_n 2, 1) := by decide +kernel
theorem dn_X2_openAround_29 : decode cn_X2_openAround 29 = .ok (.iconst 0, 1) := by decide +kernel
theorem dn_X2_openAround_30 : decode cn_X2_openAround 30 = .ok (.istore_n 3, 1) := by decide +kernel
theorem dn_X2_openAround_31 : decode cn_X2_openAround 31 = .ok (.iload_n 3, 1) := by decide +kernel
theorem dn_X2_openAround_32 : decode cn_X2_openAround 32 = .ok (.aload_n 0, 1) := by decide +kernel
theorem dn_X2_openAround_33 : decode cn_X2_openAround 33 = .ok (.getfield 12, 3) := by decide +kernel
theorem dn_X2_openAround_36 : decode cn_X2_openAround 36 = .ok (.getfield 129, 3) := by decide +kernel
theorem dn_X2_openAround_39 : decode cn_X2_openAround 39 = .ok (.iload_n 1, 1) := by decide +kernel
theorem dn_X2_openAround_40 : decode cn_X2_openAround 40 = .ok (.iaload, 1) := by decide +kernel
theorem dn_X2_openAround_41 : decode cn_X2_openAround 41 = .ok (.if_icmp .ge 55, 3) := by decide +kernel
theorem dn_X2_openAround_44 : decode cn_X2_openAround 44 = .ok (.aload_n 0, 1) := by decide +kernel
theorem dn_X2_openAround_45 : decode cn_X2_openAround 45 = .ok (.getfield 12, 3) := by decide +kernel
theorem dn_X2_openAround_48 : decode cn_X2_openAround 48 = .ok (.iload_n 1, 1) := by decide +kernel
theorem dn_X2_openAround_49 : decode cn_X2_openAround 49 = .ok (.iload_n 3, 1) := by decide +kernel
theorem dn_X2_openAround_50 : decode cn_X2_openAround 50 = .ok (.invokevirtual 132, 3) := by decide +kernel
theorem dn_X2_openAround_53 : decode cn_X2_openAround 53 = .ok (.istore 4, 2) := by decide +kernel
theorem dn_X2_openAround_55 : decode cn_X2_openAround 55 = .ok (.aload_n 0, 1) := by decide +kernel
theorem dn_X2_openAround_56 : decode cn_X2_openAround 56 = .ok (.getfield 37, 3) := by decide +kernel
theorem dn_X2_openAround_59 : decode cn_X2_openAround 59 = .ok (.iload 4, 2) := by decide +kernel
theorem dn_X2_openAround_61 : decode cn_X2_openAround 61 = .ok (.iaload, 1) := by decide +kernel
theorem dn_X2_openAround_62 : decode cn_X2_openAround 62 = .ok (.ifCond .ne 28, 3) := by decide +kernel
theorem dn_X2_openAround_65 : decode cn_X2_openAround 65 = .ok (.aload_n 0, 1) := by decide +kernel
theorem dn_X2_openAround_66 : decode cn_X2_openAround 66 = .ok (.getfield 37, 3) := by decide +kernel
theorem dn_X2_openAround_69 : decode cn_X2_openAround 69 = .ok (.iload 4, 2) := by decide +kernel
theorem dn_X2_openAround_71 : decode cn_X2_openAround 71 = .ok (.iload_n 2, 1) := by decide +kernel
theorem dn_X2_openAround_72 : decode cn_X2_openAround 72 = .ok (.ifCond .eq 16, 3) := by decide +kernel
theorem dn_X2_openAround_75 : decode cn_X2_openAround 75 = .ok (.aload_n 0, 1) := by decide +kernel
theorem dn_X2_openAround_76 : decode cn_X2_openAround 76 = .ok (.getfield 12, 3) := by decide +kernel
theorem dn_X2_openAround_79 : decode cn_X2_openAround 79 = .ok (.getfield 136, 3) := by decide +kernel
theorem dn_X2_openAround_82 : decode cn_X2_openAround 82 = .ok (.iload 4, 2) := by decide +kernel
theorem dn_X2_openAround_84 : decode cn_X2_openAround 84 = .ok (.iaload, 1) := by decide +kernel
theorem dn_X2_openAround_85 : decode cn_X2_openAround 85 = .ok (.goto 4, 3) := by decide +kernel
theorem dn_X2_openAround_88 : decode cn_X2_openAround 88 = .ok (.iconst 1, 1) := by decide +kernel
theorem dn_X2_openAround_89 : decode cn_X2_openAround 89 = .ok (.iastore, 1) := by decide +kernel
theorem dn_X2_openAround_90 : decode cn_X2_openAround 90 = .ok (.iinc 3 1, 3) := by decide +kernel
theorem dn_X2_openAround_93 : decode cn_X2_openAround 93 = .ok (.goto (-62), 3) := by decide +kernel
theorem dn_X2_openAround_96 : decode cn_X2_openAround 96 = .ok (.return_, 1) := by decide +kernel
theorem dn_X2_isLeftOut_0 : decode cn_X2_isLeftOut 0 = .ok (.iconst 1, 1) := by decide +kernel
theorem dn_X2_isLeftOut_1 : decode cn_X2_isLeftOut 1 = .ok (.aload_n 0, 1) := by decide +kernel
theorem dn_X2_isLeftOut_2 : decode cn_X2_isLeftOut 2 = .ok (.getfield 37, 3) := by decide +kernel
theorem dn_X2_isLeftOut_5 : decode cn_X2_isLeftOut 5 = .ok (.aload_n 0, 1) := by decide +kernel
theorem dn_X2_isLeftOut_6 : decode cn_X2_isLeftOut 6 = .ok (.getfield 12, 3) := by decide +kernel
theorem dn_X2_isLeftOut_9 : decode cn_X2_isLeftOut 9 = .ok (.getfield 139, 3) := by decide +kernel
theorem dn_X2_isLeftOut_12 : decode cn_X2_isLeftOut 12 = .ok (.iload_n 1, 1) := by decide +kernel
theorem dn_X2_isLeftOut_13 : decode cn_X2_isLeftOut 13 = .ok (.iaload, 1) := by decide +kernel
theorem dn_X2_isLeftOut_14 : decode cn_X2_isLeftOut 14 = .ok (.iaload, 1) := by decide +kernel
theorem dn_X2_isLeftOut_15 : decode cn_X2_isLeftOut 15 = .ok (.iconst 1, 1) := by decide +kernel
theorem dn_X2_isLeftOut_16 : decode cn_X2_isLeftOut 16 = .ok (.isub, 1) := by decide +kernel
theorem dn_X2_isLeftOut_17 : decode cn_X2_isLeftOut 17 = .ok (.ishl, 1) := by decide +kernel
theorem dn_X2_isLeftOut_18 : decode cn_X2_isLeftOut 18 = .ok (.istore_n 2, 1) := by decide +kernel
theorem dn_X2_isLeftOut_19 : decode cn_X2_isLeftOut 19 = .ok (.aload_n 0, 1) := by decide +kernel
theorem dn_X2_isLeftOut_20 : decode cn_X2_isLeftOut 20 = .ok (.getfield 12, 3) := by decide +kernel
theorem dn_X2_isLeftOut_23 : decode cn_X2_isLeftOut 23 = .ok (.getfield 142, 3) := by decide +kernel
theorem dn_X2_isLeftOut_26 : decode cn_X2_isLeftOut 26 = .ok (.iload_n 1, 1) := by decide +kernel
theorem dn_X2_isLeftOut_27 : decode cn_X2_isLeftOut 27 = .ok (.iaload, 1) := by decide +kernel
theorem dn_X2_isLeftOut_28 : decode cn_X2_isLeftOut 28 = .ok (.iload_n 2, 1) := by decide +kernel
theorem dn_X2_isLeftOut_29 : decode cn_X2_isLeftOut 29 = .ok (.iand, 1) := by decide +kernel
theorem dn_X2_isLeftOut_30 : decode cn_X2_isLeftOut 30 = .ok (.ifCond .ne 7, 3) := by decide +kernel
theorem dn_X2_isLeftOut_33 : decode cn_X2_isLeftOut 33 = .ok (.iconst 1, 1) := by decide +kernel
theorem dn_X2_isLeftOut_34 : decode cn_X2_isLeftOut 34 = .ok (.goto 4, 3) := by decide +kernel
theorem dn_X2_isLeftOut_37 : decode cn_X2_isLeftOut 37 = .ok (.iconst 0, 1) := by decide +kernel
theorem dn_X2_isLeftOut_38 : decode cn_X2_isLeftOut 38 = .ok (.ireturn, 1) := by decide +kernel
theorem dn_X2_leaveWithin_0 : decode cn_X2_leaveWithin 0 = .ok (.iconst 0, 1) := by decide +kernel
theorem dn_X2_leaveWithin_1 : decode cn_X2_leaveWithin 1 = .ok (.istore_n 2, 1) := by decide +kernel
theorem dn_X2_leaveWithin_2 : decode cn_X2_leaveWithin 2 = .ok (.iload_n 2, 1) := by decide +kernel
theorem dn_X2_leaveWithin_3 : decode cn_X2_leaveWithin 3 = .ok (.aload_n 0, 1) := by decide +kernel
theorem dn_X2_leaveWithin_4 : decode cn_X2_leaveWithin 4 = .ok (.getfield 12, 3) := by decide +kernel
theorem dn_X2_leaveWithin_7 : decode cn_X2_leaveWithin 7 = .ok (.getfield 145, 3) := by decide +kernel
theorem dn_X2_leaveWithin_10 : decode cn_X2_leaveWithin 10 = .ok (.if_icmp .ge 41, 3) := by decide +kernel
theorem dn_X2_leaveWithin_13 : decode cn_X2_leaveWithin 13 = .ok (.iload_n 2, 1) := by decide +kernel
theorem dn_X2_leaveWithin_14 : decode cn_X2_leaveWithin 14 = .ok (.aload_n 0, 1) := by decide +kernel
theorem dn_X2_leaveWithin_15 : decode cn_X2_leaveWithin 15 = .ok (.getfield 12, 3) := by decide +kernel
theorem dn_X2_leaveWithin_18 : decode cn_X2_leaveWithin 18 = .ok (.getfield 139, 3) := by decide +kernel
theorem dn_X2_leaveWithin_21 : decode cn_X2_leaveWithin 21 = .ok (.iload_n 1, 1) := by decide +kernel
theorem dn_X2_leaveWithin_22 : decode cn_X2_leaveWithin 22 = .ok (.iaload, 1) := by decide +kernel
theorem dn_X2_leaveWithin_23 : decode cn_X2_leaveWithin 23 = .ok (.if_icmp .eq 22, 3) := by decide +kernel
theorem dn_X2_leaveWithin_26 : decode cn_X2_leaveWithin 26 = .ok (.aload_n 0, 1) := by decide +kernel
theorem dn_X2_leaveWithin_27 : decode cn_X2_leaveWithin 27 = .ok (.getfield 12, 3) := by decide +kernel
theorem dn_X2_leaveWithin_30 : decode cn_X2_leaveWithin 30 = .ok (.iload_n 2, 1) := by decide +kernel
theorem dn_X2_leaveWithin_31 : decode cn_X2_leaveWithin 31 = .ok (.iload_n 1, 1) := by decide +kernel
theorem dn_X2_leaveWithin_32 : decode cn_X2_leaveWithin 32 = .ok (.invokevirtual 148, 3) := by decide +kernel
theorem dn_X2_leaveWithin_35 : decode cn_X2_leaveWithin 35 = .ok (.ifCond .eq 10, 3) := by decide +kernel
theorem dn_X2_leaveWithin_38 : decode cn_X2_leaveWithin 38 = .ok (.aload_n 0, 1) := by decide +kernel
theorem dn_X2_leaveWithin_39 : decode cn_X2_leaveWithin 39 = .ok (.getfield 37, 3) := by decide +kernel
theorem dn_X2_leaveWithin_42 : decode cn_X2_leaveWithin 42 = .ok (.iload_n 2, 1) := by decide +kernel
theorem dn_X2_leaveWithin_43 : decode cn_X2_leaveWithin 43 = .ok (.iconst 0, 1) := by decide +kernel
theorem dn_X2_leaveWithin_44 : decode cn_X2_leaveWithin 44 = .ok (.iastore, 1) := by decide +kernel
theorem dn_X2_leaveWithin_45 : decode cn_X2_leaveWithin 45 = .ok (.iinc 2 1, 3) := by decide +kernel
theorem dn_X2_leaveWithin_48 : decode cn_X2_leaveWithin 48 = .ok (.goto (-46), 3) := by decide +kernel
theorem dn_X2_leaveWithin_51 : decode cn_X2_leaveWithin 51 = .ok (.return_, 1) := by decide +kernel
theorem dn_X2_leaveAll_0 : decode cn_X2_leaveAll 0 = .ok (.aload_n 0, 1) := by decide +kernel
theorem dn_X2_leaveAll_1 : decode cn_X2_leaveAll 1 = .ok (.getfield 37, 3) := by decide +kernel
theorem dn_X2_leaveAll_4 : decode cn_X2_leaveAll 4 = .ok (.iconst 0, 1) := by decide +kernel
theorem dn_X2_leaveAll_5 : decode cn_X2_leaveAll 5 = .ok (.invokestatic 77, 3) := by decide +kernel
theorem dn_X2_leaveAll_8 : decode cn_X2_leaveAll 8 = .ok (.return_, 1) := by decide +kernel
theorem dn_X2_play_0 : decode cn_X2_play 0 = .ok (.aload_n 0, 1) := by decide +kernel
theorem dn_X2_play_1 : decode cn_X2_play 1 = .ok (.getfield 12, 3) := by decide +kernel
theorem dn_X2_play_4 : decode cn_X2_play 4 = .ok (.getfield 129, 3) := by decide +kernel
theorem dn_X2_play_7 : decode cn_X2_play 7 = .ok (.iload_n 1, 1) := by decide +kernel
theorem dn_X2_play_8 : decode cn_X2_play 8 = .ok (.iaload, 1) := by decide +kernel
theorem dn_X2_play_9 : decode cn_X2_play 9 = .ok (.istore_n 2, 1) := by decide +kernel
theorem dn_X2_play_10 : decode cn_X2_play 10 = .ok (.aload_n 0, 1) := by decide +kernel
theorem dn_X2_play_11 : decode cn_X2_play 11 = .ok (.getfield 18, 3) := by decide +kernel
theorem dn_X2_play_14 : decode cn_X2_play 14 = .ok (.aload_n 0, 1) := by decide +kernel
theorem dn_X2_play_15 : decode cn_X2_play 15 = .ok (.getfield 67, 3) := by decide +kernel
theorem dn_X2_play_18 : decode cn_X2_play 18 = .ok (.iload_n 1, 1) := by decide +kernel
theorem dn_X2_play_19 : decode cn_X2_play 19 = .ok (.iastore, 1) := by decide +kernel
theorem dn_X2_play_20 : decode cn_X2_play 20 = .ok (.aload_n 0, 1) := by decide +kernel
theorem dn_X2_play_21 : decode cn_X2_play 21 = .ok (.getfield 22, 3) := by decide +kernel
theorem dn_X2_play_24 : decode cn_X2_play 24 = .ok (.aload_n 0, 1) := by decide +kernel
theorem dn_X2_play_25 : decode cn_X2_play 25 = .ok (.getfield 67, 3) := by decide +kernel
theorem dn_X2_play_28 : decode cn_X2_play 28 = .ok (.aload_n 0, 1) := by decide +kernel
theorem dn_X2_play_29 : decode cn_X2_play 29 = .ok (.getfield 70, 3) := by decide +kernel
theorem dn_X2_play_32 : decode cn_X2_play 32 = .ok (.iastore, 1) := by decide +kernel
theorem dn_X2_play_33 : decode cn_X2_play 33 = .ok (.aload_n 0, 1) := by decide +kernel
theorem dn_X2_play_34 : decode cn_X2_play 34 = .ok (.getfield 25, 3) := by decide +kernel
theorem dn_X2_play_37 : decode cn_X2_play 37 = .ok (.aload_n 0, 1) := by decide +kernel
theorem dn_X2_play_38 : decode cn_X2_play 38 = .ok (.getfield 67, 3) := by decide +kernel
theorem dn_X2_play_41 : decode cn_X2_play 41 = .ok (.iload_n 2, 1) := by decide +kernel
theorem dn_X2_play_42 : decode cn_X2_play 42 = .ok (.ifCond .ne 7, 3) := by decide +kernel
theorem dn_X2_play_45 : decode cn_X2_play 45 = .ok (.iconst 0, 1) := by decide +kernel
theorem dn_X2_play_46 : decode cn_X2_play 46 = .ok (.goto 19, 3) := by decide +kernel
theorem dn_X2_play_49 : decode cn_X2_play 49 = .ok (.aload_n 0, 1) := by decide +kernel
theorem dn_X2_play_50 : decode cn_X2_play 50 = .ok (.getfield 37, 3) := by decide +kernel
theorem dn_X2_play_53 : decode cn_X2_play 53 = .ok (.aload_n 0, 1) := by decide +kernel
theorem dn_X2_play_54 : decode cn_X2_play 54 = .ok (.getfield 12, 3) := by decide +kernel
theorem dn_X2_play_57 : decode cn_X2_play 57 = .ok (.iload_n 1, 1) := by decide +kernel
theorem dn_X2_play_58 : decode cn_X2_play 58 = .ok (.iload_n 2, 1) := by decide +kernel
theorem dn_X2_play_59 : decode cn_X2_play 59 = .ok (.iconst 1, 1) := by decide +kernel
theorem dn_X2_play_60 : decode cn_X2_play 60 = .ok (.isub, 1) := by decide +kernel
theorem dn_X2_play_61 : decode cn_X2_play 61 = .ok (.invokevirtual 132, 3) := by decide +kernel
theorem dn_X2_play_64 : decode cn_X2_play 64 = .ok (.iaload, 1) := by decide +kernel
theorem dn_X2_play_65 : decode cn_X2_play 65 = .ok (.iastore, 1) := by decide +kernel
theorem dn_X2_play_66 : decode cn_X2_play 66 = .ok (.aload_n 0, 1) := by decide +kernel
theorem dn_X2_play_67 : decode cn_X2_play 67 = .ok (.getfield 28, 3) := by decide +kernel
theorem dn_X2_play_70 : decode cn_X2_play 70 = .ok (.aload_n 0, 1) := by decide +kernel
theorem dn_X2_play_71 : decode cn_X2_play 71 = .ok (.getfield 67, 3) := by decide +kernel
theorem dn_X2_play_74 : decode cn_X2_play 74 = .ok (.iload_n 2, 1) := by decide +kernel
theorem dn_X2_play_75 : decode cn_X2_play 75 = .ok (.ifCond .ne 7, 3) := by decide +kernel
theorem dn_X2_play_78 : decode cn_X2_play 78 = .ok (.iconst 0, 1) := by decide +kernel
theorem dn_X2_play_79 : decode cn_X2_play 79 = .ok (.goto 17, 3) := by decide +kernel
theorem dn_X2_play_82 : decode cn_X2_play 82 = .ok (.aload_n 0, 1) := by decide +kernel
theorem dn_X2_play_83 : decode cn_X2_play 83 = .ok (.getfield 37, 3) := by decide +kernel
theorem dn_X2_play_86 : decode cn_X2_play 86 = .ok (.aload_n 0, 1) := by decide +kernel
theorem dn_X2_play_87 : decode cn_X2_play 87 = .ok (.getfield 12, 3) := by decide +kernel
theorem dn_X2_play_90 : decode cn_X2_play 90 = .ok (.iload_n 1, 1) := by decide +kernel
theorem dn_X2_play_91 : decode cn_X2_play 91 = .ok (.iconst 0, 1) := by decide +kernel
theorem dn_X2_play_92 : decode cn_X2_play 92 = .ok (.invokevirtual 132, 3) := by decide +kernel
theorem dn_X2_play_95 : decode cn_X2_play 95 = .ok (.iaload, 1) := by decide +kernel
theorem dn_X2_play_96 : decode cn_X2_play 96 = .ok (.iastore, 1) := by decide +kernel
theorem dn_X2_play_97 : decode cn_X2_play 97 = .ok (.aload_n 0, 1) := by decide +kernel
theorem dn_X2_play_98 : decode cn_X2_play 98 = .ok (.dup, 1) := by decide +kernel
theorem dn_X2_play_99 : decode cn_X2_play 99 = .ok (.getfield 67, 3) := by decide +kernel
theorem dn_X2_play_102 : decode cn_X2_play 102 = .ok (.iconst 1, 1) := by decide +kernel
theorem dn_X2_play_103 : decode cn_X2_play 103 = .ok (.iadd, 1) := by decide +kernel
theorem dn_X2_play_104 : decode cn_X2_play 104 = .ok (.putfield 67, 3) := by decide +kernel
theorem dn_X2_play_107 : decode cn_X2_play 107 = .ok (.aload_n 0, 1) := by decide +kernel
theorem dn_X2_play_108 : decode cn_X2_play 108 = .ok (.getfield 31, 3) := by decide +kernel
theorem dn_X2_play_111 : decode cn_X2_play 111 = .ok (.iload_n 1, 1) := by decide +kernel
theorem dn_X2_play_112 : decode cn_X2_play 112 = .ok (.dup2, 1) := by decide +kernel
theorem dn_X2_play_113 : decode cn_X2_play 113 = .ok (.iaload, 1) := by decide +kernel
theorem dn_X2_play_114 : decode cn_X2_play 114 = .ok (.iconst 1, 1) := by decide +kernel
theorem dn_X2_play_115 : decode cn_X2_play 115 = .ok (.iadd, 1) := by decide +kernel
theorem dn_X2_play_116 : decode cn_X2_play 116 = .ok (.iastore, 1) := by decide +kernel
theorem dn_X2_play_117 : decode cn_X2_play 117 = .ok (.return_, 1) := by decide +kernel
theorem dn_X2_behind_0 : decode cn_X2_behind 0 = .ok (.aload_n 0, 1) := by decide +kernel
theorem dn_X2_behind_1 : decode cn_X2_behind 1 = .ok (.iload_n 1, 1) := by decide +kernel
theorem dn_X2_behind_2 : decode cn_X2_behind 2 = .ok (.invokevirtual 152, 3) := by decide +kernel
theorem dn_X2_behind_5 : decode cn_X2_behind 5 = .ok (.ifCond .ne 9, 3) := by decide +kernel
theorem dn_X2_behind_8 : decode cn_X2_behind 8 = .ok (.aload_n 0, 1) := by decide +kernel
theorem dn_X2_behind_9 : decode cn_X2_behind 9 = .ok (.iload_n 1, 1) := by decide +kernel
theorem dn_X2_behind_10 : decode cn_X2_behind 10 = .ok (.invokevirtual 117, 3) := by decide +kernel
theorem dn_X2_behind_13 : decode cn_X2_behind 13 = .ok (.ireturn, 1) := by decide +kernel
theorem dn_X2_behind_14 : decode cn_X2_behind 14 = .ok (.aload_n 0, 1) := by decide +kernel
theorem dn_X2_behind_15 : decode cn_X2_behind 15 = .ok (.getfield 12, 3) := by decide +kernel
theorem dn_X2_behind_18 : decode cn_X2_behind 18 = .ok (.getfield 155, 3) := by decide +kernel
theorem dn_X2_behind_21 : decode cn_X2_behind 21 = .ok (.iconst 3, 1) := by decide +kernel
theorem dn_X2_behind_22 : decode cn_X2_behind 22 = .ok (.iaload, 1) := by decide +kernel
theorem dn_X2_behind_23 : decode cn_X2_behind 23 = .ok (.iload_n 1, 1) := by decide +kernel
theorem dn_X2_behind_24 : decode cn_X2_behind 24 = .ok (.if_icmp .ne 13, 3) := by decide +kernel
theorem dn_X2_behind_27 : decode cn_X2_behind 27 = .ok (.aload_n 0, 1) := by decide +kernel
theorem dn_X2_behind_28 : decode cn_X2_behind 28 = .ok (.iconst 1, 1) := by decide +kernel
theorem dn_X2_behind_29 : decode cn_X2_behind 29 = .ok (.invokevirtual 158, 3) := by decide +kernel
theorem dn_X2_behind_32 : decode cn_X2_behind 32 = .ok (.ifCond .eq 5, 3) := by decide +kernel
theorem dn_X2_behind_35 : decode cn_X2_behind 35 = .ok (.iconst (-1), 1) := by decide +kernel
theorem dn_X2_behind_36 : decode cn_X2_behind 36 = .ok (.ireturn, 1) := by decide +kernel
theorem dn_X2_behind_37 : decode cn_X2_behind 37 = .ok (.aload_n 0, 1) := by decide +kernel
theorem dn_X2_behind_38 : decode cn_X2_behind 38 = .ok (.getfield 12, 3) := by decide +kernel
theorem dn_X2_behind_41 : decode cn_X2_behind 41 = .ok (.getfield 155, 3) := by decide +kernel
theorem dn_X2_behind_44 : decode cn_X2_behind 44 = .ok (.iconst 2, 1) := by decide +kernel
theorem dn_X2_behind_45 : decode cn_X2_behind 45 = .ok (.iaload, 1) := by decide +kernel
theorem dn_X2_behind_46 : decode cn_X2_behind 46 = .ok (.iload_n 1, 1) := by decide +kernel
theorem dn_X2_behind_47 : decode cn_X2_behind 47 = .ok (.if_icmp .ne 37, 3) := by decide +kernel
theorem dn_X2_behind_50 : decode cn_X2_behind 50 = .ok (.aload_n 0, 1) := by decide +kernel
theorem dn_X2_behind_51 : decode cn_X2_behind 51 = .ok (.iconst 2, 1) := by decide +kernel
theorem dn_X2_behind_52 : decode cn_X2_behind 52 = .ok (.invokevirtual 158, 3) := by decide +kernel
theorem dn_X2_behind_55 : decode cn_X2_behind 55 = .ok (.ifCond .eq 29, 3) := by decide +kernel
theorem dn_X2_behind_58 : decode cn_X2_behind 58 = .ok (.aload_n 0, 1) := by decide +kernel
theorem dn_X2_behind_59 : decode cn_X2_behind 59 = .ok (.getfield 73, 3) := by decide +kernel
theorem dn_X2_behind_62 : decode cn_X2_behind 62 = .ok (.ifCond .ne 22, 3) := by decide +kernel
theorem dn_X2_behind_65 : decode cn_X2_behind 65 = .ok (.aload_n 0, 1) := by decide +kernel
theorem dn_X2_behind_66 : decode cn_X2_behind 66 = .ok (.invokevirtual 83, 3) := by decide +kernel
theorem dn_X2_behind_69 : decode cn_X2_behind 69 = .ok (.aload_n 0, 1) := by decide +kernel
theorem dn_X2_behind_70 : decode cn_X2_behind 70 = .ok (.iconst 1, 1) := by decide +kernel
theorem dn_X2_behind_71 : decode cn_X2_behind 71 = .ok (.putfield 73, 3) := by decide +kernel
theorem dn_X2_behind_74 : decode cn_X2_behind 74 = .ok (.aload_n 0, 1) := by decide +kernel
theorem dn_X2_behind_75 : decode cn_X2_behind 75 = .ok (.getfield 12, 3) := by decide +kernel
theorem dn_X2_behind_78 : decode cn_X2_behind 78 = .ok (.getfield 155, 3) := by decide +kernel
theorem dn_X2_behind_81 : decode cn_X2_behind 81 = .ok (.iconst 1, 1) := by decide +kernel
theorem dn_X2_behind_82 : decode cn_X2_behind 82 = .ok (.iaload, 1) := by decide +kernel
theorem dn_X2_behind_83 : decode cn_X2_behind 83 = .ok (.ireturn, 1) := by decide +kernel
theorem dn_X2_behind_84 : decode cn_X2_behind 84 = .ok (.aload_n 0, 1) := by decide +kernel
theorem dn_X2_behind_85 : decode cn_X2_behind 85 = .ok (.getfield 12, 3) := by decide +kernel
theorem dn_X2_behind_88 : decode cn_X2_behind 88 = .ok (.iload_n 1, 1) := by decide +kernel
theorem dn_X2_behind_89 : decode cn_X2_behind 89 = .ok (.invokevirtual 89, 3) := by decide +kernel
theorem dn_X2_behind_92 : decode cn_X2_behind 92 = .ok (.ifCond .eq 18, 3) := by decide +kernel
theorem dn_X2_behind_95 : decode cn_X2_behind 95 = .ok (.aload_n 0, 1) := by decide +kernel
theorem dn_X2_behind_96 : decode cn_X2_behind 96 = .ok (.getfield 40, 3) := by decide +kernel
theorem dn_X2_behind_99 : decode cn_X2_behind 99 = .ok (.iload_n 1, 1) := by decide +kernel
theorem dn_X2_behind_100 : decode cn_X2_behind 100 = .ok (.baload, 1) := by decide +kernel
theorem dn_X2_behind_101 : decode cn_X2_behind 101 = .ok (.ifCond .ne 9, 3) := by decide +kernel
theorem dn_X2_behind_104 : decode cn_X2_behind 104 = .ok (.aload_n 0, 1) := by decide +kernel
theorem dn_X2_behind_105 : decode cn_X2_behind 105 = .ok (.iload_n 1, 1) := by decide +kernel
theorem dn_X2_behind_106 : decode cn_X2_behind 106 = .ok (.invokevirtual 161, 3) := by decide +kernel
theorem dn_X2_behind_109 : decode cn_X2_behind 109 = .ok (.ireturn, 1) := by decide +kernel
theorem dn_X2_behind_110 : decode cn_X2_behind 110 = .ok (.aload_n 0, 1) := by decide +kernel
theorem dn_X2_behind_111 : decode cn_X2_behind 111 = .ok (.iload_n 1, 1) := by decide +kernel
theorem dn_X2_behind_112 : decode cn_X2_behind 112 = .ok (.invokevirtual 117, 3) := by decide +kernel
theorem dn_X2_behind_115 : decode cn_X2_behind 115 = .ok (.ireturn, 1) := by decide +kernel
theorem dn_X2_isInLastPasses_0 : decode cn_X2_isInLastPasses 0 = .ok (.iconst 0, 1) := by decide +kernel
theorem dn_X2_isInLastPasses_1 : decode cn_X2_isInLastPasses 1 = .ok (.istore_n 2, 1) := by decide +kernel
theorem dn_X2_isInLastPasses_2 : decode cn_X2_isInLastPasses 2 = .ok (.iload_n 2, 1) := by decide +kernel
theorem dn_X2_isInLastPasses_3 : decode cn_X2_isInLastPasses 3 = .ok (.aload_n 0, 1) := by decide +kernel
theorem dn_X2_isInLastPasses_4 : decode cn_X2_isInLastPasses 4 = .ok (.getfield 12, 3) := by decide +kernel
theorem dn_X2_isInLastPasses_7 : decode cn_X2_isInLastPasses 7 = .ok (.getfield 129, 3) := by decide +kernel
theorem dn_X2_isInLastPasses_10 : decode cn_X2_isInLastPasses 10 = .ok (.iload_n 1, 1) := by decide +kernel
theorem dn_X2_isInLastPasses_11 : decode cn_X2_isInLastPasses 11 = .ok (.iaload, 1) := by decide +kernel
theorem dn_X2_isInLastPasses_12 : decode cn_X2_isInLastPasses 12 = .ok (.if_icmp .ge 39, 3) := by decide +kernel
theorem dn_X2_isInLastPasses_15 : decode cn_X2_isInLastPasses 15 = .ok (.aload_n 0, 1) := by decide +kernel
theorem dn_X2_isInLastPasses_16 : decode cn_X2_isInLastPasses 16 = .ok (.getfield 12, 3) := by decide +kernel
theorem dn_X2_isInLastPasses_19 : decode cn_X2_isInLastPasses 19 = .ok (.iload_n 1, 1) := by decide +kernel
theorem dn_X2_isInLastPasses_20 : decode cn_X2_isInLastPasses 20 = .ok (.iload_n 2, 1) := by decide +kernel
theorem dn_X2_isInLastPasses_21 : decode cn_X2_isInLastPasses 21 = .ok (.invokevirtual 132, 3) := by decide +kernel
theorem dn_X2_isInLastPasses_24 : decode cn_X2_isInLastPasses 24 = .ok (.istore_n 3, 1) := by decide +kernel
theorem dn_X2_isInLastPasses_25 : decode cn_X2_isInLastPasses 25 = .ok (.aload_n 0, 1) := by decide +kernel
theorem dn_X2_isInLastPasses_26 : decode cn_X2_isInLastPasses 26 = .ok (.getfield 37, 3) := by decide +kernel
theorem dn_X2_isInLastPasses_29 : decode cn_X2_isInLastPasses 29 = .ok (.iload_n 3, 1) := by decide +kernel
theorem dn_X2_isInLastPasses_30 : decode cn_X2_isInLastPasses 30 = .ok (.iaload, 1) := by decide +kernel
theorem dn_X2_isInLastPasses_31 : decode cn_X2_isInLastPasses 31 = .ok (.aload_n 0, 1) := by decide +kernel
theorem dn_X2_isInLastPasses_32 : decode cn_X2_isInLastPasses 32 = .ok (.getfield 12, 3) := by decide +kernel
theorem dn_X2_isInLastPasses_35 : decode cn_X2_isInLastPasses 35 = .ok (.getfield 136, 3) := by decide +kernel
theorem dn_X2_isInLastPasses_38 : decode cn_X2_isInLastPasses 38 = .ok (.iload_n 3, 1) := by decide +kernel
theorem dn_X2_isInLastPasses_39 : decode cn_X2_isInLastPasses 39 = .ok (.iaload, 1) := by decide +kernel
theorem dn_X2_isInLastPasses_40 : decode cn_X2_isInLastPasses 40 = .ok (.if_icmp .ge 5, 3) := by decide +kernel
theorem dn_X2_isInLastPasses_43 : decode cn_X2_isInLastPasses 43 = .ok (.iconst 0, 1) := by decide +kernel
theorem dn_X2_isInLastPasses_44 : decode cn_X2_isInLastPasses 44 = .ok (.ireturn, 1) := by decide +kernel
theorem dn_X2_isInLastPasses_45 : decode cn_X2_isInLastPasses 45 = .ok (.iinc 2 1, 3) := by decide +kernel
theorem dn_X2_isInLastPasses_48 : decode cn_X2_isInLastPasses 48 = .ok (.goto (-46), 3) := by decide +kernel
theorem dn_X2_isInLastPasses_51 : decode cn_X2_isInLastPasses 51 = .ok (.iconst 1, 1) := by decide +kernel
theorem dn_X2_isInLastPasses_52 : decode cn_X2_isInLastPasses 52 = .ok (.ireturn, 1) := by decide +kernel
theorem dn_X2_isLatestJumpTill_0 : decode cn_X2_isLatestJumpTill 0 = .ok (.aload_n 0, 1) := by decide +kernel
theorem dn_X2_isLatestJumpTill_1 : decode cn_X2_isLatestJumpTill 1 = .ok (.getfield 44, 3) := by decide +kernel
theorem dn_X2_isLatestJumpTill_4 : decode cn_X2_isLatestJumpTill 4 = .ok (.iconst (-1), 1) := by decide +kernel
theorem dn_X2_isLatestJumpTill_5 : decode cn_X2_isLatestJumpTill 5 = .ok (.if_icmp .eq 23, 3) := by decide +kernel
theorem dn_X2_isLatestJumpTill_8 : decode cn_X2_isLatestJumpTill 8 = .ok (.aload_n 0, 1) := by decide +kernel
theorem dn_X2_isLatestJumpTill_9 : decode cn_X2_isLatestJumpTill 9 = .ok (.getfield 12, 3) := by decide +kernel
theorem dn_X2_isLatestJumpTill_12 : decode cn_X2_isLatestJumpTill 12 = .ok (.getfield 164, 3) := by decide +kernel
theorem dn_X2_isLatestJumpTill_15 : decode cn_X2_isLatestJumpTill 15 = .ok (.aload_n 0, 1) := by decide +kernel
theorem dn_X2_isLatestJumpTill_16 : decode cn_X2_isLatestJumpTill 16 = .ok (.getfield 44, 3) := by decide +kernel
theorem dn_X2_isLatestJumpTill_19 : decode cn_X2_isLatestJumpTill 19 = .ok (.iaload, 1) := by decide +kernel
theorem dn_X2_isLatestJumpTill_20 : decode cn_X2_isLatestJumpTill 20 = .ok (.iload_n 1, 1) := by decide +kernel
theorem dn_X2_isLatestJumpTill_21 : decode cn_X2_isLatestJumpTill 21 = .ok (.if_icmp .ne 7, 3) := by decide +kernel
theorem dn_X2_isLatestJumpTill_24 : decode cn_X2_isLatestJumpTill 24 = .ok (.iconst 1, 1) := by decide +kernel
theorem dn_X2_isLatestJumpTill_25 : decode cn_X2_isLatestJumpTill 25 = .ok (.goto 4, 3) := by decide +kernel
theorem dn_X2_isLatestJumpTill_28 : decode cn_X2_isLatestJumpTill 28 = .ok (.iconst 0, 1) := by decide +kernel
theorem dn_X2_isLatestJumpTill_29 : decode cn_X2_isLatestJumpTill 29 = .ok (.ireturn, 1) := by decide +kernel
theorem dn_X2_act_0 : decode cn_X2_act 0 = .ok (.aload_n 0, 1) := by decide +kernel
theorem dn_X2_act_1 : decode cn_X2_act 1 = .ok (.getfield 40, 3) := by decide +kernel
theorem dn_X2_act_4 : decode cn_X2_act 4 = .ok (.iload_n 1, 1) := by decide +kernel
theorem dn_X2_act_5 : decode cn_X2_act 5 = .ok (.iconst 1, 1) := by decide +kernel
theorem dn_X2_act_6 : decode cn_X2_act 6 = .ok (.bastore, 1) := by decide +kernel
theorem dn_X2_act_7 : decode cn_X2_act 7 = .ok (.aload_n 0, 1) := by decide +kernel
theorem dn_X2_act_8 : decode cn_X2_act 8 = .ok (.iload_n 1, 1) := by decide +kernel
theorem dn_X2_act_9 : decode cn_X2_act 9 = .ok (.putfield 44, 3) := by decide +kernel
theorem dn_X2_act_12 : decode cn_X2_act 12 = .ok (.aload_n 0, 1) := by decide +kernel
theorem dn_X2_act_13 : decode cn_X2_act 13 = .ok (.iconst 0, 1) := by decide +kernel
theorem dn_X2_act_14 : decode cn_X2_act 14 = .ok (.putfield 73, 3) := by decide +kernel
theorem dn_X2_act_17 : decode cn_X2_act 17 = .ok (.aload_n 0, 1) := by decide +kernel
theorem dn_X2_act_18 : decode cn_X2_act 18 = .ok (.dup, 1) := by decide +kernel
theorem dn_X2_act_19 : decode cn_X2_act 19 = .ok (.getfield 70, 3) := by decide +kernel
theorem dn_X2_act_22 : decode cn_X2_act 22 = .ok (.iconst 1, 1) := by decide +kernel
theorem dn_X2_act_23 : decode cn_X2_act 23 = .ok (.iadd, 1) := by decide +kernel
theorem dn_X2_act_24 : decode cn_X2_act 24 = .ok (.putfield 70, 3) := by decide +kernel
theorem dn_X2_act_27 : decode cn_X2_act 27 = .ok (.aload_n 0, 1) := by decide +kernel
theorem dn_X2_act_28 : decode cn_X2_act 28 = .ok (.invokevirtual 83, 3) := by decide +kernel
theorem dn_X2_act_31 : decode cn_X2_act 31 = .ok (.aload_n 0, 1) := by decide +kernel
theorem dn_X2_act_32 : decode cn_X2_act 32 = .ok (.getfield 12, 3) := by decide +kernel
theorem dn_X2_act_35 : decode cn_X2_act 35 = .ok (.getfield 167, 3) := by decide +kernel
theorem dn_X2_act_38 : decode cn_X2_act 38 = .ok (.iload_n 1, 1) := by decide +kernel
theorem dn_X2_act_39 : decode cn_X2_act 39 = .ok (.iaload, 1) := by decide +kernel
theorem dn_X2_act_40 : decode cn_X2_act 40 = .ok (.iconst 1, 1) := by decide +kernel
theorem dn_X2_act_41 : decode cn_X2_act 41 = .ok (.if_icmp .ne 15, 3) := by decide +kernel
theorem dn_X2_act_44 : decode cn_X2_act 44 = .ok (.aload_n 0, 1) := by decide +kernel
theorem dn_X2_act_45 : decode cn_X2_act 45 = .ok (.getfield 12, 3) := by decide +kernel
theorem dn_X2_act_48 : decode cn_X2_act 48 = .ok (.getfield 155, 3) := by decide +kernel
theorem dn_X2_act_51 : decode cn_X2_act 51 = .ok (.iconst 0, 1) := by decide +kernel
theorem dn_X2_act_52 : decode cn_X2_act 52 = .ok (.iaload, 1) := by decide +kernel
theorem dn_X2_act_53 : decode cn_X2_act 53 = .ok (.goto 4, 3) := by decide +kernel
theorem dn_X2_act_56 : decode cn_X2_act 56 = .ok (.iconst 0, 1) := by decide +kernel
theorem dn_X2_act_57 : decode cn_X2_act 57 = .ok (.ireturn, 1) := by decide +kernel
theorem dn_X2_endOf_0 : decode cn_X2_endOf 0 = .ok (.aload_n 0, 1) := by decide +kernel
theorem dn_X2_endOf_1 : decode cn_X2_endOf 1 = .ok (.getfield 12, 3) := by decide +kernel
theorem dn_X2_endOf_4 : decode cn_X2_endOf 4 = .ok (.getfield 129, 3) := by decide +kernel
theorem dn_X2_endOf_7 : decode cn_X2_endOf 7 = .ok (.iload_n 1, 1) := by decide +kernel
theorem dn_X2_endOf_8 : decode cn_X2_endOf 8 = .ok (.iaload, 1) := by decide +kernel
theorem dn_X2_endOf_9 : decode cn_X2_endOf 9 = .ok (.iconst 1, 1) := by decide +kernel
theorem dn_X2_endOf_10 : decode cn_X2_endOf 10 = .ok (.isub, 1) := by decide +kernel
theorem dn_X2_endOf_11 : decode cn_X2_endOf 11 = .ok (.istore_n 2, 1) := by decide +kernel
theorem dn_X2_endOf_12 : decode cn_X2_endOf 12 = .ok (.iload_n 2, 1) := by decide +kernel
theorem dn_X2_endOf_13 : decode cn_X2_endOf 13 = .ok (.ifCond .lt 86, 3) := by decide +kernel
theorem dn_X2_endOf_16 : decode cn_X2_endOf 16 = .ok (.aload_n 0, 1) := by decide +kernel
theorem dn_X2_endOf_17 : decode cn_X2_endOf 17 = .ok (.getfield 12, 3) := by decide +kernel
theorem dn_X2_endOf_20 : decode cn_X2_endOf 20 = .ok (.iload_n 1, 1) := by decide +kernel
theorem dn_X2_endOf_21 : decode cn_X2_endOf 21 = .ok (.iload_n 2, 1) := by decide +kernel
theorem dn_X2_endOf_22 : decode cn_X2_endOf 22 = .ok (.invokevirtual 132, 3) := by decide +kernel
theorem dn_X2_endOf_25 : decode cn_X2_endOf 25 = .ok (.istore_n 3, 1) := by decide +kernel
theorem dn_X2_endOf_26 : decode cn_X2_endOf 26 = .ok (.aload_n 0, 1) := by decide +kernel
theorem dn_X2_endOf_27 : decode cn_X2_endOf 27 = .ok (.getfield 12, 3) := by decide +kernel
theorem dn_X2_endOf_30 : decode cn_X2_endOf 30 = .ok (.getfield 170, 3) := by decide +kernel
theorem dn_X2_endOf_33 : decode cn_X2_endOf 33 = .ok (.iload_n 3, 1) := by decide +kernel
theorem dn_X2_endOf_34 : decode cn_X2_endOf 34 = .ok (.iaload, 1) := by decide +kernel
theorem dn_X2_endOf_35 : decode cn_X2_endOf 35 = .ok (.iload_n 1, 1) := by decide +kernel
theorem dn_X2_endOf_36 : decode cn_X2_endOf 36 = .ok (.if_icmp .ne 57, 3) := by decide +kernel
theorem dn_X2_endOf_39 : decode cn_X2_endOf 39 = .ok (.aload_n 0, 1) := by decide +kernel
theorem dn_X2_endOf_40 : decode cn_X2_endOf 40 = .ok (.getfield 37, 3) := by decide +kernel
theorem dn_X2_endOf_43 : decode cn_X2_endOf 43 = .ok (.iload_n 3, 1) := by decide +kernel
theorem dn_X2_endOf_44 : decode cn_X2_endOf 44 = .ok (.iaload, 1) := by decide +kernel
theorem dn_X2_endOf_45 : decode cn_X2_endOf 45 = .ok (.ifCond .eq 48, 3) := by decide +kernel
theorem dn_X2_endOf_48 : decode cn_X2_endOf 48 = .ok (.aload_n 0, 1) := by decide +kernel
theorem dn_X2_endOf_49 : decode cn_X2_endOf 49 = .ok (.getfield 37, 3) := by decide +kernel
theorem dn_X2_endOf_52 : decode cn_X2_endOf 52 = .ok (.iload_n 3, 1) := by decide +kernel
theorem dn_X2_endOf_53 : decode cn_X2_endOf 53 = .ok (.iaload, 1) := by decide +kernel
theorem dn_X2_endOf_54 : decode cn_X2_endOf 54 = .ok (.aload_n 0, 1) := by decide +kernel
theorem dn_X2_endOf_55 : decode cn_X2_endOf 55 = .ok (.getfield 12, 3) := by decide +kernel
theorem dn_X2_endOf_58 : decode cn_X2_endOf 58 = .ok (.getfield 136, 3) := by decide +kernel
theorem dn_X2_endOf_61 : decode cn_X2_endOf 61 = .ok (.iload_n 3, 1) := by decide +kernel
theorem dn_X2_endOf_62 : decode cn_X2_endOf 62 = .ok (.iaload, 1) := by decide +kernel
theorem dn_X2_endOf_63 : decode cn_X2_endOf 63 = .ok (.if_icmp .ge 23, 3) := by decide +kernel
theorem dn_X2_endOf_66 : decode cn_X2_endOf 66 = .ok (.aload_n 0, 1) := by decide +kernel
theorem dn_X2_endOf_67 : decode cn_X2_endOf 67 = .ok (.getfield 37, 3) := by decide +kernel
theorem dn_X2_endOf_70 : decode cn_X2_endOf 70 = .ok (.iload_n 3, 1) := by decide +kernel
theorem dn_X2_endOf_71 : decode cn_X2_endOf 71 = .ok (.dup2, 1) := by decide +kernel
theorem dn_X2_endOf_72 : decode cn_X2_endOf 72 = .ok (.iaload, 1) := by decide +kernel
theorem dn_X2_endOf_73 : decode cn_X2_endOf 73 = .ok (.iconst 1, 1) := by decide +kernel
theorem dn_X2_endOf_74 : decode cn_X2_endOf 74 = .ok (.iadd, 1) := by decide +kernel
theorem dn_X2_endOf_75 : decode cn_X2_endOf 75 = .ok (.iastore, 1) := by decide +kernel
theorem dn_X2_endOf_76 : decode cn_X2_endOf 76 = .ok (.aload_n 0, 1) := by decide +kernel
theorem dn_X2_endOf_77 : decode cn_X2_endOf 77 = .ok (.getfield 12, 3) := by decide +kernel
theorem dn_X2_endOf_80 : decode cn_X2_endOf 80 = .ok (.getfield 173, 3) := by decide +kernel
theorem dn_X2_endOf_83 : decode cn_X2_endOf 83 = .ok (.iload_n 3, 1) := by decide +kernel
theorem dn_X2_endOf_84 : decode cn_X2_endOf 84 = .ok (.iaload, 1) := by decide +kernel
theorem dn_X2_endOf_85 : decode cn_X2_endOf 85 = .ok (.ireturn, 1) := by decide +kernel
theorem dn_X2_endOf_86 : decode cn_X2_endOf 86 = .ok (.aload_n 0, 1) := by decide +kernel
theorem dn_X2_endOf_87 : decode cn_X2_endOf 87 = .ok (.getfield 37, 3) := by decide +kernel
theorem dn_X2_endOf_90 : decode cn_X2_endOf 90 = .ok (.iload_n 3, 1) := by decide +kernel
theorem dn_X2_endOf_91 : decode cn_X2_endOf 91 = .ok (.iconst 0, 1) := by decide +kernel
theorem dn_X2_endOf_92 : decode cn_X2_endOf 92 = .ok (.iastore, 1) := by decide +kernel
theorem dn_X2_endOf_93 : decode cn_X2_endOf 93 = .ok (.iinc 2 (-1), 3) := by decide +kernel
theorem dn_X2_endOf_96 : decode cn_X2_endOf 96 = .ok (.goto (-84), 3) := by decide +kernel
theorem dn_X2_endOf_99 : decode cn_X2_endOf 99 = .ok (.iload_n 1, 1) := by decide +kernel
theorem dn_X2_endOf_100 : decode cn_X2_endOf 100 = .ok (.iconst 1, 1) := by decide +kernel
theorem dn_X2_endOf_101 : decode cn_X2_endOf 101 = .ok (.iadd, 1) := by decide +kernel
theorem dn_X2_endOf_102 : decode cn_X2_endOf 102 = .ok (.aload_n 0, 1) := by decide +kernel
theorem dn_X2_endOf_103 : decode cn_X2_endOf 103 = .ok (.getfield 12, 3) := by decide +kernel
theorem dn_X2_endOf_106 : decode cn_X2_endOf 106 = .ok (.getfield 86, 3) := by decide +kernel
theorem dn_X2_endOf_109 : decode cn_X2_endOf 109 = .ok (.if_icmp .ge 9, 3) := by decide +kernel
theorem dn_X2_endOf_112 : decode cn_X2_endOf 112 = .ok (.iload_n 1, 1) := by decide +kernel
theorem dn_X2_endOf_113 : decode cn_X2_endOf 113 = .ok (.iconst 1, 1) := by decide +kernel
theorem dn_X2_endOf_114 : decode cn_X2_endOf 114 = .ok (.iadd, 1) := by decide +kernel
theorem dn_X2_endOf_115 : decode cn_X2_endOf 115 = .ok (.goto 4, 3) := by decide +kernel
theorem dn_X2_endOf_118 : decode cn_X2_endOf 118 = .ok (.iconst (-1), 1) := by decide +kernel
theorem dn_X2_endOf_119 : decode cn_X2_endOf 119 = .ok (.ireturn, 1) := by decide +kernel
end
section
theorem dn_X3_init_0 : decode cn_X3_init 0 = .ok (.aload_n 0, 1) := by decide +kernel
theorem dn_X3_init_1 : decode cn_X3_init 1 = .ok (.invokespecial 3, 3) := by decide +kernel
theorem dn_X3_init_4 : decode cn_X3_init 4 = .ok (.aload_n 0, 1) := by decide +kernel
theorem dn_X3_init_5 : decode cn_X3_init 5 = .ok (.bipush 40, 2) := by decide +kernel
theorem dn_X3_init_7 : decode cn_X3_init 7 = .ok (.newarray .int, 2) := by decide +kernel
theorem dn_X3_init_9 : decode cn_X3_init 9 = .ok (.putfield 9, 3) := by decide +kernel
theorem dn_X3_init_12 : decode cn_X3_init 12 = .ok (.aload_n 0, 1) := by decide +kernel
theorem dn_X3_init_13 : decode cn_X3_init 13 = .ok (.sipush 1681, 3) := by decide +kernel
theorem dn_X3_init_16 : decode cn_X3_init 16 = .ok (.newarray .int, 2) := by decide +kernel
theorem dn_X3_init_18 : decode cn_X3_init 18 = .ok (.putfield 15, 3) := by decide +kernel
theorem dn_X3_init_21 : decode cn_X3_init 21 = .ok (.aload_n 0, 1) := by decide +kernel
theorem dn_X3_init_22 : decode cn_X3_init 22 = .ok (.sipush 1681, 3) := by decide +kernel
theorem dn_X3_init_25 : decode cn_X3_init 25 = .ok (.newarray .int, 2) := by decide +kernel
theorem dn_X3_init_27 : decode cn_X3_init 27 = .ok (.putfield 18, 3) := by decide +kernel
theorem dn_X3_init_30 : decode cn_X3_init 30 = .ok (.aload_n 0, 1) := by decide +kernel
theorem dn_X3_init_31 : decode cn_X3_init 31 = .ok (.sipush 1681, 3) := by decide +kernel
theorem dn_X3_init_34 : decode cn_X3_init 34 = .ok (.newarray .int, 2) := by decide +kernel
theorem dn_X3_init_36 : decode cn_X3_init 36 = .ok (.putfield 21, 3) := by decide +kernel
theorem dn_X3_init_39 : decode cn_X3_init 39 = .ok (.aload_n 0, 1) := by decide +kernel
theorem dn_X3_init_40 : decode cn_X3_init 40 = .ok (.sipush 160, 3) := by decide +kernel
theorem dn_X3_init_43 : decode cn_X3_init 43 = .ok (.newarray .int, 2) := by decide +kernel
theorem dn_X3_init_45 : decode cn_X3_init 45 = .ok (.putfield 24, 3) := by decide +kernel
theorem dn_X3_init_48 : decode cn_X3_init 48 = .ok (.aload_n 0, 1) := by decide +kernel
theorem dn_X3_init_49 : decode cn_X3_init 49 = .ok (.sipush 160, 3) := by decide +kernel
theorem dn_X3_init_52 : decode cn_X3_init 52 = .ok (.newarray .int, 2) := by decide +kernel
theorem dn_X3_init_54 : decode cn_X3_init 54 = .ok (.putfield 27, 3) := by decide +kernel
theorem dn_X3_init_57 : decode cn_X3_init 57 = .ok (.aload_n 0, 1) := by decide +kernel
theorem dn_X3_init_58 : decode cn_X3_init 58 = .ok (.bipush 80, 2) := by decide +kernel
theorem dn_X3_init_60 : decode cn_X3_init 60 = .ok (.newarray .int, 2) := by decide +kernel
theorem dn_X3_init_62 : decode cn_X3_init 62 = .ok (.putfield 30, 3) := by decide +kernel
theorem dn_X3_init_65 : decode cn_X3_init 65 = .ok (.aload_n 0, 1) := by decide +kernel
theorem dn_X3_init_66 : decode cn_X3_init 66 = .ok (.bipush 80, 2) := by decide +kernel
theorem dn_X3_init_68 : decode cn_X3_init 68 = .ok (.newarray .int, 2) := by decide +kernel
theorem dn_X3_init_70 : decode cn_X3_init 70 = .ok (.putfield 33, 3) := by decide +kernel
theorem dn_X3_init_73 : decode cn_X3_init 73 = .ok (.return_, 1) := by decide +kernel
theorem dn_X3_cell_0 : decode cn_X3_cell 0 = .ok (.iload_n 0, 1) := by decide +kernel
theorem dn_X3_cell_1 : decode cn_X3_cell 1 = .ok (.bipush 41, 2) := by decide +kernel
theorem dn_X3_cell_3 : decode cn_X3_cell 3 = .ok (.imul, 1) := by decide +kernel
theorem dn_X3_cell_4 : decode cn_X3_cell 4 = .ok (.iload_n 1, 1) := by decide +kernel
theorem dn_X3_cell_5 : decode cn_X3_cell 5 = .ok (.iadd, 1) := by decide +kernel
theorem dn_X3_cell_6 : decode cn_X3_cell 6 = .ok (.ireturn, 1) := by decide +kernel
theorem dn_X3_writeRow_0 : decode cn_X3_writeRow 0 = .ok (.aload_n 0, 1) := by decide +kernel
theorem dn_X3_writeRow_1 : decode cn_X3_writeRow 1 = .ok (.iload_n 1, 1) := by decide +kernel
theorem dn_X3_writeRow_2 : decode cn_X3_writeRow 2 = .ok (.invokevirtual 36, 3) := by decide +kernel
theorem dn_X3_writeRow_5 : decode cn_X3_writeRow 5 = .ok (.iconst 1, 1) := by decide +kernel
theorem dn_X3_writeRow_6 : decode cn_X3_writeRow 6 = .ok (.istore_n 2, 1) := by decide +kernel
theorem dn_X3_writeRow_7 : decode cn_X3_writeRow 7 = .ok (.iload_n 2, 1) := by decide +kernel
theorem dn_X3_writeRow_8 : decode cn_X3_writeRow 8 = .ok (.iload_n 1, 1) := by decide +kernel
theorem dn_X3_writeRow_9 : decode cn_X3_writeRow 9 = .ok (.if_icmp .gt 30, 3) := by decide +kernel
theorem dn_X3_writeRow_12 : decode cn_X3_writeRow 12 = .ok (.iconst 0, 1) := by decide +kernel
theorem dn_X3_writeRow_13 : decode cn_X3_writeRow 13 = .ok (.istore_n 3, 1) := by decide +kernel
theorem dn_X3_writeRow_14 : decode cn_X3_writeRow 14 = .ok (.iload_n 3, 1) := by decide +kernel
theorem dn_X3_writeRow_15 : decode cn_X3_writeRow 15 = .ok (.iload_n 2, 1) := by decide +kernel
theorem dn_X3_writeRow_16 : decode cn_X3_writeRow 16 = .ok (.iadd, 1) := by decide +kernel
theorem dn_X3_writeRow_17 : decode cn_X3_writeRow 17 = .ok (.iload_n 1, 1) := by decide +kernel
theorem dn_X3_writeRow_18 : decode cn_X3_writeRow 18 = .ok (.if_icmp .gt 15, 3) := by decide +kernel
theorem dn_X3_writeRow_21 : decode cn_X3_writeRow 21 = .ok (.aload_n 0, 1) := by decide +kernel
theorem dn_X3_writeRow_22 : decode cn_X3_writeRow 22 = .ok (.iload_n 3, 1) := by decide +kernel
theorem dn_X3_writeRow_23 : decode cn_X3_writeRow 23 = .ok (.iload_n 2, 1) := by decide +kernel
theorem dn_X3_writeRow_24 : decode cn_X3_writeRow 24 = .ok (.invokevirtual 40, 3) := by decide +kernel
theorem dn_X3_writeRow_27 : decode cn_X3_writeRow 27 = .ok (.iinc 3 1, 3) := by decide +kernel
theorem dn_X3_writeRow_30 : decode cn_X3_writeRow 30 = .ok (.goto (-16), 3) := by decide +kernel
theorem dn_X3_writeRow_33 : decode cn_X3_writeRow 33 = .ok (.iinc 2 1, 3) := by decide +kernel
theorem dn_X3_writeRow_36 : decode cn_X3_writeRow 36 = .ok (.goto (-29), 3) := by decide +kernel
theorem dn_X3_writeRow_39 : decode cn_X3_writeRow 39 = .ok (.aload_n 0, 1) := by decide +kernel
theorem dn_X3_writeRow_40 : decode cn_X3_writeRow 40 = .ok (.iload_n 1, 1) := by decide +kernel
theorem dn_X3_writeRow_41 : decode cn_X3_writeRow 41 = .ok (.invokevirtual 44, 3) := by decide +kernel
theorem dn_X3_writeRow_44 : decode cn_X3_writeRow 44 = .ok (.aload_n 0, 1) := by decide +kernel
theorem dn_X3_writeRow_45 : decode cn_X3_writeRow 45 = .ok (.getfield 47, 3) := by decide +kernel
theorem dn_X3_writeRow_48 : decode cn_X3_writeRow 48 = .ok (.ireturn, 1) := by decide +kernel
theorem dn_X3_compareContents_0 : decode cn_X3_compareContents 0 = .ok (.iload_n 1, 1) := by decide +kernel
theorem dn_X3_compareContents_1 : decode cn_X3_compareContents 1 = .ok (.iconst 1, 1) := by decide +kernel
theorem dn_X3_compareContents_2 : decode cn_X3_compareContents 2 = .ok (.isub, 1) := by decide +kernel
theorem dn_X3_compareContents_3 : decode cn_X3_compareContents 3 = .ok (.istore_n 2, 1) := by decide +kernel
theorem dn_X3_compareContents_4 : decode cn_X3_compareContents 4 = .ok (.iload_n 2, 1) := by decide +kernel
theorem dn_X3_compareContents_5 : decode cn_X3_compareContents 5 = .ok (.ifCond .lt 84, 3) := by decide +kernel
theorem dn_X3_compareContents_8 : decode cn_X3_compareContents 8 = .ok (.iload_n 1, 1) := by decide +kernel
theorem dn_X3_compareContents_9 : decode cn_X3_compareContents 9 = .ok (.iconst 1, 1) := by decide +kernel
theorem dn_X3_compareContents_10 : decode cn_X3_compareContents 10 = .ok (.isub, 1) := by decide +kernel
theorem dn_X3_compareContents_11 : decode cn_X3_compareContents 11 = .ok (.istore_n 3, 1) := by decide +kernel
theorem dn_X3_compareContents_12 : decode cn_X3_compareContents 12 = .ok (.iload_n 3, 1) := by decide +kernel
theorem dn_X3_compareContents_13 : decode cn_X3_compareContents 13 = .ok (.iload_n 2, 1) := by decide +kernel
theorem dn_X3_compareContents_14 : decode cn_X3_compareContents 14 = .ok (.if_icmp .le 69, 3) := by decide +kernel
theorem dn_X3_compareContents_17 : decode cn_X3_compareContents 17 = .ok (.iload_n 3, 1) := by decide +kernel
theorem dn_X3_compareContents_18 : decode cn_X3_compareContents 18 = .ok (.iconst 1, 1) := by decide +kernel
theorem dn_X3_compareContents_19 : decode cn_X3_compareContents 19 = .ok (.iadd, 1) := by decide +kernel
theorem dn_X3_compareContents_20 : decode cn_X3_compareContents 20 = .ok (.iload_n 1, 1) := by decide +kernel
theorem dn_X3_compareContents_21 : decode cn_X3_compareContents 21 = .ok (.if_icmp .ge 20, 3) := by decide +kernel
theorem dn_X3_compareContents_24 : decode cn_X3_compareContents 24 = .ok (.aload_n 0, 1) := by decide +kernel
theorem dn_X3_compareContents_25 : decode cn_X3_compareContents 25 = .ok (.getfield 15, 3) := by decide +kernel
theorem dn_X3_compareContents_28 : decode cn_X3_compareContents 28 = .ok (.iload_n 2, 1) := by decide +kernel
theorem dn_X3_compareContents_29 : decode cn_X3_compareContents 29 = .ok (.iconst 1, 1) := by decide +kernel
theorem dn_X3_compareContents_30 : decode cn_X3_compareContents 30 = .ok (.iadd, 1) := by decide +kernel
theorem dn_X3_compareContents_31 : decode cn_X3_compareContents 31 = .ok (.iload_n 3, 1) := by decide +kernel
theorem dn_X3_compareContents_32 : decode cn_X3_compareContents 32 = .ok (.iconst 1, 1) := by decide +kernel
theorem dn_X3_compareContents_33 : decode cn_X3_compareContents 33 = .ok (.iadd, 1) := by decide +kernel
theorem dn_X3_compareContents_34 : decode cn_X3_compareContents 34 = .ok (.invokestatic 51, 3) := by decide +kernel
theorem dn_X3_compareContents_37 : decode cn_X3_compareContents 37 = .ok (.iaload, 1) := by decide +kernel
theorem dn_X3_compareContents_38 : decode cn_X3_compareContents 38 = .ok (.goto 4, 3) := by decide +kernel
theorem dn_X3_compareContents_41 : decode cn_X3_compareContents 41 = .ok (.iconst 0, 1) := by decide +kernel
theorem dn_X3_compareContents_42 : decode cn_X3_compareContents 42 = .ok (.istore 4, 2) := by decide +kernel
theorem dn_X3_compareContents_44 : decode cn_X3_compareContents 44 = .ok (.aload_n 0, 1) := by decide +kernel
theorem dn_X3_compareContents_45 : decode cn_X3_compareContents 45 = .ok (.getfield 15, 3) := by decide +kernel
theorem dn_X3_compareContents_48 : decode cn_X3_compareContents 48 = .ok (.iload_n 2, 1) := by decide +kernel
theorem dn_X3_compareContents_49 : decode cn_X3_compareContents 49 = .ok (.iload_n 3, 1) := by decide +kernel
theorem dn_X3_compareContents_50 : decode cn_X3_compareContents 50 = .ok (.invokestatic 51, 3) := by decide +kernel
theorem dn_X3_compareContents_53 : decode cn_X3_compareContents 53 = .ok (.aload_n 0, 1) := by decide +kernel
theorem dn_X3_compareContents_54 : decode cn_X3_compareContents 54 = .ok (.getfield 9, 3) := by decide +kernel
theorem dn_X3_compareContents_57 : decode cn_X3_compareContents 57 = .ok (.iload_n 2, 1) := by decide +kernel
theorem dn_X3_compareContents_58 : decode cn_X3_compareContents 58 = .ok (.iaload, 1) := by decide +kernel
theorem dn_X3_compareContents_59 : decode cn_X3_compareContents 59 = .ok (.aload_n 0, 1) := by decide +kernel
theorem dn_X3_compareContents_60 : decode cn_X3_compareContents 60 = .ok (.getfield 9, 3) := by decide +kernel
theorem dn_X3_compareContents_63 : decode cn_X3_compareContents 63 = .ok (.iload_n 3, 1) := by decide +kernel
theorem dn_X3_compareContents_64 : decode cn_X3_compareContents 64 = .ok (.iaload, 1) := by decide +kernel
theorem dn_X3_compareContents_65 : decode cn_X3_compareContents 65 = .ok (.if_icmp .ne 10, 3) := by decide +kernel
theorem dn_X3_compareContents_68 : decode cn_X3_compareContents 68 = .ok (.iload 4, 2) := by decide +kernel
theorem dn_X3_compareContents_70 : decode cn_X3_compareContents 70 = .ok (.iconst 1, 1) := by decide +kernel
theorem dn_X3_compareContents_71 : decode cn_X3_compareContents 71 = .ok (.iadd, 1) := by decide +kernel
theorem dn_X3_compareContents_72 : decode cn_X3_compareContents 72 = .ok (.goto 4, 3) := by decide +kernel
theorem dn_X3_compareContents_75 : decode cn_X3_compareContents 75 = .ok (.iconst 0, 1) := by decide +kernel
theorem dn_X3_compareContents_76 : decode cn_X3_compareContents 76 = .ok (.iastore, 1) := by decide +kernel
theorem dn_X3_compareContents_77 : decode cn_X3_compareContents 77 = .ok (.iinc 3 (-1), 3) := by decide +kernel
theorem dn_X3_compareContents_80 : decode cn_X3_compareContents 80 = .ok (.goto (-68), 3) := by decide +kernel
theorem dn_X3_compareContents_83 : decode cn_X3_compareContents 83 = .ok (.iinc 2 (-1), 3) := by decide +kernel
theorem dn_X3_compareContents_86 : decode cn_X3_compareContents 86 = .ok (.goto (-82), 3) := by decide +kernel
theorem dn_X3_compareContents_89 : decode cn_X3_compareContents 89 = .ok (.return_, 1) := by decide +kernel
theorem dn_X3_choose_0 : decode cn_X3_choose 0 = .ok (.iload_n 1, 1) := by decide +kernel
theorem dn_X3_choose_1 : decode cn_X3_choose 1 = .ok (.iload_n 2, 1) := by decide +kernel
theorem dn_X3_choose_2 : decode cn_X3_choose 2 = .ok (.invokestatic 51, 3) := by decide +kernel
theorem dn_X3_choose_5 : decode cn_X3_choose 5 = .ok (.istore_n 3, 1) := by decide +kernel
theorem dn_X3_choose_6 : decode cn_X3_choose 6 = .ok (.iload_n 2, 1) := by decide +kernel
theorem dn_X3_choose_7 : decode cn_X3_choose 7 = .ok (.iconst 1, 1) := by decide +kernel
theorem dn_X3_choose_8 : decode cn_X3_choose 8 = .ok (.if_icmp .ne 18, 3) := by decide +kernel
theorem dn_X3_choose_11 : decode cn_X3_choose 11 = .ok (.aload_n 0, 1) := by decide +kernel
theorem dn_X3_choose_12 : decode cn_X3_choose 12 = .ok (.getfield 18, 3) := by decide +kernel
theorem dn_X3_choose_15 : decode cn_X3_choose 15 = .ok (.iload_n 3, 1) := by decide +kernel
theorem dn_X3_choose_16 : decode cn_X3_choose 16 = .ok (.iconst 1, 1) := by decide +kernel
theorem dn_X3_choose_17 : decode cn_X3_choose 17 = .ok (.iastore, 1) := by decide +kernel
theorem dn_X3_choose_18 : decode cn_X3_choose 18 = .ok (.aload_n 0, 1) := by decide +kernel
theorem dn_X3_choose_19 : decode cn_X3_choose 19 = .ok (.getfield 21, 3) := by decide +kernel
theorem dn_X3_choose_22 : decode cn_X3_choose 22 = .ok (.iload_n 3, 1) := by decide +kernel
theorem dn_X3_choose_23 : decode cn_X3_choose 23 = .ok (.iconst 0, 1) := by decide +kernel
theorem dn_X3_choose_24 : decode cn_X3_choose 24 = .ok (.iastore, 1) := by decide +kernel
theorem dn_X3_choose_25 : decode cn_X3_choose 25 = .ok (.return_, 1) := by decide +kernel
theorem dn_X3_choose_26 : decode cn_X3_choose 26 = .ok (.aload_n 0, 1) := by decide +kernel
theorem dn_X3_choose_27 : decode cn_X3_choose 27 = .ok (.getfield 18, 3) := by decide +kernel
theorem dn_X3_choose_30 : decode cn_X3_choose 30 = .ok (.iload_n 3, 1) := by decide +kernel
theorem dn_X3_choose_31 : decode cn_X3_choose 31 = .ok (.iload_n 2, 1) := by decide +kernel
theorem dn_X3_choose_32 : decode cn_X3_choose 32 = .ok (.iconst 1, 1) := by decide +kernel
theorem dn_X3_choose_33 : decode cn_X3_choose 33 = .ok (.iadd, 1) := by decide +kernel
theorem dn_X3_choose_34 : decode cn_X3_choose 34 = .ok (.iastore, 1) := by decide +kernel
theorem dn_X3_choose_35 : decode cn_X3_choose 35 = .ok (.aload_n 0, 1) := by decide +kernel
theorem dn_X3_choose_36 : decode cn_X3_choose 36 = .ok (.iload_n 1, 1) := by decide +kernel
theorem dn_X3_choose_37 : decode cn_X3_choose 37 = .ok (.iload_n 2, 1) := by decide +kernel
theorem dn_X3_choose_38 : decode cn_X3_choose 38 = .ok (.invokevirtual 55, 3) := by decide +kernel
theorem dn_X3_choose_41 : decode cn_X3_choose 41 = .ok (.aload_n 0, 1) := by decide +kernel
theorem dn_X3_choose_42 : decode cn_X3_choose 42 = .ok (.iload_n 1, 1) := by decide +kernel
theorem dn_X3_choose_43 : decode cn_X3_choose 43 = .ok (.iload_n 2, 1) := by decide +kernel
theorem dn_X3_choose_44 : decode cn_X3_choose 44 = .ok (.invokevirtual 58, 3) := by decide +kernel
theorem dn_X3_choose_47 : decode cn_X3_choose 47 = .ok (.return_, 1) := by decide +kernel
theorem dn_X3_chooseBlock_0 : decode cn_X3_chooseBlock 0 = .ok (.iload_n 1, 1) := by decide +kernel
theorem dn_X3_chooseBlock_1 : decode cn_X3_chooseBlock 1 = .ok (.iload_n 2, 1) := by decide +kernel
theorem dn_X3_chooseBlock_2 : decode cn_X3_chooseBlock 2 = .ok (.invokestatic 51, 3) := by decide +kernel
theorem dn_X3_chooseBlock_5 : decode cn_X3_chooseBlock 5 = .ok (.istore_n 3, 1) := by decide +kernel
theorem dn_X3_chooseBlock_6 : decode cn_X3_chooseBlock 6 = .ok (.iconst 1, 1) := by decide +kernel
theorem dn_X3_chooseBlock_7 : decode cn_X3_chooseBlock 7 = .ok (.istore 4, 2) := by decide +kernel
theorem dn_X3_chooseBlock_9 : decode cn_X3_chooseBlock 9 = .ok (.iconst 2, 1) := by decide +kernel
theorem dn_X3_chooseBlock_10 : decode cn_X3_chooseBlock 10 = .ok (.iload 4, 2) := by decide +kernel
theorem dn_X3_chooseBlock_12 : decode cn_X3_chooseBlock 12 = .ok (.imul, 1) := by decide +kernel
theorem dn_X3_chooseBlock_13 : decode cn_X3_chooseBlock 13 = .ok (.iload_n 2, 1) := by decide +kernel
theorem dn_X3_chooseBlock_14 : decode cn_X3_chooseBlock 14 = .ok (.if_icmp .gt 81, 3) := by decide +kernel
theorem dn_X3_chooseBlock_17 : decode cn_X3_chooseBlock 17 = .ok (.iload_n 2, 1) := by decide +kernel
theorem dn_X3_chooseBlock_18 : decode cn_X3_chooseBlock 18 = .ok (.iload 4, 2) := by decide +kernel
theorem dn_X3_chooseBlock_20 : decode cn_X3_chooseBlock 20 = .ok (.irem, 1) := by decide +kernel
theorem dn_X3_chooseBlock_21 : decode cn_X3_chooseBlock 21 = .ok (.ifCond .ne 68, 3) := by decide +kernel
theorem dn_X3_chooseBlock_24 : decode cn_X3_chooseBlock 24 = .ok (.aload_n 0, 1) := by decide +kernel
theorem dn_X3_chooseBlock_25 : decode cn_X3_chooseBlock 25 = .ok (.getfield 15, 3) := by decide +kernel
theorem dn_X3_chooseBlock_28 : decode cn_X3_chooseBlock 28 = .ok (.iload_n 1, 1) := by decide +kernel
theorem dn_X3_chooseBlock_29 : decode cn_X3_chooseBlock 29 = .ok (.iload_n 1, 1) := by decide +kernel
theorem dn_X3_chooseBlock_30 : decode cn_X3_chooseBlock 30 = .ok (.iload 4, 2) := by decide +kernel
theorem dn_X3_chooseBlock_32 : decode cn_X3_chooseBlock 32 = .ok (.iadd, 1) := by decide +kernel
theorem dn_X3_chooseBlock_33 : decode cn_X3_chooseBlock 33 = .ok (.invokestatic 51, 3) := by decide +kernel
theorem dn_X3_chooseBlock_36 : decode cn_X3_chooseBlock 36 = .ok (.iaload, 1) := by decide +kernel
theorem dn_X3_chooseBlock_37 : decode cn_X3_chooseBlock 37 = .ok (.iload_n 2, 1) := by decide +kernel
theorem dn_X3_chooseBlock_38 : decode cn_X3_chooseBlock 38 = .ok (.iload 4, 2) := by decide +kernel
theorem dn_X3_chooseBlock_40 : decode cn_X3_chooseBlock 40 = .ok (.isub, 1) := by decide +kernel
theorem dn_X3_chooseBlock_41 : decode cn_X3_chooseBlock 41 = .ok (.if_icmp .lt 48, 3) := by decide +kernel
theorem dn_X3_chooseBlock_44 : decode cn_X3_chooseBlock 44 = .ok (.aload_n 0, 1) := by decide +kernel
theorem dn_X3_chooseBlock_45 : decode cn_X3_chooseBlock 45 = .ok (.getfield 18, 3) := by decide +kernel
theorem dn_X3_chooseBlock_48 : decode cn_X3_chooseBlock 48 = .ok (.iload_n 1, 1) := by decide +kernel
theorem dn_X3_chooseBlock_49 : decode cn_X3_chooseBlock 49 = .ok (.iload 4, 2) := by decide +kernel
theorem dn_X3_chooseBlock_51 : decode cn_X3_chooseBlock 51 = .ok (.invokestatic 51, 3) := by decide +kernel
theorem dn_X3_chooseBlock_54 : decode cn_X3_chooseBlock 54 = .ok (.iaload, 1) := by decide +kernel
theorem dn_X3_chooseBlock_55 : decode cn_X3_chooseBlock 55 = .ok (.aload_n 0, 1) := by decide +kernel
theorem dn_X3_chooseBlock_56 : decode cn_X3_chooseBlock 56 = .ok (.getfield 18, 3) := by decide +kernel
theorem dn_X3_chooseBlock_59 : decode cn_X3_chooseBlock 59 = .ok (.iload_n 3, 1) := by decide +kernel
theorem dn_X3_chooseBlock_60 : decode cn_X3_chooseBlock 60 = .ok (.iaload, 1) := by decide +kernel
theorem dn_X3_chooseBlock_61 : decode cn_X3_chooseBlock 61 = .ok (.if_icmp .ge 28, 3) := by decide +kernel
theorem dn_X3_chooseBlock_64 : decode cn_X3_chooseBlock 64 = .ok (.aload_n 0, 1) := by decide +kernel
theorem dn_X3_chooseBlock_65 : decode cn_X3_chooseBlock 65 = .ok (.getfield 18, 3) := by decide +kernel
theorem dn_X3_chooseBlock_68 : decode cn_X3_chooseBlock 68 = .ok (.iload_n 3, 1) := by decide +kernel
theorem dn_X3_chooseBlock_69 : decode cn_X3_chooseBlock 69 = .ok (.aload_n 0, 1) := by decide +kernel
theorem dn_X3_chooseBlock_70 : decode cn_X3_chooseBlock 70 = .ok (.getfield 18, 3) := by decide +kernel
theorem dn_X3_chooseBlock_73 : decode cn_X3_chooseBlock 73 = .ok (.iload_n 1, 1) := by decide +kernel
theorem dn_X3_chooseBlock_74 : decode cn_X3_chooseBlock 74 = .ok (.iload 4, 2) := by decide +kernel
theorem dn_X3_chooseBlock_76 : decode cn_X3_chooseBlock 76 = .ok (.invokestatic 51, 3) := by decide +kernel
theorem dn_X3_chooseBlock_79 : decode cn_X3_chooseBlock 79 = .ok (.iaload, 1) := by decide +kernel
theorem dn_X3_chooseBlock_80 : decode cn_X3_chooseBlock 80 = .ok (.iastore, 1) := by decide +kernel
theorem dn_X3_chooseBlock_81 : decode cn_X3_chooseBlock 81 = .ok (.aload_n 0, 1) := by decide +kernel
theorem dn_X3_chooseBlock_82 : decode cn_X3_chooseBlock 82 = .ok (.getfield 21, 3) := by decide +kernel
theorem dn_X3_chooseBlock_85 : decode cn_X3_chooseBlock 85 = .ok (.iload_n 3, 1) := by decide +kernel
theorem dn_X3_chooseBlock_86 : decode cn_X3_chooseBlock 86 = .ok (.iload 4, 2) := by decide +kernel
theorem dn_X3_chooseBlock_88 : decode cn_X3_chooseBlock 88 = .ok (.iastore, 1) := by decide +kernel
theorem dn_X3_chooseBlock_89 : decode cn_X3_chooseBlock 89 = .ok (.iinc 4 1, 3) := by decide +kernel
theorem dn_X3_chooseBlock_92 : decode cn_X3_chooseBlock 92 = .ok (.goto (-83), 3) := by decide +kernel
theorem dn_X3_chooseBlock_95 : decode cn_X3_chooseBlock 95 = .ok (.return_, 1) := by decide +kernel
theorem dn_X3_chooseParts_0 : decode cn_X3_chooseParts 0 = .ok (.iload_n 1, 1) := by decide +kernel
theorem dn_X3_chooseParts_1 : decode cn_X3_chooseParts 1 = .ok (.iload_n 2, 1) := by decide +kernel
theorem dn_X3_chooseParts_2 : decode cn_X3_chooseParts 2 = .ok (.invokestatic 51, 3) := by decide +kernel
theorem dn_X3_chooseParts_5 : decode cn_X3_chooseParts 5 = .ok (.istore_n 3, 1) := by decide +kernel
theorem dn_X3_chooseParts_6 : decode cn_X3_chooseParts 6 = .ok (.aload_n 0, 1) := by decide +kernel
theorem dn_X3_chooseParts_7 : decode cn_X3_chooseParts 7 = .ok (.getfield 18, 3) := by decide +kernel
theorem dn_X3_chooseParts_10 : decode cn_X3_chooseParts 10 = .ok (.iload_n 3, 1) := by decide +kernel
theorem dn_X3_chooseParts_11 : decode cn_X3_chooseParts 11 = .ok (.iaload, 1) := by decide +kernel
theorem dn_X3_chooseParts_12 : decode cn_X3_chooseParts 12 = .ok (.istore 4, 2) := by decide +kernel
theorem dn_X3_chooseParts_14 : decode cn_X3_chooseParts 14 = .ok (.iconst 1, 1) := by decide +kernel
theorem dn_X3_chooseParts_15 : decode cn_X3_chooseParts 15 = .ok (.istore 5, 2) := by decide +kernel
theorem dn_X3_chooseParts_17 : decode cn_X3_chooseParts 17 = .ok (.iload 5, 2) := by decide +kernel
theorem dn_X3_chooseParts_19 : decode cn_X3_chooseParts 19 = .ok (.iload_n 2, 1) := by decide +kernel
theorem dn_X3_chooseParts_20 : decode cn_X3_chooseParts 20 = .ok (.if_icmp .ge 65, 3) := by decide +kernel
theorem dn_X3_chooseParts_23 : decode cn_X3_chooseParts 23 = .ok (.iload 4, 2) := by decide +kernel
theorem dn_X3_chooseParts_25 : decode cn_X3_chooseParts 25 = .ok (.iconst 2, 1) := by decide +kernel
theorem dn_X3_chooseParts_26 : decode cn_X3_chooseParts 26 = .ok (.if_icmp .le 59, 3) := by decide +kernel
theorem dn_X3_chooseParts_29 : decode cn_X3_chooseParts 29 = .ok (.aload_n 0, 1) := by decide +kernel
theorem dn_X3_chooseParts_30 : decode cn_X3_chooseParts 30 = .ok (.getfield 18, 3) := by decide +kernel
theorem dn_X3_chooseParts_33 : decode cn_X3_chooseParts 33 = .ok (.iload_n 1, 1) := by decide +kernel
theorem dn_X3_chooseParts_34 : decode cn_X3_chooseParts 34 = .ok (.iload 5, 2) := by decide +kernel
theorem dn_X3_chooseParts_36 : decode cn_X3_chooseParts 36 = .ok (.invokestatic 51, 3) := by decide +kernel
theorem dn_X3_chooseParts_39 : decode cn_X3_chooseParts 39 = .ok (.iaload, 1) := by decide +kernel
theorem dn_X3_chooseParts_40 : decode cn_X3_chooseParts 40 = .ok (.aload_n 0, 1) := by decide +kernel
theorem dn_X3_chooseParts_41 : decode cn_X3_chooseParts 41 = .ok (.getfield 18, 3) := by decide +kernel
theorem dn_X3_chooseParts_44 : decode cn_X3_chooseParts 44 = .ok (.iload_n 1, 1) := by decide +kernel
theorem dn_X3_chooseParts_45 : decode cn_X3_chooseParts 45 = .ok (.iload 5, 2) := by decide +kernel
theorem dn_X3_chooseParts_47 : decode cn_X3_chooseParts 47 = .ok (.iadd, 1) := by decide +kernel
theorem dn_X3_chooseParts_48 : decode cn_X3_chooseParts 48 = .ok (.iload_n 2, 1) := by decide +kernel
theorem dn_X3_chooseParts_49 : decode cn_X3_chooseParts 49 = .ok (.iload 5, 2) := by decide +kernel
theorem dn_X3_chooseParts_51 : decode cn_X3_chooseParts 51 = .ok (.isub, 1) := by decide +kernel
theorem dn_X3_chooseParts_52 : decode cn_X3_chooseParts 52 = .ok (.invokestatic 51, 3) := by decide +kernel
theorem dn_X3_chooseParts_55 : decode cn_X3_chooseParts 55 = .ok (.iaload, 1) := by decide +kernel
theorem dn_X3_chooseParts_56 : decode cn_X3_chooseParts 56 = .ok (.iadd, 1) := by decide +kernel
theorem dn_X3_chooseParts_57 : decode cn_X3_chooseParts 57 = .ok (.istore 6, 2) := by decide +kernel
theorem dn_X3_chooseParts_59 : decode cn_X3_chooseParts 59 = .ok (.iload 6, 2) := by decide +kernel
theorem dn_X3_chooseParts_61 : decode cn_X3_chooseParts 61 = .ok (.iload 4, 2) := by decide +kernel
theorem dn_X3_chooseParts_63 : decode cn_X3_chooseParts 63 = .ok (.if_icmp .ge 16, 3) := by decide +kernel
theorem dn_X3_chooseParts_66 : decode cn_X3_chooseParts 66 = .ok (.iload 6, 2) := by decide +kernel
theorem dn_X3_chooseParts_68 : decode cn_X3_chooseParts 68 = .ok (.istore 4, 2) := by decide +kernel
theorem dn_X3_chooseParts_70 : decode cn_X3_chooseParts 70 = .ok (.aload_n 0, 1) := by decide +kernel
theorem dn_X3_chooseParts_71 : decode cn_X3_chooseParts 71 = .ok (.getfield 21, 3) := by decide +kernel
theorem dn_X3_chooseParts_74 : decode cn_X3_chooseParts 74 = .ok (.iload_n 3, 1) := by decide +kernel
theorem dn_X3_chooseParts_75 : decode cn_X3_chooseParts 75 = .ok (.iload 5, 2) := by decide +kernel
theorem dn_X3_chooseParts_77 : decode cn_X3_chooseParts 77 = .ok (.ineg, 1) := by decide +kernel
theorem dn_X3_chooseParts_78 : decode cn_X3_chooseParts 78 = .ok (.iastore, 1) := by decide +kernel
theorem dn_X3_chooseParts_79 : decode cn_X3_chooseParts 79 = .ok (.iinc 5 1, 3) := by decide +kernel
theorem dn_X3_chooseParts_82 : decode cn_X3_chooseParts 82 = .ok (.goto (-65), 3) := by decide +kernel
theorem dn_X3_chooseParts_85 : decode cn_X3_chooseParts 85 = .ok (.aload_n 0, 1) := by decide +kernel
theorem dn_X3_chooseParts_86 : decode cn_X3_chooseParts 86 = .ok (.getfield 18, 3) := by decide +kernel
theorem dn_X3_chooseParts_89 : decode cn_X3_chooseParts 89 = .ok (.iload_n 3, 1) := by decide +kernel
theorem dn_X3_chooseParts_90 : decode cn_X3_chooseParts 90 = .ok (.iload 4, 2) := by decide +kernel
theorem dn_X3_chooseParts_92 : decode cn_X3_chooseParts 92 = .ok (.iastore, 1) := by decide +kernel
theorem dn_X3_chooseParts_93 : decode cn_X3_chooseParts 93 = .ok (.return_, 1) := by decide +kernel
theorem dn_X3_writeItems_0 : decode cn_X3_writeItems 0 = .ok (.aload_n 0, 1) := by decide +kernel
theorem dn_X3_writeItems_1 : decode cn_X3_writeItems 1 = .ok (.iconst 0, 1) := by decide +kernel
theorem dn_X3_writeItems_2 : decode cn_X3_writeItems 2 = .ok (.putfield 61, 3) := by decide +kernel
theorem dn_X3_writeItems_5 : decode cn_X3_writeItems 5 = .ok (.aload_n 0, 1) := by decide +kernel
theorem dn_X3_writeItems_6 : decode cn_X3_writeItems 6 = .ok (.iconst 0, 1) := by decide +kernel
theorem dn_X3_writeItems_7 : decode cn_X3_writeItems 7 = .ok (.putfield 47, 3) := by decide +kernel
theorem dn_X3_writeItems_10 : decode cn_X3_writeItems 10 = .ok (.aload_n 0, 1) := by decide +kernel
theorem dn_X3_writeItems_11 : decode cn_X3_writeItems 11 = .ok (.iconst 0, 1) := by decide +kernel
theorem dn_X3_writeItems_12 : decode cn_X3_writeItems 12 = .ok (.putfield 64, 3) := by decide +kernel
theorem dn_X3_writeItems_15 : decode cn_X3_writeItems 15 = .ok (.aload_n 0, 1) := by decide +kernel
theorem dn_X3_writeItems_16 : decode cn_X3_writeItems 16 = .ok (.iconst 0, 1) := by decide +kernel
theorem dn_X3_writeItems_17 : decode cn_X3_writeItems 17 = .ok (.iload_n 1, 1) := by decide +kernel
theorem dn_X3_writeItems_18 : decode cn_X3_writeItems 18 = .ok (.invokevirtual 67, 3) := by decide +kernel
theorem dn_X3_writeItems_21 : decode cn_X3_writeItems 21 = .ok (.iconst 0, 1) := by decide +kernel
theorem dn_X3_writeItems_22 : decode cn_X3_writeItems 22 = .ok (.istore_n 2, 1) := by decide +kernel
theorem dn_X3_writeItems_23 : decode cn_X3_writeItems 23 = .ok (.iload_n 2, 1) := by decide +kernel
theorem dn_X3_writeItems_24 : decode cn_X3_writeItems 24 = .ok (.sipush 160, 3) := by decide +kernel
theorem dn_X3_writeItems_27 : decode cn_X3_writeItems 27 = .ok (.if_icmp .ge 48, 3) := by decide +kernel
theorem dn_X3_writeItems_30 : decode cn_X3_writeItems 30 = .ok (.aload_n 0, 1) := by decide +kernel
theorem dn_X3_writeItems_31 : decode cn_X3_writeItems 31 = .ok (.getfield 64, 3) := by decide +kernel
theorem dn_X3_writeItems_34 : decode cn_X3_writeItems 34 = .ok (.ifCond .le 41, 3) := by decide +kernel
theorem dn_X3_writeItems_37 : decode cn_X3_writeItems 37 = .ok (.aload_n 0, 1) := by decide +kernel
theorem dn_X3_writeItems_38 : decode cn_X3_writeItems 38 = .ok (.dup, 1) := by decide +kernel
theorem dn_X3_writeItems_39 : decode cn_X3_writeItems 39 = .ok (.getfield 64, 3) := by decide +kernel
theorem dn_X3_writeItems_42 : decode cn_X3_writeItems 42 = .ok (.iconst 1, 1) := by decide +kernel
theorem dn_X3_writeItems_43 : decode cn_X3_writeItems 43 = .ok (.isub, 1) := by decide +kernel
theorem dn_X3_writeItems_44 : decode cn_X3_writeItems 44 = .ok (.putfield 64, 3) := by decide +kernel
theorem dn_X3_writeItems_47 : decode cn_X3_writeItems 47 = .ok (.aload_n 0, 1) := by decide +kernel
theorem dn_X3_writeItems_48 : decode cn_X3_writeItems 48 = .ok (.aload_n 0, 1) := by decide +kernel
theorem dn_X3_writeItems_49 : decode cn_X3_writeItems 49 = .ok (.getfield 24, 3) := by decide +kernel
theorem dn_X3_writeItems_52 : decode cn_X3_writeItems 52 = .ok (.aload_n 0, 1) := by decide +kernel
theorem dn_X3_writeItems_53 : decode cn_X3_writeItems 53 = .ok (.getfield 64, 3) := by decide +kernel
theorem dn_X3_writeItems_56 : decode cn_X3_writeItems 56 = .ok (.iaload, 1) := by decide +kernel
theorem dn_X3_writeItems_57 : decode cn_X3_writeItems 57 = .ok (.aload_n 0, 1) := by decide +kernel
theorem dn_X3_writeItems_58 : decode cn_X3_writeItems 58 = .ok (.getfield 27, 3) := by decide +kernel
theorem dn_X3_writeItems_61 : decode cn_X3_writeItems 61 = .ok (.aload_n 0, 1) := by decide +kernel
theorem dn_X3_writeItems_62 : decode cn_X3_writeItems 62 = .ok (.getfield 64, 3) := by decide +kernel
theorem dn_X3_writeItems_65 : decode cn_X3_writeItems 65 = .ok (.iaload, 1) := by decide +kernel
theorem dn_X3_writeItems_66 : decode cn_X3_writeItems 66 = .ok (.invokevirtual 70, 3) := by decide +kernel
theorem dn_X3_writeItems_69 : decode cn_X3_writeItems 69 = .ok (.iinc 2 1, 3) := by decide +kernel
theorem dn_X3_writeItems_72 : decode cn_X3_writeItems 72 = .ok (.goto (-49), 3) := by decide +kernel
theorem dn_X3_writeItems_75 : decode cn_X3_writeItems 75 = .ok (.return_, 1) := by decide +kernel
theorem dn_X3_writePart_0 : decode cn_X3_writePart 0 = .ok (.iload_n 2, 1) := by decide +kernel
theorem dn_X3_writePart_1 : decode cn_X3_writePart 1 = .ok (.ifCond .ne 10, 3) := by decide +kernel
theorem dn_X3_writePart_4 : decode cn_X3_writePart 4 = .ok (.aload_n 0, 1) := by decide +kernel
theorem dn_X3_writePart_5 : decode cn_X3_writePart 5 = .ok (.iconst 2, 1) := by decide +kernel
theorem dn_X3_writePart_6 : decode cn_X3_writePart 6 = .ok (.iconst 0, 1) := by decide +kernel
theorem dn_X3_writePart_7 : decode cn_X3_writePart 7 = .ok (.invokevirtual 73, 3) := by decide +kernel
theorem dn_X3_writePart_10 : decode cn_X3_writePart 10 = .ok (.return_, 1) := by decide +kernel
theorem dn_X3_writePart_11 : decode cn_X3_writePart 11 = .ok (.aload_n 0, 1) := by decide +kernel
theorem dn_X3_writePart_12 : decode cn_X3_writePart 12 = .ok (.getfield 21, 3) := by decide +kernel
theorem dn_X3_writePart_15 : decode cn_X3_writePart 15 = .ok (.iload_n 1, 1) := by decide +kernel
theorem dn_X3_writePart_16 : decode cn_X3_writePart 16 = .ok (.iload_n 2, 1) := by decide +kernel
theorem dn_X3_writePart_17 : decode cn_X3_writePart 17 = .ok (.invokestatic 51, 3) := by decide +kernel
theorem dn_X3_writePart_20 : decode cn_X3_writePart 20 = .ok (.iaload, 1) := by decide +kernel
theorem dn_X3_writePart_21 : decode cn_X3_writePart 21 = .ok (.istore_n 3, 1) := by decide +kernel
theorem dn_X3_writePart_22 : decode cn_X3_writePart 22 = .ok (.iload_n 3, 1) := by decide +kernel
theorem dn_X3_writePart_23 : decode cn_X3_writePart 23 = .ok (.ifCond .le 26, 3) := by decide +kernel
theorem dn_X3_writePart_26 : decode cn_X3_writePart 26 = .ok (.aload_n 0, 1) := by decide +kernel
theorem dn_X3_writePart_27 : decode cn_X3_writePart 27 = .ok (.iconst 1, 1) := by decide +kernel
theorem dn_X3_writePart_28 : decode cn_X3_writePart 28 = .ok (.iload_n 2, 1) := by decide +kernel
theorem dn_X3_writePart_29 : decode cn_X3_writePart 29 = .ok (.iload_n 3, 1) := by decide +kernel
theorem dn_X3_writePart_30 : decode cn_X3_writePart 30 = .ok (.idiv, 1) := by decide +kernel
theorem dn_X3_writePart_31 : decode cn_X3_writePart 31 = .ok (.invokevirtual 73, 3) := by decide +kernel
theorem dn_X3_writePart_34 : decode cn_X3_writePart 34 = .ok (.aload_n 0, 1) := by decide +kernel
theorem dn_X3_writePart_35 : decode cn_X3_writePart 35 = .ok (.iload_n 1, 1) := by decide +kernel
theorem dn_X3_writePart_36 : decode cn_X3_writePart 36 = .ok (.iconst 0, 1) := by decide +kernel
theorem dn_X3_writePart_37 : decode cn_X3_writePart 37 = .ok (.invokevirtual 67, 3) := by decide +kernel
theorem dn_X3_writePart_40 : decode cn_X3_writePart 40 = .ok (.aload_n 0, 1) := by decide +kernel
theorem dn_X3_writePart_41 : decode cn_X3_writePart 41 = .ok (.iload_n 1, 1) := by decide +kernel
theorem dn_X3_writePart_42 : decode cn_X3_writePart 42 = .ok (.iload_n 3, 1) := by decide +kernel
theorem dn_X3_writePart_43 : decode cn_X3_writePart 43 = .ok (.invokevirtual 67, 3) := by decide +kernel
theorem dn_X3_writePart_46 : decode cn_X3_writePart 46 = .ok (.goto 48, 3) := by decide +kernel
theorem dn_X3_writePart_49 : decode cn_X3_writePart 49 = .ok (.iload_n 3, 1) := by decide +kernel
theorem dn_X3_writePart_50 : decode cn_X3_writePart 50 = .ok (.ifCond .ge 23, 3) := by decide +kernel
theorem dn_X3_writePart_53 : decode cn_X3_writePart 53 = .ok (.aload_n 0, 1) := by decide +kernel
theorem dn_X3_writePart_54 : decode cn_X3_writePart 54 = .ok (.iload_n 1, 1) := by decide +kernel
theorem dn_X3_writePart_55 : decode cn_X3_writePart 55 = .ok (.iload_n 3, 1) := by decide +kernel
theorem dn_X3_writePart_56 : decode cn_X3_writePart 56 = .ok (.isub, 1) := by decide +kernel
theorem dn_X3_writePart_57 : decode cn_X3_writePart 57 = .ok (.iload_n 2, 1) := by decide +kernel
theorem dn_X3_writePart_58 : decode cn_X3_writePart 58 = .ok (.iload_n 3, 1) := by decide +kernel
theorem dn_X3_writePart_59 : decode cn_X3_writePart 59 = .ok (.iadd, 1) := by decide +kernel
theorem dn_X3_writePart_60 : decode cn_X3_writePart 60 = .ok (.invokevirtual 67, 3) := by decide +kernel
theorem dn_X3_writePart_63 : decode cn_X3_writePart 63 = .ok (.aload_n 0, 1) := by decide +kernel
theorem dn_X3_writePart_64 : decode cn_X3_writePart 64 = .ok (.iload_n 1, 1) := by decide +kernel
theorem dn_X3_writePart_65 : decode cn_X3_writePart 65 = .ok (.iload_n 3, 1) := by decide +kernel
theorem dn_X3_writePart_66 : decode cn_X3_writePart 66 = .ok (.ineg, 1) := by decide +kernel
theorem dn_X3_writePart_67 : decode cn_X3_writePart 67 = .ok (.invokevirtual 67, 3) := by decide +kernel
theorem dn_X3_writePart_70 : decode cn_X3_writePart 70 = .ok (.goto 24, 3) := by decide +kernel
theorem dn_X3_writePart_73 : decode cn_X3_writePart 73 = .ok (.aload_n 0, 1) := by decide +kernel
theorem dn_X3_writePart_74 : decode cn_X3_writePart 74 = .ok (.iconst 0, 1) := by decide +kernel
theorem dn_X3_writePart_75 : decode cn_X3_writePart 75 = .ok (.aload_n 0, 1) := by decide +kernel
theorem dn_X3_writePart_76 : decode cn_X3_writePart 76 = .ok (.getfield 9, 3) := by decide +kernel
theorem dn_X3_writePart_79 : decode cn_X3_writePart 79 = .ok (.iload_n 1, 1) := by decide +kernel
theorem dn_X3_writePart_80 : decode cn_X3_writePart 80 = .ok (.iaload, 1) := by decide +kernel
theorem dn_X3_writePart_81 : decode cn_X3_writePart 81 = .ok (.invokevirtual 73, 3) := by decide +kernel
theorem dn_X3_writePart_84 : decode cn_X3_writePart 84 = .ok (.aload_n 0, 1) := by decide +kernel
theorem dn_X3_writePart_85 : decode cn_X3_writePart 85 = .ok (.dup, 1) := by decide +kernel
theorem dn_X3_writePart_86 : decode cn_X3_writePart 86 = .ok (.getfield 47, 3) := by decide +kernel
theorem dn_X3_writePart_89 : decode cn_X3_writePart 89 = .ok (.iconst 1, 1) := by decide +kernel
theorem dn_X3_writePart_90 : decode cn_X3_writePart 90 = .ok (.iadd, 1) := by decide +kernel
theorem dn_X3_writePart_91 : decode cn_X3_writePart 91 = .ok (.putfield 47, 3) := by decide +kernel
theorem dn_X3_writePart_94 : decode cn_X3_writePart 94 = .ok (.return_, 1) := by decide +kernel
theorem dn_X3_putAside_0 : decode cn_X3_putAside 0 = .ok (.aload_n 0, 1) := by decide +kernel
theorem dn_X3_putAside_1 : decode cn_X3_putAside 1 = .ok (.getfield 64, 3) := by decide +kernel
theorem dn_X3_putAside_4 : decode cn_X3_putAside 4 = .ok (.sipush 160, 3) := by decide +kernel
theorem dn_X3_putAside_7 : decode cn_X3_putAside 7 = .ok (.if_icmp .ge 33, 3) := by decide +kernel
theorem dn_X3_putAside_10 : decode cn_X3_putAside 10 = .ok (.aload_n 0, 1) := by decide +kernel
theorem dn_X3_putAside_11 : decode cn_X3_putAside 11 = .ok (.getfield 24, 3) := by decide +kernel
theorem dn_X3_putAside_14 : decode cn_X3_putAside 14 = .ok (.aload_n 0, 1) := by decide +kernel
theorem dn_X3_putAside_15 : decode cn_X3_putAside 15 = .ok (.getfield 64, 3) := by decide +kernel
theorem dn_X3_putAside_18 : decode cn_X3_putAside 18 = .ok (.iload_n 1, 1) := by decide +kernel
theorem dn_X3_putAside_19 : decode cn_X3_putAside 19 = .ok (.iastore, 1) := by decide +kernel
theorem dn_X3_putAside_20 : decode cn_X3_putAside 20 = .ok (.aload_n 0, 1) := by decide +kernel
theorem dn_X3_putAside_21 : decode cn_X3_putAside 21 = .ok (.getfield 27, 3) := by decide +kernel
theorem dn_X3_putAside_24 : decode cn_X3_putAside 24 = .ok (.aload_n 0, 1) := by decide +kernel
theorem dn_X3_putAside_25 : decode cn_X3_putAside 25 = .ok (.getfield 64, 3) := by decide +kernel
theorem dn_X3_putAside_28 : decode cn_X3_putAside 28 = .ok (.iload_n 2, 1) := by decide +kernel
theorem dn_X3_putAside_29 : decode cn_X3_putAside 29 = .ok (.iastore, 1) := by decide +kernel
theorem dn_X3_putAside_30 : decode cn_X3_putAside 30 = .ok (.aload_n 0, 1) := by decide +kernel
theorem dn_X3_putAside_31 : decode cn_X3_putAside 31 = .ok (.dup, 1) := by decide +kernel
theorem dn_X3_putAside_32 : decode cn_X3_putAside 32 = .ok (.getfield 64, 3) := by decide +kernel
theorem dn_X3_putAside_35 : decode cn_X3_putAside 35 = .ok (.iconst 1, 1) := by decide +kernel
theorem dn_X3_putAside_36 : decode cn_X3_putAside 36 = .ok (.iadd, 1) := by decide +kernel
theorem dn_X3_putAside_37 : decode cn_X3_putAside 37 = .ok (.putfield 64, 3) := by decide +kernel
theorem dn_X3_putAside_40 : decode cn_X3_putAside 40 = .ok (.return_, 1) := by decide +kernel
theorem dn_X3_addItem_0 : decode cn_X3_addItem 0 = .ok (.aload_n 0, 1) := by decide +kernel
theorem dn_X3_addItem_1 : decode cn_X3_addItem 1 = .ok (.getfield 61, 3) := by decide +kernel
theorem dn_X3_addItem_4 : decode cn_X3_addItem 4 = .ok (.bipush 80, 2) := by decide +kernel
theorem dn_X3_addItem_6 : decode cn_X3_addItem 6 = .ok (.if_icmp .ge 33, 3) := by decide +kernel
theorem dn_X3_addItem_9 : decode cn_X3_addItem 9 = .ok (.aload_n 0, 1) := by decide +kernel
theorem dn_X3_addItem_10 : decode cn_X3_addItem 10 = .ok (.getfield 30, 3) := by decide +kernel
theorem dn_X3_addItem_13 : decode cn_X3_addItem 13 = .ok (.aload_n 0, 1) := by decide +kernel
theorem dn_X3_addItem_14 : decode cn_X3_addItem 14 = .ok (.getfield 61, 3) := by decide +kernel
theorem dn_X3_addItem_17 : decode cn_X3_addItem 17 = .ok (.iload_n 1, 1) := by decide +kernel
theorem dn_X3_addItem_18 : decode cn_X3_addItem 18 = .ok (.iastore, 1) := by decide +kernel
theorem dn_X3_addItem_19 : decode cn_X3_addItem 19 = .ok (.aload_n 0, 1) := by decide +kernel
theorem dn_X3_addItem_20 : decode cn_X3_addItem 20 = .ok (.getfield 33, 3) := by decide +kernel
theorem dn_X3_addItem_23 : decode cn_X3_addItem 23 = .ok (.aload_n 0, 1) := by decide +kernel
theorem dn_X3_addItem_24 : decode cn_X3_addItem 24 = .ok (.getfield 61, 3) := by decide +kernel
theorem dn_X3_addItem_27 : decode cn_X3_addItem 27 = .ok (.iload_n 2, 1) := by decide +kernel
theorem dn_X3_addItem_28 : decode cn_X3_addItem 28 = .ok (.iastore, 1) := by decide +kernel
theorem dn_X3_addItem_29 : decode cn_X3_addItem 29 = .ok (.aload_n 0, 1) := by decide +kernel
theorem dn_X3_addItem_30 : decode cn_X3_addItem 30 = .ok (.dup, 1) := by decide +kernel
theorem dn_X3_addItem_31 : decode cn_X3_addItem 31 = .ok (.getfield 61, 3) := by decide +kernel
theorem dn_X3_addItem_34 : decode cn_X3_addItem 34 = .ok (.iconst 1, 1) := by decide +kernel
theorem dn_X3_addItem_35 : decode cn_X3_addItem 35 = .ok (.iadd, 1) := by decide +kernel
theorem dn_X3_addItem_36 : decode cn_X3_addItem 36 = .ok (.putfield 61, 3) := by decide +kernel
theorem dn_X3_addItem_39 : decode cn_X3_addItem 39 = .ok (.return_, 1) := by decide +kernel
end
section
/-! ===== the worlds of the two sides ===== -/
abbrev ze_T : Type := Launch × va_G × Nat × Nat × Nat × (Nat → Nat)
def ad_p (E : ze_T) (k : Nat) : Nat := E.2.2.2.2.2 k
def zF (E : ze_T) : zf_T := (E.1, E.2.1, [(E.2.2.1, .int), (E.2.2.2.1, .boolean), (E.2.2.2.2.1, .long)])
def wc_c (E : ze_T) (G : gs_T) : va_W :=
  [(ad_p E 0, .inr (0, [.ref (ad_p E 1), .ref (ad_p E 2), .ref (ad_p E 26)])),
   (ad_p E 1, .inr (2, [.ref (ad_p E 2), .ref (ad_p E 18), .ref (ad_p E 19), .ref (ad_p E 20), .ref (ad_p E 21), .ref (ad_p E 22), .ref (ad_p E 23), .ref (ad_p E 24), .ref (ad_p E 25), .int (G.1 0), .int (G.1 1), .int (G.1 2), .int (G.1 3), .int (G.1 4), .int (G.1 5)])),
   (ad_p E 2, .inr (1, [.ref (ad_p E 3), .ref (ad_p E 4), .ref (ad_p E 5), .ref (ad_p E 6), .ref (ad_p E 7), .ref (ad_p E 8), .ref (ad_p E 9), .ref (ad_p E 10), .ref (ad_p E 11), .ref (ad_p E 12), .ref (ad_p E 13), .ref (ad_p E 14), .ref (ad_p E 15), .ref (ad_p E 16), .ref (ad_p E 17), .int (G.1 6), .int (G.1 7), .int (G.1 8), .int (G.1 9)])),
   (ad_p E 3, .inl (E.2.2.1, 60, .inl (G.2 0))),
   (ad_p E 4, .inl (E.2.2.1, 20, .inl (G.2 1))),
   (ad_p E 5, .inl (E.2.2.1, 20, .inl (G.2 2))),
   (ad_p E 6, .inl (E.2.2.1, 20, .inl (G.2 3))),
   (ad_p E 7, .inl (E.2.2.1, 20, .inl (G.2 4))),
   (ad_p E 8, .inl (E.2.2.1, 20, .inl (G.2 5))),
   (ad_p E 9, .inl (E.2.2.1, 20, .inl (G.2 6))),
   (ad_p E 10, .inl (E.2.2.1, 20, .inl (G.2 7))),
   (ad_p E 11, .inl (E.2.2.1, 4, .inl (G.2 8))),
   (ad_p E 12, .inl (E.2.2.1, 60, .inl (G.2 9))),
   (ad_p E 13, .inl (E.2.2.1, 60, .inl (G.2 10))),
   (ad_p E 14, .inl (E.2.2.2.1, 60, .inl (G.2 11))),
   (ad_p E 15, .inl (E.2.2.1, 180, .inl (G.2 12))),
   (ad_p E 16, .inl (E.2.2.1, 60, .inl (G.2 13))),
   (ad_p E 17, .inl (E.2.2.1, 60, .inl (G.2 14))),
   (ad_p E 18, .inl (E.2.2.1, 1000, .inl (G.2 15))),
   (ad_p E 19, .inl (E.2.2.1, 1000, .inl (G.2 16))),
   (ad_p E 20, .inl (E.2.2.1, 1000, .inl (G.2 17))),
   (ad_p E 21, .inl (E.2.2.1, 1000, .inl (G.2 18))),
   (ad_p E 22, .inl (E.2.2.1, 60, .inl (G.2 19))),
   (ad_p E 23, .inl (E.2.2.1, 60, .inl (G.2 20))),
   (ad_p E 24, .inl (E.2.2.1, 20, .inl (G.2 21))),
   (ad_p E 25, .inl (E.2.2.2.1, 60, .inl (G.2 22))),
   (ad_p E 26, .inr (3, [.ref (ad_p E 27), .ref (ad_p E 28), .ref (ad_p E 29), .ref (ad_p E 30), .ref (ad_p E 31), .ref (ad_p E 32), .ref (ad_p E 33), .ref (ad_p E 34), .int (G.1 10), .int (G.1 11), .int (G.1 12)])),
   (ad_p E 27, .inl (E.2.2.1, 40, .inl (G.2 23))),
   (ad_p E 28, .inl (E.2.2.1, 1681, .inl (G.2 24))),
   (ad_p E 29, .inl (E.2.2.1, 1681, .inl (G.2 25))),
   (ad_p E 30, .inl (E.2.2.1, 1681, .inl (G.2 26))),
   (ad_p E 31, .inl (E.2.2.1, 160, .inl (G.2 27))),
   (ad_p E 32, .inl (E.2.2.1, 160, .inl (G.2 28))),
   (ad_p E 33, .inl (E.2.2.1, 80, .inl (G.2 29))),
   (ad_p E 34, .inl (E.2.2.1, 80, .inl (G.2 30)))]
theorem wc_c_addr (E : ze_T) (G G1 : gs_T) : (wc_c E G).map Prod.fst = (wc_c E G1).map Prod.fst := rfl
def wc_m (E : ze_T) (G : gs_T) : va_W :=
  [(ad_p E 0, .inr (4, [.int (G.1 0), .int (G.1 1), .ref (ad_p E 1), .int (G.1 2), .ref (ad_p E 2), .ref (ad_p E 3), .ref (ad_p E 4), .int (G.1 3), .ref (ad_p E 5), .ref (ad_p E 6), .ref (ad_p E 7), .ref (ad_p E 8), .ref (ad_p E 9), .ref (ad_p E 10), .ref (ad_p E 11), .ref (ad_p E 12), .ref (ad_p E 13), .int (G.1 4), .int (G.1 5), .ref (ad_p E 14), .ref (ad_p E 15), .ref (ad_p E 16), .ref (ad_p E 17), .ref (ad_p E 18), .int (G.1 6), .ref (ad_p E 19), .ref (ad_p E 20), .int (G.1 7), .int (G.1 8), .int (G.1 9), .int (G.1 10), .ref (ad_p E 21), .ref (ad_p E 22), .ref (ad_p E 23), .ref (ad_p E 24), .int (G.1 11), .ref (ad_p E 25), .ref (ad_p E 26), .int (G.1 12), .ref (ad_p E 27), .ref (ad_p E 28)])),
   (ad_p E 1, .inl (E.2.2.1, 60, .inl (G.2 0))),
   (ad_p E 2, .inl (E.2.2.1, 20, .inl (G.2 1))),
   (ad_p E 3, .inl (E.2.2.1, 20, .inl (G.2 2))),
   (ad_p E 4, .inl (E.2.2.1, 20, .inl (G.2 3))),
   (ad_p E 5, .inl (E.2.2.1, 20, .inl (G.2 4))),
   (ad_p E 6, .inl (E.2.2.1, 20, .inl (G.2 5))),
   (ad_p E 7, .inl (E.2.2.1, 20, .inl (G.2 6))),
   (ad_p E 8, .inl (E.2.2.1, 20, .inl (G.2 7))),
   (ad_p E 9, .inl (E.2.2.1, 4, .inl (G.2 8))),
   (ad_p E 10, .inl (E.2.2.2.1, 60, .inl (G.2 9))),
   (ad_p E 11, .inl (E.2.2.1, 60, .inl (G.2 10))),
   (ad_p E 12, .inl (E.2.2.1, 60, .inl (G.2 11))),
   (ad_p E 13, .inl (E.2.2.2.1, 60, .inl (G.2 12))),
   (ad_p E 14, .inl (E.2.2.1, 1000, .inl (G.2 13))),
   (ad_p E 15, .inl (E.2.2.1, 1000, .inl (G.2 14))),
   (ad_p E 16, .inl (E.2.2.1, 1000, .inl (G.2 15))),
   (ad_p E 17, .inl (E.2.2.1, 1000, .inl (G.2 16))),
   (ad_p E 18, .inl (E.2.2.1, 60, .inl (G.2 17))),
   (ad_p E 19, .inl (E.2.2.1, 20, .inl (G.2 18))),
   (ad_p E 20, .inl (E.2.2.2.1, 60, .inl (G.2 19))),
   (ad_p E 21, .inl (E.2.2.1, 40, .inl (G.2 20))),
   (ad_p E 22, .inl (E.2.2.1, 1640, .inl (G.2 21))),
   (ad_p E 23, .inl (E.2.2.1, 1640, .inl (G.2 22))),
   (ad_p E 24, .inl (E.2.2.1, 1640, .inl (G.2 23))),
   (ad_p E 25, .inl (E.2.2.1, 200, .inl (G.2 24))),
   (ad_p E 26, .inl (E.2.2.1, 200, .inl (G.2 25))),
   (ad_p E 27, .inl (E.2.2.1, 200, .inl (G.2 26))),
   (ad_p E 28, .inl (E.2.2.1, 200, .inl (G.2 27)))]
theorem wc_m_addr (E : ze_T) (G G1 : gs_T) : (wc_m E G).map Prod.fst = (wc_m E G1).map Prod.fst := rfl
end
section
/-! ===== the class as functions (printed by gen.py from its bytecode) ===== -/
def cS_addBar (G : gs_T) (x1 : Int32) : Option (Int32 × gs_T) :=
  gs_ck (G.1 6) 60 (
  some ((G.1 6), (gs_sv (gs_sa G 0 (G.1 6) x1) 6 ((G.1 6) + (1 : Int32)))))
def cR_bar (G : gs_T) (x1 : Int32) : Option ((Int32 ⊕ Nat) × gs_T) :=
  if (G.1 6) < (60 : Int32) then
    (cS_addBar G x1).bind fun q1 =>
    some ((.inl q1.1), q1.2)
  else
    some (.inr 0, G)
def cS_hasBar (G : gs_T) (x1 : Int32) : Option Int32 :=
  if x1 < 0 then
    some (0 : Int32)
  else
    if (G.1 6) ≤ x1 then
      some (0 : Int32)
    else
      some (1 : Int32)
def cS_liesWithin (G : gs_T) (x0 x1 x2 x3 : Int32) : Option Int32 :=
  if x0 < x2 then
    some (0 : Int32)
  else
    if x3 < x1 then
      some (0 : Int32)
    else
      some (1 : Int32)
def cS_liesWell (G : gs_T) (x0 x1 x2 x3 : Int32) : Option Int32 :=
  if x1 < x2 then
    some (1 : Int32)
  else
    if x3 < x0 then
      some (1 : Int32)
    else
      (cS_liesWithin G x0 x1 x2 x3).bind fun q1 =>
      if q1 = 0 then
        (cS_liesWithin G x2 x3 x0 x1).bind fun q2 =>
        if q2 = 0 then
          some (0 : Int32)
        else
          some (1 : Int32)
      else
        some (1 : Int32)
def cS_liesWellByRepeats_2 (n : Nat) (G : gs_T) (x1 x2 : Int32) : Nat → Int32 → Option Int32
  | 0, _ => none
  | k + 1, x3 =>
    if (G.1 7) ≤ x3 then
      some (1 : Int32)
    else
      gs_ck x3 20 (
      gs_ck x3 20 (
      (cS_liesWell G x1 x2 (gs_a G 1 x3) (gs_a G 2 x3)).bind fun q1 =>
      if q1 = 0 then
        some (0 : Int32)
      else
        cS_liesWellByRepeats_2 n G x1 x2 k (x3 + (1 : Int32))))
def cS_liesWellByRepeats (n : Nat) (G : gs_T) (x1 x2 : Int32) : Option Int32 :=
  cS_liesWellByRepeats_2 n G x1 x2 n (0 : Int32)
def cS_hasSameRepeat_2 (n : Nat) (G : gs_T) (x1 x2 : Int32) : Nat → Int32 → Option Int32
  | 0, _ => none
  | k + 1, x3 =>
    if (G.1 7) ≤ x3 then
      some (0 : Int32)
    else
      gs_ck x3 20 (
      if (gs_a G 1 x3) = x1 then
        gs_ck x3 20 (
        if (gs_a G 2 x3) = x2 then
          some (1 : Int32)
        else
          cS_hasSameRepeat_2 n G x1 x2 k (x3 + (1 : Int32)))
      else
        cS_hasSameRepeat_2 n G x1 x2 k (x3 + (1 : Int32)))
def cS_hasSameRepeat (n : Nat) (G : gs_T) (x1 x2 : Int32) : Option Int32 :=
  cS_hasSameRepeat_2 n G x1 x2 n (0 : Int32)
def cS_liesWellByEndings_2 (n : Nat) (G : gs_T) (x1 x2 : Int32) : Nat → Int32 → Option Int32
  | 0, _ => none
  | k + 1, x3 =>
    if (G.1 8) ≤ x3 then
      some (1 : Int32)
    else
      gs_ck x3 20 (
      gs_ck x3 20 (
      (cS_liesWell G x1 x2 (gs_a G 5 x3) (gs_a G 6 x3)).bind fun q1 =>
      if q1 = 0 then
        some (0 : Int32)
      else
        cS_liesWellByEndings_2 n G x1 x2 k (x3 + (1 : Int32))))
def cS_liesWellByEndings (n : Nat) (G : gs_T) (x1 x2 : Int32) : Option Int32 :=
  cS_liesWellByEndings_2 n G x1 x2 n (0 : Int32)
def cS_isDepthLeft_2 (n : Nat) (G : gs_T) (x2 : Int32) : Nat → Int32 → Option Int32
  | 0, _ => none
  | k + 1, x3 =>
    if x2 < x3 then
      some (1 : Int32)
    else
      gs_ck x3 60 (
      if (gs_a G 13 x3) < (3 : Int32) then
        cS_isDepthLeft_2 n G x2 k (x3 + (1 : Int32))
      else
        some (0 : Int32))
def cS_isDepthLeft (n : Nat) (G : gs_T) (x1 x2 : Int32) : Option Int32 :=
  cS_isDepthLeft_2 n G x2 n x1
def cS_takesRepeat (n : Nat) (G : gs_T) (x1 x2 : Int32) : Option Int32 :=
  if (20 : Int32) ≤ (G.1 7) then
    some (0 : Int32)
  else
    (cS_liesWellByRepeats n G x1 x2).bind fun q1 =>
    if q1 = 0 then
      some (0 : Int32)
    else
      (cS_hasSameRepeat n G x1 x2).bind fun q2 =>
      if q2 = 0 then
        (cS_liesWellByEndings n G x1 x2).bind fun q3 =>
        if q3 = 0 then
          some (0 : Int32)
        else
          (cS_isDepthLeft n G x1 x2).bind fun q4 =>
          if q4 = 0 then
            some (0 : Int32)
          else
            some (1 : Int32)
      else
        some (0 : Int32)
def cS_isRepeatWithin (G : gs_T) (x1 x2 : Int32) : Option Int32 :=
  gs_ck x1 20 (
  gs_ck x1 20 (
  gs_ck x2 20 (
  gs_ck x2 20 (
  (cS_liesWithin G (gs_a G 1 x1) (gs_a G 2 x1) (gs_a G 1 x2) (gs_a G 2 x2)).bind fun q1 =>
  gs_bz q1 (some q1)))))
def cS_putAround_14 (n : Nat) (x1 x2 x3 : Int32) : Nat → Int32 → gs_T → Option gs_T
  | 0, _, _ => none
  | k + 1, x4, G =>
    if x4 ≤ x3 then
      gs_ck x4 180 (
      gs_ck x1 60 (
      gs_ck x1 60 (
      some (gs_sa (gs_sa G 12 x4 x2) 13 x1 ((gs_a G 13 x1) + (1 : Int32))))))
    else
      gs_ck (x4 - (1 : Int32)) 180 (
      (cS_isRepeatWithin G (gs_a G 12 (x4 - (1 : Int32))) x2).bind fun q1 =>
      if q1 = 0 then
        gs_ck x4 180 (
        gs_ck x1 60 (
        gs_ck x1 60 (
        some (gs_sa (gs_sa G 12 x4 x2) 13 x1 ((gs_a G 13 x1) + (1 : Int32))))))
      else
        gs_ck (x4 - (1 : Int32)) 180 (
        gs_ck x4 180 (
        cS_putAround_14 n x1 x2 x3 k (x4 + (-1 : Int32)) (gs_sa G 12 x4 (gs_a G 12 (x4 - (1 : Int32)))))))
def cS_putAround_j59 (n : Nat) (G : gs_T) (x1 x2 x4 : Int32) : Option gs_T :=
  gs_ck x4 180 (
  gs_ck x1 60 (
  gs_ck x1 60 (
  some (gs_sa (gs_sa G 12 x4 x2) 13 x1 ((gs_a G 13 x1) + (1 : Int32))))))
def cS_putAround (n : Nat) (G : gs_T) (x1 x2 : Int32) : Option gs_T :=
  gs_ck x1 60 (
  cS_putAround_14 n x1 x2 (x1 * (3 : Int32)) n ((x1 * (3 : Int32)) + (gs_a G 13 x1)) G)
def cS_addRepeat_33 (n : Nat) (x2 : Int32) : Nat → Int32 → gs_T → Option (Int32 × gs_T)
  | 0, _, _ => none
  | k + 1, x4, G =>
    if x2 < x4 then
      some ((G.1 7), (gs_sv G 7 ((G.1 7) + (1 : Int32))))
    else
      (cS_putAround n G x4 (G.1 7)).bind fun q1 =>
      cS_addRepeat_33 n x2 k (x4 + (1 : Int32)) q1
def cS_addRepeat (n : Nat) (G : gs_T) (x1 x2 x3 : Int32) : Option (Int32 × gs_T) :=
  gs_ck (G.1 7) 20 (
  gs_ck (G.1 7) 20 (
  gs_ck (G.1 7) 20 (
  cS_addRepeat_33 n x2 n x1 (gs_sa (gs_sa (gs_sa G 1 (G.1 7) x1) 2 (G.1 7) x2) 3 (G.1 7) x3))))
def cR_repeat (n : Nat) (G : gs_T) (x1 x2 x3 : Int32) : Option ((Int32 ⊕ Nat) × gs_T) :=
  (cS_hasBar G x1).bind fun q1 =>
  if q1 = 0 then
    some (.inr 1, G)
  else
    (cS_hasBar G x2).bind fun q2 =>
    if q2 = 0 then
      some (.inr 1, G)
    else
      if x3 < (2 : Int32) then
        some (.inr 2, G)
      else
        if (4 : Int32) < x3 then
          some (.inr 2, G)
        else
          if x1 ≤ x2 then
            (cS_takesRepeat n G x1 x2).bind fun q3 =>
            if q3 = 0 then
              some (.inr 0, G)
            else
              (cS_addRepeat n G x1 x2 x3).bind fun q4 =>
              some ((.inl q4.1), q4.2)
          else
            some (.inr 2, G)
def cS_hasRepeat (G : gs_T) (x1 : Int32) : Option Int32 :=
  if x1 < 0 then
    some (0 : Int32)
  else
    if (G.1 7) ≤ x1 then
      some (0 : Int32)
    else
      some (1 : Int32)
def cS_hasPasses (G : gs_T) (x1 x2 : Int32) : Option Int32 :=
  gs_ck x1 20 (
  if x2 = 0 then
    some (0 : Int32)
  else
    if (x2 &&& ((((1 : Int32) <<< ((gs_a G 3 x1) &&& 31)) - (1 : Int32)) ^^^ (-1 : Int32))) = 0 then
      some (1 : Int32)
    else
      some (0 : Int32))
def cS_isApartFromEndings_2 (n : Nat) (G : gs_T) (x1 x2 : Int32) : Nat → Int32 → Option Int32
  | 0, _ => none
  | k + 1, x3 =>
    if (G.1 8) ≤ x3 then
      some (1 : Int32)
    else
      gs_ck x3 20 (
      if (gs_a G 6 x3) < x1 then
        cS_isApartFromEndings_2 n G x1 x2 k (x3 + (1 : Int32))
      else
        gs_ck x3 20 (
        if x2 < (gs_a G 5 x3) then
          cS_isApartFromEndings_2 n G x1 x2 k (x3 + (1 : Int32))
        else
          some (0 : Int32)))
def cS_isApartFromEndings (n : Nat) (G : gs_T) (x1 x2 : Int32) : Option Int32 :=
  cS_isApartFromEndings_2 n G x1 x2 n (0 : Int32)
def cS_takesEnding (n : Nat) (G : gs_T) (x1 x2 x3 : Int32) : Option Int32 :=
  if (20 : Int32) ≤ (G.1 8) then
    some (0 : Int32)
  else
    gs_ck x1 20 (
    gs_ck x1 20 (
    (cS_liesWithin G x2 x3 (gs_a G 1 x1) (gs_a G 2 x1)).bind fun q1 =>
    if q1 = 0 then
      some (0 : Int32)
    else
      (cS_liesWellByRepeats n G x2 x3).bind fun q2 =>
      if q2 = 0 then
        some (0 : Int32)
      else
        (cS_isApartFromEndings n G x2 x3).bind fun q3 =>
        if q3 = 0 then
          some (0 : Int32)
        else
          some (1 : Int32)))
def cS_addEnding (G : gs_T) (x1 x2 x3 x4 : Int32) : Option (Int32 × gs_T) :=
  gs_ck (G.1 8) 20 (
  gs_ck (G.1 8) 20 (
  gs_ck (G.1 8) 20 (
  gs_ck (G.1 8) 20 (
  gs_ck x2 60 (
  some ((G.1 8), (gs_sv (gs_sa (gs_sa (gs_sa (gs_sa (gs_sa G 4 (G.1 8) x1) 5 (G.1 8) x2) 6 (G.1 8) x3) 7 (G.1 8) x4) 14 x2 (G.1 8)) 8 ((G.1 8) + (1 : Int32)))))))))
def cR_ending (n : Nat) (G : gs_T) (x1 x2 x3 x4 : Int32) : Option ((Int32 ⊕ Nat) × gs_T) :=
  (cS_hasRepeat G x1).bind fun q1 =>
  if q1 = 0 then
    some (.inr 1, G)
  else
    (cS_hasBar G x2).bind fun q2 =>
    if q2 = 0 then
      some (.inr 1, G)
    else
      (cS_hasBar G x3).bind fun q3 =>
      if q3 = 0 then
        some (.inr 1, G)
      else
        if x3 < x2 then
          some (.inr 2, G)
        else
          (cS_hasPasses G x1 x4).bind fun q4 =>
          if q4 = 0 then
            some (.inr 2, G)
          else
            (cS_takesEnding n G x1 x2 x3).bind fun q5 =>
            if q5 = 0 then
              some (.inr 0, G)
            else
              (cS_addEnding G x1 x2 x3 x4).bind fun q6 =>
              some ((.inl q6.1), q6.2)
def cS_moveSign (G : gs_T) (x1 x2 : Int32) : Option (Int32 × gs_T) :=
  gs_ck x1 4 (
  gs_ck x1 4 (
  some ((gs_a G 8 x1), (gs_sa G 8 x1 x2))))
def cR_sign (G : gs_T) (x1 x2 : Int32) : Option ((Int32 ⊕ Nat) × gs_T) :=
  if x1 < 0 then
    some (.inr 2, G)
  else
    if x1 < (4 : Int32) then
      if x2 = (-1 : Int32) then
        (cS_moveSign G x1 x2).bind fun q1 =>
        some ((.inl q1.1), q1.2)
      else
        (cS_hasBar G x2).bind fun q2 =>
        if q2 = 0 then
          some (.inr 1, G)
        else
          (cS_moveSign G x1 x2).bind fun q3 =>
          some ((.inl q3.1), q3.2)
    else
      some (.inr 2, G)
def cS_hasJump (G : gs_T) (x1 : Int32) : Option Int32 :=
  gs_ck x1 60 (
  if (gs_a G 9 x1) = (-1 : Int32) then
    some (0 : Int32)
  else
    some (1 : Int32))
def cS_putJump_j18 (G : gs_T) (x1 x2 x3 x4 : Int32) : Option gs_T :=
  gs_ck x1 60 (
  gs_ck x1 60 (
  gs_ck x1 60 (
  some (gs_sa (gs_sa (gs_sa G 9 x1 x2) 10 x1 x3) 11 x1 (vp_nar .boolean x4)))))
def cS_putJump (G : gs_T) (x1 x2 x3 x4 : Int32) : Option gs_T :=
  (cS_hasJump G x1).bind fun q1 =>
  if q1 = 0 then
    cS_putJump_j18 (gs_sv G 9 ((G.1 9) + (1 : Int32))) x1 x2 x3 x4
  else
    cS_putJump_j18 G x1 x2 x3 x4
def cR_jump (G : gs_T) (x1 x2 x3 x4 : Int32) : Option ((Unit ⊕ Nat) × gs_T) :=
  (cS_hasBar G x1).bind fun q1 =>
  if q1 = 0 then
    some (.inr 1, G)
  else
    if x2 < 0 then
      some (.inr 2, G)
    else
      if (1 : Int32) < x2 then
        some (.inr 2, G)
      else
        if x3 < 0 then
          some (.inr 2, G)
        else
          if x3 ≤ (2 : Int32) then
            (cS_putJump G x1 x2 x3 x4).bind fun q2 =>
            some ((.inl ()), q2)
          else
            some (.inr 2, G)
def cS_takeJump (G : gs_T) (x1 : Int32) : Option gs_T :=
  gs_ck x1 60 (
  some (gs_sv (gs_sa G 9 x1 (-1 : Int32)) 9 ((G.1 9) - (1 : Int32))))
def cR_plain (G : gs_T) (x1 : Int32) : Option ((Unit ⊕ Nat) × gs_T) :=
  (cS_hasBar G x1).bind fun q1 =>
  if q1 = 0 then
    some (.inr 1, G)
  else
    (cS_hasJump G x1).bind fun q2 =>
    if q2 = 0 then
      some (.inr 0, G)
    else
      (cS_takeJump G x1).bind fun q3 =>
      some ((.inl ()), q3)
def cW_leaveAll (G : gs_T) : Option gs_T :=
  some (gs_sf G 21 (0 : Int32))
def cW_forget_38 (n : Nat) : Nat → Int32 → gs_T → Option gs_T
  | 0, _, _ => none
  | k + 1, x1, G =>
    if (60 : Int32) ≤ x1 then
      (cW_leaveAll G).bind fun q1 =>
      some q1
    else
      gs_ck x1 60 (
      cW_forget_38 n k (x1 + (1 : Int32)) (gs_sa G 22 x1 (vp_nar .boolean (0 : Int32))))
def cW_forget (n : Nat) (G : gs_T) : Option gs_T :=
  cW_forget_38 n n (0 : Int32) (gs_sf (gs_sf (gs_sv (gs_sv (gs_sv (gs_sv G 0 (0 : Int32)) 1 (0 : Int32)) 2 (-1 : Int32)) 3 (0 : Int32)) 19 (0 : Int32)) 20 (0 : Int32))
def cW_setFault (G : gs_T) (x1 x2 : Int32) : Option gs_T :=
  some (gs_sv (gs_sv G 4 x1) 5 x2)
def cS_lacksSign (G : gs_T) (x1 : Int32) : Option Int32 :=
  gs_ck x1 4 (
  if (gs_a G 8 x1) = (-1 : Int32) then
    some (1 : Int32)
  else
    some (0 : Int32))
def cS_faultOfJump_j40 (G : gs_T) (x1 : Int32) : Option Int32 :=
  gs_ck x1 60 (
  if (gs_a G 10 x1) = (2 : Int32) then
    (cS_lacksSign G (2 : Int32)).bind fun q1 =>
    if q1 = 0 then
      (cS_lacksSign G (1 : Int32)).bind fun q2 =>
      if q2 = 0 then
        some (0 : Int32)
      else
        some (3 : Int32)
    else
      some (3 : Int32)
  else
    some (0 : Int32))
def cS_faultOfJump_j20 (G : gs_T) (x1 : Int32) : Option Int32 :=
  gs_ck x1 60 (
  if (gs_a G 10 x1) = (1 : Int32) then
    (cS_lacksSign G (3 : Int32)).bind fun q1 =>
    if q1 = 0 then
      cS_faultOfJump_j40 G x1
    else
      some (2 : Int32)
  else
    cS_faultOfJump_j40 G x1)
def cS_faultOfJump (G : gs_T) (x1 : Int32) : Option Int32 :=
  gs_ck x1 60 (
  if (gs_a G 9 x1) = (1 : Int32) then
    (cS_lacksSign G (0 : Int32)).bind fun q1 =>
    if q1 = 0 then
      cS_faultOfJump_j20 G x1
    else
      some (1 : Int32)
  else
    cS_faultOfJump_j20 G x1)
def cW_findFaultOfJumps_2 (n : Nat) : Nat → Int32 → gs_T → Option gs_T
  | 0, _, _ => none
  | k + 1, x1, G =>
    if (G.1 6) ≤ x1 then
      some G
    else
      if (G.1 4) = 0 then
        (cS_hasJump G x1).bind fun q1 =>
        if q1 = 0 then
          cW_findFaultOfJumps_2 n k (x1 + (1 : Int32)) G
        else
          (cS_faultOfJump G x1).bind fun q2 =>
          if q2 = 0 then
            (cW_setFault G q2 (-1 : Int32)).bind fun q4 =>
            cW_findFaultOfJumps_2 n k (x1 + (1 : Int32)) q4
          else
            (cW_setFault G q2 x1).bind fun q3 =>
            cW_findFaultOfJumps_2 n k (x1 + (1 : Int32)) q3
      else
        some G
def cW_findFaultOfJumps (n : Nat) (G : gs_T) : Option gs_T :=
  cW_findFaultOfJumps_2 n n (0 : Int32) G
def cS_repeatAround (G : gs_T) (x1 x2 : Int32) : Option Int32 :=
  gs_ck ((x1 * (3 : Int32)) + x2) 180 (
  some (gs_a G 12 ((x1 * (3 : Int32)) + x2)))
def cW_openAround_31 (n : Nat) (x1 x2 : Int32) : Nat → Int32 → gs_T → Option gs_T
  | 0, _, _ => none
  | k + 1, x3, G =>
    gs_ck x1 60 (
    if (gs_a G 13 x1) ≤ x3 then
      some G
    else
      (cS_repeatAround G x1 x3).bind fun q1 =>
      gs_ck q1 20 (
      if (gs_a G 21 q1) = 0 then
        if x2 = 0 then
          gs_ck q1 20 (
          cW_openAround_31 n x1 x2 k (x3 + (1 : Int32)) (gs_sa G 21 q1 (1 : Int32)))
        else
          gs_ck q1 20 (
          gs_ck q1 20 (
          cW_openAround_31 n x1 x2 k (x3 + (1 : Int32)) (gs_sa G 21 q1 (gs_a G 3 q1))))
      else
        cW_openAround_31 n x1 x2 k (x3 + (1 : Int32)) G))
def cW_openAround_j28 (n : Nat) (G : gs_T) (x1 s0 : Int32) : Option gs_T :=
  cW_openAround_31 n x1 s0 n (0 : Int32) G
def cW_openAround_j27 (n : Nat) (G : gs_T) (x1 : Int32) : Option gs_T :=
  cW_openAround_j28 n G x1 (0 : Int32)
def cW_openAround (n : Nat) (G : gs_T) (x1 : Int32) : Option gs_T :=
  if (G.1 2) = (-1 : Int32) then
    cW_openAround_j27 n G x1
  else
    gs_ck (G.1 2) 60 (
    if (gs_a G 11 (G.1 2)) = 0 then
      cW_openAround_j28 n G x1 (1 : Int32)
    else
      cW_openAround_j27 n G x1)
def cW_isLeftOut (G : gs_T) (x1 : Int32) : Option Int32 :=
  gs_ck x1 20 (
  gs_ck (gs_a G 4 x1) 20 (
  gs_ck x1 20 (
  if ((gs_a G 7 x1) &&& ((1 : Int32) <<< (((gs_a G 21 (gs_a G 4 x1)) - (1 : Int32)) &&& 31))) = 0 then
    some (1 : Int32)
  else
    some (0 : Int32))))
def cS_isRepeatWithinEnding (G : gs_T) (x1 x2 : Int32) : Option Int32 :=
  gs_ck x1 20 (
  gs_ck x1 20 (
  gs_ck x2 20 (
  gs_ck x2 20 (
  (cS_liesWithin G (gs_a G 1 x1) (gs_a G 2 x1) (gs_a G 5 x2) (gs_a G 6 x2)).bind fun q1 =>
  gs_bz q1 (some q1)))))
def cW_leaveWithin_2 (n : Nat) (x1 : Int32) : Nat → Int32 → gs_T → Option gs_T
  | 0, _, _ => none
  | k + 1, x2, G =>
    if (G.1 7) ≤ x2 then
      some G
    else
      gs_ck x1 20 (
      if x2 = (gs_a G 4 x1) then
        cW_leaveWithin_2 n x1 k (x2 + (1 : Int32)) G
      else
        (cS_isRepeatWithinEnding G x2 x1).bind fun q1 =>
        if q1 = 0 then
          cW_leaveWithin_2 n x1 k (x2 + (1 : Int32)) G
        else
          gs_ck x2 20 (
          cW_leaveWithin_2 n x1 k (x2 + (1 : Int32)) (gs_sa G 21 x2 (0 : Int32))))
def cW_leaveWithin (n : Nat) (G : gs_T) (x1 : Int32) : Option gs_T :=
  cW_leaveWithin_2 n x1 n (0 : Int32) G
def cW_endOf_12 (n : Nat) (x1 : Int32) : Nat → Int32 → gs_T → Option (Int32 × gs_T)
  | 0, _, _ => none
  | k + 1, x2, G =>
    if x2 < 0 then
      if (G.1 6) ≤ (x1 + (1 : Int32)) then
        some ((-1 : Int32), G)
      else
        some ((x1 + (1 : Int32)), G)
    else
      (cS_repeatAround G x1 x2).bind fun q1 =>
      gs_ck q1 20 (
      if (gs_a G 2 q1) = x1 then
        gs_ck q1 20 (
        if (gs_a G 21 q1) = 0 then
          cW_endOf_12 n x1 k (x2 + (-1 : Int32)) G
        else
          gs_ck q1 20 (
          gs_ck q1 20 (
          if (gs_a G 3 q1) ≤ (gs_a G 21 q1) then
            gs_ck q1 20 (
            cW_endOf_12 n x1 k (x2 + (-1 : Int32)) (gs_sa G 21 q1 (0 : Int32)))
          else
            gs_ck q1 20 (
            gs_ck q1 20 (
            gs_ck q1 20 (
            some ((gs_a G 1 q1), (gs_sa G 21 q1 ((gs_a G 21 q1) + (1 : Int32))))))))))
      else
        cW_endOf_12 n x1 k (x2 + (-1 : Int32)) G)
def cW_endOf (n : Nat) (G : gs_T) (x1 : Int32) : Option (Int32 × gs_T) :=
  gs_ck x1 60 (
  cW_endOf_12 n x1 n ((gs_a G 13 x1) - (1 : Int32)) G)
def cW_play_j96 (G : gs_T) (x1 s0 s1 : Int32) : Option gs_T :=
  gs_ck s0 1000 (
  gs_ck x1 60 (
  gs_ck x1 60 (
  some (gs_sa (gs_sv (gs_sa G 18 s0 s1) 0 ((G.1 0) + (1 : Int32))) 19 x1 ((gs_a G 19 x1) + (1 : Int32))))))
def cW_play_j65 (G : gs_T) (x1 x2 s0 s1 : Int32) : Option gs_T :=
  gs_ck s0 1000 (
  if x2 = 0 then
    cW_play_j96 (gs_sa G 17 s0 s1) x1 (G.1 0) (0 : Int32)
  else
    (cS_repeatAround (gs_sa G 17 s0 s1) x1 (0 : Int32)).bind fun q1 =>
    gs_ck q1 20 (
    cW_play_j96 (gs_sa G 17 s0 s1) x1 (G.1 0) (gs_a G 21 q1)))
def cW_play (G : gs_T) (x1 : Int32) : Option gs_T :=
  gs_ck x1 60 (
  gs_ck (G.1 0) 1000 (
  gs_ck (G.1 0) 1000 (
  if (gs_a G 13 x1) = 0 then
    cW_play_j65 (gs_sa (gs_sa G 15 (G.1 0) x1) 16 (G.1 0) (G.1 1)) x1 (gs_a G 13 x1) (G.1 0) (0 : Int32)
  else
    (cS_repeatAround (gs_sa (gs_sa G 15 (G.1 0) x1) 16 (G.1 0) (G.1 1)) x1 ((gs_a G 13 x1) - (1 : Int32))).bind fun q1 =>
    gs_ck q1 20 (
    cW_play_j65 (gs_sa (gs_sa G 15 (G.1 0) x1) 16 (G.1 0) (G.1 1)) x1 (gs_a G 13 x1) (G.1 0) (gs_a G 21 q1)))))
def cW_isInLastPasses_2 (n : Nat) (G : gs_T) (x1 : Int32) : Nat → Int32 → Option Int32
  | 0, _ => none
  | k + 1, x2 =>
    gs_ck x1 60 (
    if (gs_a G 13 x1) ≤ x2 then
      some (1 : Int32)
    else
      (cS_repeatAround G x1 x2).bind fun q1 =>
      gs_ck q1 20 (
      gs_ck q1 20 (
      if (gs_a G 3 q1) ≤ (gs_a G 21 q1) then
        cW_isInLastPasses_2 n G x1 k (x2 + (1 : Int32))
      else
        some (0 : Int32))))
def cW_isInLastPasses (n : Nat) (G : gs_T) (x1 : Int32) : Option Int32 :=
  cW_isInLastPasses_2 n G x1 n (0 : Int32)
def cW_isLatestJumpTill (G : gs_T) (x1 : Int32) : Option Int32 :=
  if (G.1 2) = (-1 : Int32) then
    some (0 : Int32)
  else
    gs_ck (G.1 2) 60 (
    if (gs_a G 10 (G.1 2)) = x1 then
      some (1 : Int32)
    else
      some (0 : Int32))
def cW_act (G : gs_T) (x1 : Int32) : Option (Int32 × gs_T) :=
  gs_ck x1 60 (
  (cW_leaveAll (gs_sv (gs_sv (gs_sv (gs_sa G 22 x1 (vp_nar .boolean (1 : Int32))) 2 x1) 3 (0 : Int32)) 1 ((G.1 1) + (1 : Int32)))).bind fun q1 =>
  gs_ck x1 60 (
  if (gs_a q1 9 x1) = (1 : Int32) then
    gs_ck (0 : Int32) 4 (
    some ((gs_a q1 8 (0 : Int32)), q1))
  else
    some ((0 : Int32), q1)))
def cW_behind_j84 (n : Nat) (G : gs_T) (x1 : Int32) : Option (Int32 × gs_T) :=
  (cS_hasJump G x1).bind fun q1 =>
  if q1 = 0 then
    (cW_endOf n G x1).bind fun q2 =>
    some (q2.1, q2.2)
  else
    gs_ck x1 60 (
    if (gs_a G 22 x1) = 0 then
      (cW_act G x1).bind fun q4 =>
      some (q4.1, q4.2)
    else
      (cW_endOf n G x1).bind fun q3 =>
      some (q3.1, q3.2))
def cW_behind_j37 (n : Nat) (G : gs_T) (x1 : Int32) : Option (Int32 × gs_T) :=
  gs_ck (2 : Int32) 4 (
  if (gs_a G 8 (2 : Int32)) = x1 then
    (cW_isLatestJumpTill G (2 : Int32)).bind fun q1 =>
    if q1 = 0 then
      cW_behind_j84 n G x1
    else
      if (G.1 3) = 0 then
        (cW_leaveAll G).bind fun q2 =>
        gs_ck (1 : Int32) 4 (
        some ((gs_a q2 8 (1 : Int32)), (gs_sv q2 3 (1 : Int32))))
      else
        cW_behind_j84 n G x1
  else
    cW_behind_j84 n G x1)
def cW_behind (n : Nat) (G : gs_T) (x1 : Int32) : Option (Int32 × gs_T) :=
  (cW_isInLastPasses n G x1).bind fun q1 =>
  if q1 = 0 then
    (cW_endOf n G x1).bind fun q3 =>
    some (q3.1, q3.2)
  else
    gs_ck (3 : Int32) 4 (
    if (gs_a G 8 (3 : Int32)) = x1 then
      (cW_isLatestJumpTill G (1 : Int32)).bind fun q2 =>
      if q2 = 0 then
        cW_behind_j37 n G x1
      else
        some ((-1 : Int32), G)
    else
      cW_behind_j37 n G x1)
def cW_comeTo_j57 (n : Nat) (G : gs_T) (x1 : Int32) : Option (Int32 × gs_T) :=
  if (G.1 0) < (1000 : Int32) then
    (cW_play G x1).bind fun q1 =>
    (cW_behind n q1 x1).bind fun q2 =>
    some (q2.1, q2.2)
  else
    (cW_setFault G (4 : Int32) x1).bind fun q3 =>
    some ((-1 : Int32), q3)
def cW_comeTo (n : Nat) (G : gs_T) (x1 : Int32) : Option (Int32 × gs_T) :=
  gs_ck x1 60 (
  gs_ck x1 60 (
  (cW_openAround n (gs_sa G 20 x1 ((gs_a G 20 x1) + (1 : Int32))) x1).bind fun q1 =>
  gs_ck x1 60 (
  if (gs_a q1 14 x1) = (-1 : Int32) then
    cW_comeTo_j57 n q1 x1
  else
    (cW_isLeftOut q1 (gs_a q1 14 x1)).bind fun q2 =>
    if q2 = 0 then
      cW_comeTo_j57 n q1 x1
    else
      (cW_leaveWithin n q1 (gs_a q1 14 x1)).bind fun q3 =>
      gs_ck (gs_a q1 14 x1) 20 (
      (cW_endOf n q3 (gs_a q3 6 (gs_a q1 14 x1))).bind fun q4 =>
      some (q4.1, q4.2)))))
def cW_playFromFirstBar_18 (n : Nat) : Nat → Int32 → Int32 → gs_T → Option gs_T
  | 0, _, _, _ => none
  | k + 1, x1, x2, G =>
    if (1000000 : Int32) ≤ x2 then
      some G
    else
      if x1 = (-1 : Int32) then
        some G
      else
        (cW_comeTo n G x1).bind fun q1 =>
        cW_playFromFirstBar_18 n k q1.1 (x2 + (1 : Int32)) q1.2
def cW_playFromFirstBar_j15 (n : Nat) (G : gs_T) (s0 : Int32) : Option gs_T :=
  cW_playFromFirstBar_18 n n s0 (0 : Int32) G
def cW_playFromFirstBar (n : Nat) (G : gs_T) : Option gs_T :=
  if (G.1 6) ≤ 0 then
    cW_playFromFirstBar_j15 n G (-1 : Int32)
  else
    cW_playFromFirstBar_j15 n G (0 : Int32)
def cW_go_j25 (n : Nat) (G : gs_T) : Option (Int32 × gs_T) :=
  if (G.1 4) = 0 then
    some ((G.1 0), G)
  else
    (cW_forget n G).bind fun q1 =>
    some (((-1 : Int32) - (q1.1 4)), q1)
def cW_go (n : Nat) (G : gs_T) : Option (Int32 × gs_T) :=
  (cW_forget n G).bind fun q1 =>
  (cW_setFault q1 (0 : Int32) (-1 : Int32)).bind fun q2 =>
  (cW_findFaultOfJumps n q2).bind fun q3 =>
  if (q3.1 4) = 0 then
    (cW_playFromFirstBar n q3).bind fun q4 =>
    cW_go_j25 n q4
  else
    cW_go_j25 n q3
def cR_unfold (n : Nat) (G : gs_T) : Option (Int32 × gs_T) :=
  (cW_go n G).bind fun q1 =>
  some (q1.1, q1.2)
def cR_fault (G : gs_T) : Option Int32 :=
  some (G.1 5)
def cR_played (G : gs_T) (x1 x2 : Int32) : Option ((Int32 ⊕ Nat) × gs_T) :=
  if x1 < 0 then
    some (.inr 1, G)
  else
    if x1 < (G.1 0) then
      if x2 = (0 : Int32) then
        gs_ck x1 1000 (
        some ((.inl (gs_a G 15 x1)), G))
      else
      if x2 = (1 : Int32) then
        gs_ck x1 1000 (
        gs_ck (gs_a G 15 x1) 60 (
        some ((.inl (gs_a G 0 (gs_a G 15 x1))), G)))
      else
      if x2 = (2 : Int32) then
        gs_ck x1 1000 (
        some ((.inl (gs_a G 16 x1)), G))
      else
      if x2 = (3 : Int32) then
        gs_ck x1 1000 (
        some ((.inl (gs_a G 17 x1)), G))
      else
      if x2 = (4 : Int32) then
        gs_ck x1 1000 (
        some ((.inl (gs_a G 18 x1)), G))
      else
        some (.inr 2, G)
    else
      some (.inr 1, G)
def cR_times (G : gs_T) (x1 : Int32) : Option ((Int32 ⊕ Nat) × gs_T) :=
  (cS_hasBar G x1).bind fun q1 =>
  if q1 = 0 then
    some (.inr 1, G)
  else
    gs_ck x1 60 (
    some ((.inl (gs_a G 19 x1)), G))
def cR_comes (G : gs_T) (x1 : Int32) : Option ((Int32 ⊕ Nat) × gs_T) :=
  (cS_hasBar G x1).bind fun q1 =>
  if q1 = 0 then
    some (.inr 1, G)
  else
    gs_ck x1 60 (
    some ((.inl (gs_a G 20 x1)), G))
def cT_cell (G : gs_T) (x0 x1 : Int32) : Option Int32 :=
  some ((x0 * (41 : Int32)) + x1)
def cT_compareContents_12 (n : Nat) (x1 x2 : Int32) (K : gs_T → Option gs_T) : Nat → Int32 → gs_T → Option gs_T
  | 0, _, _ => none
  | k + 1, x3, G =>
    if x3 ≤ x2 then
      K G
    else
      if x1 ≤ (x3 + (1 : Int32)) then
        (cT_cell G x2 x3).bind fun q1 =>
        gs_ck x2 40 (
        gs_ck x3 40 (
        if (gs_a G 23 x2) = (gs_a G 23 x3) then
          gs_ck q1 1681 (
          cT_compareContents_12 n x1 x2 K k (x3 + (-1 : Int32)) (gs_sa G 24 q1 ((0 : Int32) + (1 : Int32))))
        else
          gs_ck q1 1681 (
          cT_compareContents_12 n x1 x2 K k (x3 + (-1 : Int32)) (gs_sa G 24 q1 (0 : Int32)))))
      else
        (cT_cell G (x2 + (1 : Int32)) (x3 + (1 : Int32))).bind fun q2 =>
        gs_ck q2 1681 (
        (cT_cell G x2 x3).bind fun q3 =>
        gs_ck x2 40 (
        gs_ck x3 40 (
        if (gs_a G 23 x2) = (gs_a G 23 x3) then
          gs_ck q3 1681 (
          cT_compareContents_12 n x1 x2 K k (x3 + (-1 : Int32)) (gs_sa G 24 q3 ((gs_a G 24 q2) + (1 : Int32))))
        else
          gs_ck q3 1681 (
          cT_compareContents_12 n x1 x2 K k (x3 + (-1 : Int32)) (gs_sa G 24 q3 (0 : Int32))))))
def cT_compareContents_4 (n : Nat) (x1 : Int32) : Nat → Int32 → gs_T → Option gs_T
  | 0, _, _ => none
  | k + 1, x2, G =>
    if x2 < 0 then
      some G
    else
      cT_compareContents_12 n x1 x2 (fun G0 =>
        cT_compareContents_4 n x1 k (x2 + (-1 : Int32)) G0) n (x1 - (1 : Int32)) G
def cT_compareContents (n : Nat) (G : gs_T) (x1 : Int32) : Option gs_T :=
  cT_compareContents_4 n x1 n (x1 - (1 : Int32)) G
def cT_chooseBlock_9 (n : Nat) (x1 x2 x3 : Int32) : Nat → Int32 → gs_T → Option gs_T
  | 0, _, _ => none
  | k + 1, x4, G =>
    if x2 < ((2 : Int32) * x4) then
      some G
    else
      gs_nz x4 (
      if (x2 - x2 / x4 * x4) = 0 then
        (cT_cell G x1 (x1 + x4)).bind fun q1 =>
        gs_ck q1 1681 (
        if (gs_a G 24 q1) < (x2 - x4) then
          cT_chooseBlock_9 n x1 x2 x3 k (x4 + (1 : Int32)) G
        else
          (cT_cell G x1 x4).bind fun q2 =>
          gs_ck q2 1681 (
          gs_ck x3 1681 (
          if (gs_a G 25 x3) ≤ (gs_a G 25 q2) then
            cT_chooseBlock_9 n x1 x2 x3 k (x4 + (1 : Int32)) G
          else
            (cT_cell G x1 x4).bind fun q3 =>
            gs_ck q3 1681 (
            gs_ck x3 1681 (
            gs_ck x3 1681 (
            cT_chooseBlock_9 n x1 x2 x3 k (x4 + (1 : Int32)) (gs_sa (gs_sa G 25 x3 (gs_a G 25 q3)) 26 x3 x4)))))))
      else
        cT_chooseBlock_9 n x1 x2 x3 k (x4 + (1 : Int32)) G)
def cT_chooseBlock (n : Nat) (G : gs_T) (x1 x2 : Int32) : Option gs_T :=
  (cT_cell G x1 x2).bind fun q1 =>
  cT_chooseBlock_9 n x1 x2 q1 n (1 : Int32) G
def cT_chooseParts_17 (n : Nat) (x1 x2 x3 : Int32) : Nat → Int32 → Int32 → gs_T → Option gs_T
  | 0, _, _, _ => none
  | k + 1, x4, x5, G =>
    if x2 ≤ x5 then
      gs_ck x3 1681 (
      some (gs_sa G 25 x3 x4))
    else
      if x4 ≤ (2 : Int32) then
        gs_ck x3 1681 (
        some (gs_sa G 25 x3 x4))
      else
        (cT_cell G x1 x5).bind fun q1 =>
        gs_ck q1 1681 (
        (cT_cell G (x1 + x5) (x2 - x5)).bind fun q2 =>
        gs_ck q2 1681 (
        if x4 ≤ ((gs_a G 25 q1) + (gs_a G 25 q2)) then
          cT_chooseParts_17 n x1 x2 x3 k x4 (x5 + (1 : Int32)) G
        else
          gs_ck x3 1681 (
          cT_chooseParts_17 n x1 x2 x3 k ((gs_a G 25 q1) + (gs_a G 25 q2)) (x5 + (1 : Int32)) (gs_sa G 26 x3 (-x5)))))
def cT_chooseParts (n : Nat) (G : gs_T) (x1 x2 : Int32) : Option gs_T :=
  (cT_cell G x1 x2).bind fun q1 =>
  gs_ck q1 1681 (
  cT_chooseParts_17 n x1 x2 q1 n (gs_a G 25 q1) (1 : Int32) G)
def cT_choose (n : Nat) (G : gs_T) (x1 x2 : Int32) : Option gs_T :=
  (cT_cell G x1 x2).bind fun q1 =>
  if x2 = (1 : Int32) then
    gs_ck q1 1681 (
    gs_ck q1 1681 (
    some (gs_sa (gs_sa G 25 q1 (1 : Int32)) 26 q1 (0 : Int32))))
  else
    gs_ck q1 1681 (
    (cT_chooseBlock n (gs_sa G 25 q1 (x2 + (1 : Int32))) x1 x2).bind fun q2 =>
    (cT_chooseParts n q2 x1 x2).bind fun q3 =>
    some q3)
def cT_putAside (G : gs_T) (x1 x2 : Int32) : Option gs_T :=
  if (160 : Int32) ≤ (G.1 10) then
    some G
  else
    gs_ck (G.1 10) 160 (
    gs_ck (G.1 10) 160 (
    some (gs_sv (gs_sa (gs_sa G 27 (G.1 10) x1) 28 (G.1 10) x2) 10 ((G.1 10) + (1 : Int32)))))
def cT_addItem (G : gs_T) (x1 x2 : Int32) : Option gs_T :=
  if (80 : Int32) ≤ (G.1 11) then
    some G
  else
    gs_ck (G.1 11) 80 (
    gs_ck (G.1 11) 80 (
    some (gs_sv (gs_sa (gs_sa G 29 (G.1 11) x1) 30 (G.1 11) x2) 11 ((G.1 11) + (1 : Int32)))))
def cT_writePart (G : gs_T) (x1 x2 : Int32) : Option gs_T :=
  if x2 = 0 then
    (cT_addItem G (2 : Int32) (0 : Int32)).bind fun q8 =>
    some q8
  else
    (cT_cell G x1 x2).bind fun q1 =>
    gs_ck q1 1681 (
    if (gs_a G 26 q1) ≤ 0 then
      if 0 ≤ (gs_a G 26 q1) then
        gs_ck x1 40 (
        (cT_addItem G (0 : Int32) (gs_a G 23 x1)).bind fun q2 =>
        some (gs_sv q2 12 ((q2.1 12) + (1 : Int32))))
      else
        (cT_putAside G (x1 - (gs_a G 26 q1)) (x2 + (gs_a G 26 q1))).bind fun q3 =>
        (cT_putAside q3 x1 (-(gs_a G 26 q1))).bind fun q4 =>
        some q4
    else
      gs_nz (gs_a G 26 q1) (
      (cT_addItem G (1 : Int32) (x2 / (gs_a G 26 q1))).bind fun q5 =>
      (cT_putAside q5 x1 (0 : Int32)).bind fun q6 =>
      (cT_putAside q6 x1 (gs_a G 26 q1)).bind fun q7 =>
      some q7))
def cT_writeItems_23 (n : Nat) : Nat → Int32 → gs_T → Option gs_T
  | 0, _, _ => none
  | k + 1, x2, G =>
    if (160 : Int32) ≤ x2 then
      some G
    else
      if (G.1 10) ≤ 0 then
        some G
      else
        gs_ck ((G.1 10) - (1 : Int32)) 160 (
        gs_ck ((G.1 10) - (1 : Int32)) 160 (
        (cT_writePart (gs_sv G 10 ((G.1 10) - (1 : Int32))) (gs_a G 27 ((G.1 10) - (1 : Int32))) (gs_a G 28 ((G.1 10) - (1 : Int32)))).bind fun q1 =>
        cT_writeItems_23 n k (x2 + (1 : Int32)) q1))
def cT_writeItems (n : Nat) (G : gs_T) (x1 : Int32) : Option gs_T :=
  (cT_putAside (gs_sv (gs_sv (gs_sv G 11 (0 : Int32)) 12 (0 : Int32)) 10 (0 : Int32)) (0 : Int32) x1).bind fun q1 =>
  cT_writeItems_23 n n (0 : Int32) q1
def cT_writeRow_14 (n : Nat) (x1 x2 : Int32) (K : gs_T → Option (Int32 × gs_T)) : Nat → Int32 → gs_T → Option (Int32 × gs_T)
  | 0, _, _ => none
  | k + 1, x3, G =>
    if x1 < (x3 + x2) then
      K G
    else
      (cT_choose n G x3 x2).bind fun q1 =>
      cT_writeRow_14 n x1 x2 K k (x3 + (1 : Int32)) q1
def cT_writeRow_7 (n : Nat) (x1 : Int32) : Nat → Int32 → gs_T → Option (Int32 × gs_T)
  | 0, _, _ => none
  | k + 1, x2, G =>
    if x1 < x2 then
      (cT_writeItems n G x1).bind fun q1 =>
      some ((q1.1 12), q1)
    else
      cT_writeRow_14 n x1 x2 (fun G1 =>
        cT_writeRow_7 n x1 k (x2 + (1 : Int32)) G1) n (0 : Int32) G
def cT_writeRow (n : Nat) (G : gs_T) (x1 : Int32) : Option (Int32 × gs_T) :=
  (cT_compareContents n G x1).bind fun q1 =>
  cT_writeRow_7 n x1 n (1 : Int32) q1
def cR_fold_50 (n : Nat) (x1 x2 : Int32) : Nat → Int32 → gs_T → Option ((Int32 ⊕ Nat) × gs_T)
  | 0, _, _ => none
  | k + 1, x3, G =>
    if x2 ≤ x3 then
      (cT_writeRow n G x2).bind fun q1 =>
      some ((.inl q1.1), q1.2)
    else
      gs_ck (x1 + x3) 1000 (
      gs_ck (gs_a G 15 (x1 + x3)) 60 (
      gs_ck x3 40 (
      cR_fold_50 n x1 x2 k (x3 + (1 : Int32)) (gs_sa G 23 x3 (gs_a G 0 (gs_a G 15 (x1 + x3)))))))
def cR_fold (n : Nat) (G : gs_T) (x1 x2 : Int32) : Option ((Int32 ⊕ Nat) × gs_T) :=
  if x2 < (1 : Int32) then
    some (.inr 2, G)
  else
    if x2 ≤ (40 : Int32) then
      if x1 < 0 then
        some (.inr 1, G)
      else
        if x1 ≤ ((G.1 0) - x2) then
          cR_fold_50 n x1 x2 n (0 : Int32) G
        else
          some (.inr 1, G)
    else
      some (.inr 2, G)
def cR_folded (G : gs_T) (x1 x2 : Int32) : Option ((Int32 ⊕ Nat) × gs_T) :=
  if x1 < 0 then
    some (.inr 1, G)
  else
    if x1 < (G.1 11) then
      if x2 = (0 : Int32) then
        gs_ck x1 80 (
        some ((.inl (gs_a G 29 x1)), G))
      else
      if x2 = (1 : Int32) then
        gs_ck x1 80 (
        some ((.inl (gs_a G 30 x1)), G))
      else
        some (.inr 2, G)
    else
      some (.inr 1, G)
def cR_told (G : gs_T) (x1 : Int32) : Option ((Int32 ⊕ Nat) × gs_T) :=
  if x1 = (0 : Int32) then
    some ((.inl (G.1 6)), G)
  else
  if x1 = (1 : Int32) then
    some ((.inl (G.1 7)), G)
  else
  if x1 = (2 : Int32) then
    some ((.inl (G.1 8)), G)
  else
  if x1 = (3 : Int32) then
    some ((.inl (G.1 9)), G)
  else
  if x1 = (4 : Int32) then
    some ((.inl (G.1 0)), G)
  else
  if x1 = (5 : Int32) then
    some ((.inl (G.1 1)), G)
  else
  if x1 = (6 : Int32) then
    some ((.inl (G.1 11)), G)
  else
  if x1 = (7 : Int32) then
    some ((.inl (G.1 12)), G)
  else
    some (.inr 2, G)
end
section
/-! ===== the reference as functions (printed by gen.py from its bytecode) ===== -/
def mM_thrown (G : gs_T) : Option Int32 :=
  some (G.1 0)
def mM_refuses (G : gs_T) (x1 x2 x3 : Int32) : Option (Int32 × gs_T) :=
  if x1 = 0 then
    if x2 = 0 then
      if x3 = 0 then
        some ((0 : Int32), (gs_sv G 0 (0 : Int32)))
      else
        some ((1 : Int32), (gs_sv G 0 (3 : Int32)))
    else
      some ((1 : Int32), (gs_sv G 0 (2 : Int32)))
  else
    some ((1 : Int32), (gs_sv G 0 (1 : Int32)))
def mM_isBar (G : gs_T) (x1 : Int32) : Option Int32 :=
  if x1 < 0 then
    some (0 : Int32)
  else
    if (G.1 1) ≤ x1 then
      some (0 : Int32)
    else
      some (1 : Int32)
def mM_bar_j15 (G : gs_T) (x1 s0 : Int32) : Option (Int32 × gs_T) :=
  (mM_refuses G s0 (0 : Int32) (0 : Int32)).bind fun q1 =>
  if q1.1 = 0 then
    gs_ck (q1.2.1 1) 60 (
    some ((((q1.2.1 1) + (1 : Int32)) - (1 : Int32)), (gs_sv (gs_sa q1.2 0 (q1.2.1 1) x1) 1 ((q1.2.1 1) + (1 : Int32)))))
  else
    some ((0 : Int32), q1.2)
def mM_bar (G : gs_T) (x1 : Int32) : Option (Int32 × gs_T) :=
  if (G.1 1) = (60 : Int32) then
    mM_bar_j15 G x1 (1 : Int32)
  else
    mM_bar_j15 G x1 (0 : Int32)
def mM_isApart (G : gs_T) (x0 x1 x2 x3 : Int32) : Option Int32 :=
  if x1 < x2 then
    some (1 : Int32)
  else
    if x0 ≤ x3 then
      some (0 : Int32)
    else
      some (1 : Int32)
def mM_isWithin (G : gs_T) (x0 x1 x2 x3 : Int32) : Option Int32 :=
  if x0 < x2 then
    some (0 : Int32)
  else
    if x3 < x1 then
      some (0 : Int32)
    else
      some (1 : Int32)
def mM_liesWell (G : gs_T) (x0 x1 x2 x3 : Int32) : Option Int32 :=
  (mM_isApart G x0 x1 x2 x3).bind fun q1 =>
  if q1 = 0 then
    (mM_isWithin G x0 x1 x2 x3).bind fun q2 =>
    if q2 = 0 then
      (mM_isWithin G x2 x3 x0 x1).bind fun q3 =>
      if q3 = 0 then
        some (0 : Int32)
      else
        some (1 : Int32)
    else
      some (1 : Int32)
  else
    some (1 : Int32)
def mM_isAround (G : gs_T) (x1 x2 : Int32) : Option Int32 :=
  gs_ck x1 20 (
  if x2 < (gs_a G 1 x1) then
    some (0 : Int32)
  else
    gs_ck x1 20 (
    if (gs_a G 2 x1) < x2 then
      some (0 : Int32)
    else
      some (1 : Int32)))
def mM_mayRepeat_121 (n : Nat) (G : gs_T) (x2 x3 : Int32) (K : Int32 → Option Int32) : Nat → Int32 → Int32 → Option Int32
  | 0, _, _ => none
  | k + 1, x4, x5 =>
    if (G.1 2) ≤ x5 then
      K x4
    else
      (mM_isAround G x5 x3).bind fun q1 =>
      if q1 = 0 then
        mM_mayRepeat_121 n G x2 x3 K k (x4 + (0 : Int32)) (x5 + (1 : Int32))
      else
        mM_mayRepeat_121 n G x2 x3 K k (x4 + (1 : Int32)) (x5 + (1 : Int32))
def mM_mayRepeat_72 (n : Nat) (G : gs_T) (x1 x2 : Int32) (K : Unit → Option Int32) : Nat → Int32 → Option Int32
  | 0, _ => none
  | k + 1, x3 =>
    if (G.1 3) ≤ x3 then
      K ()
    else
      gs_ck x3 20 (
      gs_ck x3 20 (
      (mM_liesWell G x1 x2 (gs_a G 5 x3) (gs_a G 6 x3)).bind fun q1 =>
      if q1 = 0 then
        some (0 : Int32)
      else
        mM_mayRepeat_72 n G x1 x2 K k (x3 + (1 : Int32))))
def mM_mayRepeat_110 (n : Nat) (G : gs_T) (x2 : Int32) : Nat → Int32 → Option Int32
  | 0, _ => none
  | k + 1, x3 =>
    if x2 < x3 then
      if (20 : Int32) ≤ (G.1 2) then
        some (0 : Int32)
      else
        some (1 : Int32)
    else
      mM_mayRepeat_121 n G x2 x3 (fun y4_0 =>
        if y4_0 ≤ (3 : Int32) then
          mM_mayRepeat_110 n G x2 k (x3 + (1 : Int32))
        else
          some (0 : Int32)) n (1 : Int32) (0 : Int32)
def mM_mayRepeat_2 (n : Nat) (G : gs_T) (x1 x2 : Int32) (K : Unit → Option Int32) : Nat → Int32 → Option Int32
  | 0, _ => none
  | k + 1, x3 =>
    if (G.1 2) ≤ x3 then
      K ()
    else
      gs_ck x3 20 (
      if (gs_a G 1 x3) = x1 then
        gs_ck x3 20 (
        if (gs_a G 2 x3) = x2 then
          some (0 : Int32)
        else
          gs_ck x3 20 (
          gs_ck x3 20 (
          (mM_liesWell G x1 x2 (gs_a G 1 x3) (gs_a G 2 x3)).bind fun q2 =>
          if q2 = 0 then
            some (0 : Int32)
          else
            mM_mayRepeat_2 n G x1 x2 K k (x3 + (1 : Int32)))))
      else
        gs_ck x3 20 (
        gs_ck x3 20 (
        (mM_liesWell G x1 x2 (gs_a G 1 x3) (gs_a G 2 x3)).bind fun q1 =>
        if q1 = 0 then
          some (0 : Int32)
        else
          mM_mayRepeat_2 n G x1 x2 K k (x3 + (1 : Int32)))))
def mM_mayRepeat (n : Nat) (G : gs_T) (x1 x2 : Int32) : Option Int32 :=
  mM_mayRepeat_2 n G x1 x2 (fun _ =>
    mM_mayRepeat_72 n G x1 x2 (fun _ =>
      mM_mayRepeat_110 n G x2 n x1) n (0 : Int32)) n (0 : Int32)
def mM_repeat_j90 (n : Nat) (G : gs_T) (x1 x2 x3 s0 s1 s2 : Int32) : Option (Int32 × gs_T) :=
  (mM_refuses G s0 s1 s2).bind fun q1 =>
  if q1.1 = 0 then
    gs_ck (q1.2.1 2) 20 (
    gs_ck (q1.2.1 2) 20 (
    gs_ck (q1.2.1 2) 20 (
    some ((((q1.2.1 2) + (1 : Int32)) - (1 : Int32)), (gs_sv (gs_sa (gs_sa (gs_sa q1.2 1 (q1.2.1 2) x1) 2 (q1.2.1 2) x2) 3 (q1.2.1 2) x3) 2 ((q1.2.1 2) + (1 : Int32)))))))
  else
    some ((0 : Int32), q1.2)
def mM_repeat_j89 (n : Nat) (G : gs_T) (x1 x2 x3 s0 s1 : Int32) : Option (Int32 × gs_T) :=
  mM_repeat_j90 n G x1 x2 x3 s0 s1 (0 : Int32)
def mM_repeat_j66 (n : Nat) (G : gs_T) (x1 x2 x3 x4 x5 s0 s1 : Int32) : Option (Int32 × gs_T) :=
  if x4 = 0 then
    mM_repeat_j89 n G x1 x2 x3 s0 s1
  else
    if x5 = 0 then
      mM_repeat_j89 n G x1 x2 x3 s0 s1
    else
      (mM_mayRepeat n G x1 x2).bind fun q1 =>
      if q1 = 0 then
        mM_repeat_j90 n G x1 x2 x3 s0 s1 (1 : Int32)
      else
        mM_repeat_j89 n G x1 x2 x3 s0 s1
def mM_repeat_j56 (n : Nat) (G : gs_T) (x1 x2 x3 x4 x5 s0 : Int32) : Option (Int32 × gs_T) :=
  if x5 = 0 then
    mM_repeat_j66 n G x1 x2 x3 x4 x5 s0 (1 : Int32)
  else
    mM_repeat_j66 n G x1 x2 x3 x4 x5 s0 (0 : Int32)
def mM_repeat_j43 (n : Nat) (G : gs_T) (x1 x2 x3 x4 s0 : Int32) : Option (Int32 × gs_T) :=
  if x4 = 0 then
    mM_repeat_j56 n G x1 x2 x3 x4 s0 (1 : Int32)
  else
    mM_repeat_j56 n G x1 x2 x3 x4 s0 (0 : Int32)
def mM_repeat_j42 (n : Nat) (G : gs_T) (x1 x2 x3 x4 : Int32) : Option (Int32 × gs_T) :=
  mM_repeat_j43 n G x1 x2 x3 x4 (0 : Int32)
def mM_repeat_j21 (n : Nat) (G : gs_T) (x1 x2 x3 s0 : Int32) : Option (Int32 × gs_T) :=
  if x3 < (2 : Int32) then
    mM_repeat_j42 n G x1 x2 x3 s0
  else
    if (4 : Int32) < x3 then
      mM_repeat_j42 n G x1 x2 x3 s0
    else
      if x2 < x1 then
        mM_repeat_j42 n G x1 x2 x3 s0
      else
        mM_repeat_j43 n G x1 x2 x3 s0 (1 : Int32)
def mM_repeat_j20 (n : Nat) (G : gs_T) (x1 x2 x3 : Int32) : Option (Int32 × gs_T) :=
  mM_repeat_j21 n G x1 x2 x3 (0 : Int32)
def mM_repeat (n : Nat) (G : gs_T) (x1 x2 x3 : Int32) : Option (Int32 × gs_T) :=
  (mM_isBar G x1).bind fun q1 =>
  if q1 = 0 then
    mM_repeat_j20 n G x1 x2 x3
  else
    (mM_isBar G x2).bind fun q2 =>
    if q2 = 0 then
      mM_repeat_j20 n G x1 x2 x3
    else
      mM_repeat_j21 n G x1 x2 x3 (1 : Int32)
def mM_mayEnd_25 (n : Nat) (G : gs_T) (x2 x3 : Int32) (K : Unit → Option Int32) : Nat → Int32 → Option Int32
  | 0, _ => none
  | k + 1, x4 =>
    if (G.1 3) ≤ x4 then
      K ()
    else
      gs_ck x4 20 (
      gs_ck x4 20 (
      (mM_isApart G x2 x3 (gs_a G 5 x4) (gs_a G 6 x4)).bind fun q1 =>
      if q1 = 0 then
        some (0 : Int32)
      else
        mM_mayEnd_25 n G x2 x3 K k (x4 + (1 : Int32))))
def mM_mayEnd_67 (n : Nat) (G : gs_T) (x2 x3 : Int32) : Nat → Int32 → Option Int32
  | 0, _ => none
  | k + 1, x4 =>
    if (G.1 2) ≤ x4 then
      if (20 : Int32) ≤ (G.1 3) then
        some (0 : Int32)
      else
        some (1 : Int32)
    else
      gs_ck x4 20 (
      gs_ck x4 20 (
      (mM_liesWell G x2 x3 (gs_a G 1 x4) (gs_a G 2 x4)).bind fun q1 =>
      if q1 = 0 then
        some (0 : Int32)
      else
        mM_mayEnd_67 n G x2 x3 k (x4 + (1 : Int32))))
def mM_mayEnd (n : Nat) (G : gs_T) (x1 x2 x3 : Int32) : Option Int32 :=
  gs_ck x1 20 (
  gs_ck x1 20 (
  (mM_isWithin G x2 x3 (gs_a G 1 x1) (gs_a G 2 x1)).bind fun q1 =>
  if q1 = 0 then
    some (0 : Int32)
  else
    mM_mayEnd_25 n G x2 x3 (fun _ =>
      mM_mayEnd_67 n G x2 x3 n (0 : Int32)) n (0 : Int32)))
def mM_ending_j111 (n : Nat) (G : gs_T) (x1 x2 x3 x4 s0 s1 s2 : Int32) : Option (Int32 × gs_T) :=
  (mM_refuses G s0 s1 s2).bind fun q1 =>
  if q1.1 = 0 then
    gs_ck (q1.2.1 3) 20 (
    gs_ck (q1.2.1 3) 20 (
    gs_ck (q1.2.1 3) 20 (
    gs_ck (q1.2.1 3) 20 (
    some ((((q1.2.1 3) + (1 : Int32)) - (1 : Int32)), (gs_sv (gs_sa (gs_sa (gs_sa (gs_sa q1.2 4 (q1.2.1 3) x1) 5 (q1.2.1 3) x2) 6 (q1.2.1 3) x3) 7 (q1.2.1 3) x4) 3 ((q1.2.1 3) + (1 : Int32))))))))
  else
    some ((0 : Int32), q1.2)
def mM_ending_j110 (n : Nat) (G : gs_T) (x1 x2 x3 x4 s0 s1 : Int32) : Option (Int32 × gs_T) :=
  mM_ending_j111 n G x1 x2 x3 x4 s0 s1 (0 : Int32)
def mM_ending_j91 (n : Nat) (G : gs_T) (x1 x2 x3 x4 x6 s0 s1 : Int32) : Option (Int32 × gs_T) :=
  if x6 = 0 then
    mM_ending_j110 n G x1 x2 x3 x4 s0 s1
  else
    (mM_mayEnd n G x1 x2 x3).bind fun q1 =>
    if q1 = 0 then
      mM_ending_j111 n G x1 x2 x3 x4 s0 s1 (1 : Int32)
    else
      mM_ending_j110 n G x1 x2 x3 x4 s0 s1
def mM_ending_j81 (n : Nat) (G : gs_T) (x1 x2 x3 x4 x6 s0 : Int32) : Option (Int32 × gs_T) :=
  if x6 = 0 then
    mM_ending_j91 n G x1 x2 x3 x4 x6 s0 (1 : Int32)
  else
    mM_ending_j91 n G x1 x2 x3 x4 x6 s0 (0 : Int32)
def mM_ending_j68 (n : Nat) (G : gs_T) (x1 x2 x3 x4 x5 s0 : Int32) : Option (Int32 × gs_T) :=
  if x5 = 0 then
    mM_ending_j81 n G x1 x2 x3 x4 s0 (1 : Int32)
  else
    mM_ending_j81 n G x1 x2 x3 x4 s0 (0 : Int32)
def mM_ending_j67 (n : Nat) (G : gs_T) (x1 x2 x3 x4 x5 : Int32) : Option (Int32 × gs_T) :=
  mM_ending_j68 n G x1 x2 x3 x4 x5 (0 : Int32)
def mM_ending_j33 (n : Nat) (G : gs_T) (x1 x2 x3 x4 s0 : Int32) : Option (Int32 × gs_T) :=
  if s0 = 0 then
    mM_ending_j67 n G x1 x2 x3 x4 s0
  else
    if x3 < x2 then
      mM_ending_j67 n G x1 x2 x3 x4 s0
    else
      if x4 ≤ 0 then
        mM_ending_j67 n G x1 x2 x3 x4 s0
      else
        gs_ck x1 20 (
        if ((1 : Int32) <<< ((gs_a G 3 x1) &&& 31)) ≤ x4 then
          mM_ending_j67 n G x1 x2 x3 x4 s0
        else
          mM_ending_j68 n G x1 x2 x3 x4 s0 (1 : Int32))
def mM_ending_j32 (n : Nat) (G : gs_T) (x1 x2 x3 x4 : Int32) : Option (Int32 × gs_T) :=
  mM_ending_j33 n G x1 x2 x3 x4 (0 : Int32)
def mM_ending (n : Nat) (G : gs_T) (x1 x2 x3 x4 : Int32) : Option (Int32 × gs_T) :=
  if x1 < 0 then
    mM_ending_j32 n G x1 x2 x3 x4
  else
    if (G.1 2) ≤ x1 then
      mM_ending_j32 n G x1 x2 x3 x4
    else
      (mM_isBar G x2).bind fun q1 =>
      if q1 = 0 then
        mM_ending_j32 n G x1 x2 x3 x4
      else
        (mM_isBar G x3).bind fun q2 =>
        if q2 = 0 then
          mM_ending_j32 n G x1 x2 x3 x4
        else
          mM_ending_j33 n G x1 x2 x3 x4 (1 : Int32)
def mM_sign_j33 (G : gs_T) (x1 x2 s0 s1 : Int32) : Option (Int32 × gs_T) :=
  (mM_refuses G s0 s1 (0 : Int32)).bind fun q1 =>
  if q1.1 = 0 then
    gs_ck x1 4 (
    gs_ck x1 4 (
    some ((gs_a q1.2 8 x1), (gs_sa q1.2 8 x1 x2))))
  else
    some ((0 : Int32), q1.2)
def mM_sign_j32 (G : gs_T) (x1 x2 s0 : Int32) : Option (Int32 × gs_T) :=
  mM_sign_j33 G x1 x2 s0 (0 : Int32)
def mM_sign_j15 (G : gs_T) (x1 x2 s0 : Int32) : Option (Int32 × gs_T) :=
  if x2 = (-1 : Int32) then
    mM_sign_j32 G x1 x2 s0
  else
    (mM_isBar G x2).bind fun q1 =>
    if q1 = 0 then
      mM_sign_j33 G x1 x2 s0 (1 : Int32)
    else
      mM_sign_j32 G x1 x2 s0
def mM_sign_j10 (G : gs_T) (x1 x2 : Int32) : Option (Int32 × gs_T) :=
  mM_sign_j15 G x1 x2 (1 : Int32)
def mM_sign (G : gs_T) (x1 x2 : Int32) : Option (Int32 × gs_T) :=
  if x1 < 0 then
    mM_sign_j10 G x1 x2
  else
    if x1 ≤ (3 : Int32) then
      mM_sign_j15 G x1 x2 (0 : Int32)
    else
      mM_sign_j10 G x1 x2
def mM_jump_j37 (G : gs_T) (x1 x2 x3 x4 s0 s1 : Int32) : Option gs_T :=
  (mM_refuses G s0 s1 (0 : Int32)).bind fun q1 =>
  if q1.1 = 0 then
    gs_ck x1 60 (
    gs_ck x1 60 (
    gs_ck x1 60 (
    gs_ck x1 60 (
    some (gs_sa (gs_sa (gs_sa (gs_sa q1.2 9 x1 (vp_nar .boolean (1 : Int32))) 10 x1 x2) 11 x1 x3) 12 x1 (vp_nar .boolean x4))))))
  else
    some q1.2
def mM_jump_j32 (G : gs_T) (x1 x2 x3 x4 s0 : Int32) : Option gs_T :=
  mM_jump_j37 G x1 x2 x3 x4 s0 (1 : Int32)
def mM_jump_j14 (G : gs_T) (x1 x2 x3 x4 s0 : Int32) : Option gs_T :=
  if x2 < 0 then
    mM_jump_j32 G x1 x2 x3 x4 s0
  else
    if (1 : Int32) < x2 then
      mM_jump_j32 G x1 x2 x3 x4 s0
    else
      if x3 < 0 then
        mM_jump_j32 G x1 x2 x3 x4 s0
      else
        if x3 ≤ (2 : Int32) then
          mM_jump_j37 G x1 x2 x3 x4 s0 (0 : Int32)
        else
          mM_jump_j32 G x1 x2 x3 x4 s0
def mM_jump (G : gs_T) (x1 x2 x3 x4 : Int32) : Option gs_T :=
  (mM_isBar G x1).bind fun q1 =>
  if q1 = 0 then
    mM_jump_j14 G x1 x2 x3 x4 (1 : Int32)
  else
    mM_jump_j14 G x1 x2 x3 x4 (0 : Int32)
def mM_plain_j14 (G : gs_T) (x1 s0 : Int32) : Option gs_T :=
  (mM_isBar G x1).bind fun q1 =>
  if q1 = 0 then
    (mM_refuses G s0 (0 : Int32) (0 : Int32)).bind fun q2 =>
    if q2.1 = 0 then
      gs_ck x1 60 (
      some (gs_sa q2.2 9 x1 (vp_nar .boolean (0 : Int32))))
    else
      some q2.2
  else
    gs_ck x1 60 (
    if (gs_a G 9 x1) = 0 then
      (mM_refuses G s0 (1 : Int32) (0 : Int32)).bind fun q4 =>
      if q4.1 = 0 then
        gs_ck x1 60 (
        some (gs_sa q4.2 9 x1 (vp_nar .boolean (0 : Int32))))
      else
        some q4.2
    else
      (mM_refuses G s0 (0 : Int32) (0 : Int32)).bind fun q3 =>
      if q3.1 = 0 then
        gs_ck x1 60 (
        some (gs_sa q3.2 9 x1 (vp_nar .boolean (0 : Int32))))
      else
        some q3.2)
def mM_plain (G : gs_T) (x1 : Int32) : Option gs_T :=
  (mM_isBar G x1).bind fun q1 =>
  if q1 = 0 then
    mM_plain_j14 G x1 (1 : Int32)
  else
    mM_plain_j14 G x1 (0 : Int32)
def mM_missing_j44 (G : gs_T) (x1 : Int32) : Option Int32 :=
  gs_ck x1 60 (
  if (gs_a G 11 x1) = (2 : Int32) then
    gs_ck (2 : Int32) 4 (
    if (gs_a G 8 (2 : Int32)) = (-1 : Int32) then
      some (3 : Int32)
    else
      gs_ck (1 : Int32) 4 (
      if (gs_a G 8 (1 : Int32)) = (-1 : Int32) then
        some (3 : Int32)
      else
        some (0 : Int32)))
  else
    some (0 : Int32))
def mM_missing_j22 (G : gs_T) (x1 : Int32) : Option Int32 :=
  gs_ck x1 60 (
  if (gs_a G 11 x1) = (1 : Int32) then
    gs_ck (3 : Int32) 4 (
    if (gs_a G 8 (3 : Int32)) = (-1 : Int32) then
      some (2 : Int32)
    else
      mM_missing_j44 G x1)
  else
    mM_missing_j44 G x1)
def mM_missing (G : gs_T) (x1 : Int32) : Option Int32 :=
  gs_ck x1 60 (
  if (gs_a G 10 x1) = (1 : Int32) then
    gs_ck (0 : Int32) 4 (
    if (gs_a G 8 (0 : Int32)) = (-1 : Int32) then
      some (1 : Int32)
    else
      mM_missing_j22 G x1)
  else
    mM_missing_j22 G x1)
def mM_leaveAll_2 (n : Nat) : Nat → Int32 → gs_T → Option gs_T
  | 0, _, _ => none
  | k + 1, x1, G =>
    if (20 : Int32) ≤ x1 then
      some G
    else
      gs_ck x1 20 (
      mM_leaveAll_2 n k (x1 + (1 : Int32)) (gs_sa G 18 x1 (0 : Int32)))
def mM_leaveAll (n : Nat) (G : gs_T) : Option gs_T :=
  mM_leaveAll_2 n n (0 : Int32) G
def mM_forget_32 (n : Nat) : Nat → Int32 → gs_T → Option gs_T
  | 0, _, _ => none
  | k + 1, x1, G =>
    if (60 : Int32) ≤ x1 then
      (mM_leaveAll n G).bind fun q1 =>
      some q1
    else
      gs_ck x1 60 (
      gs_ck x1 60 (
      mM_forget_32 n k (x1 + (1 : Int32)) (gs_sa (gs_sa G 17 x1 (0 : Int32)) 19 x1 (vp_nar .boolean (0 : Int32)))))
def mM_forget (n : Nat) (G : gs_T) : Option gs_T :=
  mM_forget_32 n n (0 : Int32) (gs_sv (gs_sv (gs_sv (gs_sv (gs_sv (gs_sv G 4 (-1 : Int32)) 5 (0 : Int32)) 6 (0 : Int32)) 7 (-1 : Int32)) 8 (0 : Int32)) 10 (0 : Int32))
def mM_leaveWithin_3 (n : Nat) (x1 x2 x3 : Int32) : Nat → Int32 → gs_T → Option gs_T
  | 0, _, _ => none
  | k + 1, x4, G =>
    if (G.1 2) ≤ x4 then
      some G
    else
      if x4 = x3 then
        mM_leaveWithin_3 n x1 x2 x3 k (x4 + (1 : Int32)) G
      else
        gs_ck x4 20 (
        gs_ck x4 20 (
        (mM_isWithin G (gs_a G 1 x4) (gs_a G 2 x4) x1 x2).bind fun q1 =>
        if q1 = 0 then
          mM_leaveWithin_3 n x1 x2 x3 k (x4 + (1 : Int32)) G
        else
          gs_ck x4 20 (
          mM_leaveWithin_3 n x1 x2 x3 k (x4 + (1 : Int32)) (gs_sa G 18 x4 (0 : Int32)))))
def mM_leaveWithin (n : Nat) (G : gs_T) (x1 x2 x3 : Int32) : Option gs_T :=
  mM_leaveWithin_3 n x1 x2 x3 n (0 : Int32) G
def mM_theEnd_10 (n : Nat) (x1 x2 : Int32) (K : gs_T → Option gs_T) : Nat → Int32 → gs_T → Option gs_T
  | 0, _, _ => none
  | k + 1, x3, G =>
    if (G.1 2) ≤ x3 then
      K G
    else
      gs_ck x3 20 (
      if (gs_a G 18 x3) ≤ 0 then
        mM_theEnd_10 n x1 x2 K k (x3 + (1 : Int32)) G
      else
        gs_ck x3 20 (
        if (gs_a G 2 x3) = x1 then
          gs_ck x3 20 (
          gs_ck x3 20 (
          if ((gs_a G 2 x3) - (gs_a G 1 x3)) = x2 then
            gs_ck x3 20 (
            gs_ck x3 20 (
            if (gs_a G 3 x3) ≤ (gs_a G 18 x3) then
              gs_ck x3 20 (
              mM_theEnd_10 n x1 x2 K k (x3 + (1 : Int32)) (gs_sa G 18 x3 (0 : Int32)))
            else
              gs_ck x3 20 (
              gs_ck x3 20 (
              gs_ck x3 20 (
              gs_ck x3 20 (
              (mM_leaveWithin n (gs_sa G 18 x3 ((gs_a G 18 x3) + (1 : Int32))) (gs_a G 1 x3) (gs_a G 2 x3) x3).bind fun q1 =>
              gs_ck x3 20 (
              some (gs_sv q1 9 (gs_a q1 1 x3)))))))))
          else
            mM_theEnd_10 n x1 x2 K k (x3 + (1 : Int32)) G))
        else
          mM_theEnd_10 n x1 x2 K k (x3 + (1 : Int32)) G))
def mM_theEnd_2 (n : Nat) (x1 : Int32) : Nat → Int32 → gs_T → Option gs_T
  | 0, _, _ => none
  | k + 1, x2, G =>
    if (60 : Int32) ≤ x2 then
      if (G.1 1) ≤ (x1 + (1 : Int32)) then
        some (gs_sv G 9 (-1 : Int32))
      else
        some (gs_sv G 9 (x1 + (1 : Int32)))
    else
      mM_theEnd_10 n x1 x2 (fun G0 =>
        mM_theEnd_2 n x1 k (x2 + (1 : Int32)) G0) n (0 : Int32) G
def mM_theEnd (n : Nat) (G : gs_T) (x1 : Int32) : Option gs_T :=
  mM_theEnd_2 n x1 n (0 : Int32) G
def mM_aroundIt_5 (n : Nat) (G : gs_T) (x1 x2 : Int32) : Nat → Int32 → Int32 → Option Int32
  | 0, _, _ => none
  | k + 1, x3, x4 =>
    if (G.1 2) ≤ x4 then
      some x3
    else
      (mM_isAround G x4 x1).bind fun q1 =>
      if q1 = 0 then
        mM_aroundIt_5 n G x1 x2 k x3 (x4 + (1 : Int32))
      else
        if x3 = (-1 : Int32) then
          mM_aroundIt_5 n G x1 x2 k x4 (x4 + (1 : Int32))
        else
          gs_ck x4 20 (
          gs_ck x4 20 (
          gs_ck x3 20 (
          gs_ck x3 20 (
          if ((gs_a G 2 x3) - (gs_a G 1 x3)) ≤ ((gs_a G 2 x4) - (gs_a G 1 x4)) then
            if x2 = (0 : Int32) then
              mM_aroundIt_5 n G x1 x2 k x4 (x4 + (1 : Int32))
            else
              mM_aroundIt_5 n G x1 x2 k x3 (x4 + (1 : Int32))
          else
            if x2 = (1 : Int32) then
              mM_aroundIt_5 n G x1 x2 k x4 (x4 + (1 : Int32))
            else
              mM_aroundIt_5 n G x1 x2 k x3 (x4 + (1 : Int32))))))
def mM_aroundIt (n : Nat) (G : gs_T) (x1 x2 : Int32) : Option Int32 :=
  mM_aroundIt_5 n G x1 x2 n (-1 : Int32) (0 : Int32)
def mM_play_101 (n : Nat) (G : gs_T) (x1 : Int32) (K : Int32 → Option gs_T) : Nat → Int32 → Int32 → Option gs_T
  | 0, _, _ => none
  | k + 1, x4, x5 =>
    if (G.1 2) ≤ x5 then
      K x4
    else
      if x4 = 0 then
        mM_play_101 n G x1 K k (0 : Int32) (x5 + (1 : Int32))
      else
        (mM_isAround G x5 x1).bind fun q1 =>
        if q1 = 0 then
          mM_play_101 n G x1 K k (1 : Int32) (x5 + (1 : Int32))
        else
          gs_ck x5 20 (
          gs_ck x5 20 (
          if (gs_a G 18 x5) = (gs_a G 3 x5) then
            mM_play_101 n G x1 K k (1 : Int32) (x5 + (1 : Int32))
          else
            mM_play_101 n G x1 K k (0 : Int32) (x5 + (1 : Int32))))
def mM_play_j257 (n : Nat) (G : gs_T) (x1 x4 : Int32) : Option gs_T :=
  if x4 = 0 then
    (mM_theEnd n G x1).bind fun q1 =>
    some q1
  else
    gs_ck x1 60 (
    if (gs_a G 9 x1) = 0 then
      (mM_theEnd n G x1).bind fun q2 =>
      some q2
    else
      gs_ck x1 60 (
      if (gs_a G 19 x1) = 0 then
        gs_ck x1 60 (
        (mM_leaveAll n (gs_sv (gs_sv (gs_sv (gs_sa G 19 x1 (vp_nar .boolean (1 : Int32))) 6 ((G.1 6) + (1 : Int32))) 7 x1) 8 (0 : Int32))).bind fun q4 =>
        gs_ck x1 60 (
        if (gs_a q4 10 x1) = (1 : Int32) then
          gs_ck (0 : Int32) 4 (
          some (gs_sv q4 9 (gs_a q4 8 (0 : Int32))))
        else
          some (gs_sv q4 9 (0 : Int32))))
      else
        (mM_theEnd n G x1).bind fun q3 =>
        some q3))
def mM_play_j207 (n : Nat) (G : gs_T) (x1 x4 x5 : Int32) : Option gs_T :=
  if x4 = 0 then
    mM_play_j257 n G x1 x4
  else
    gs_ck (2 : Int32) 4 (
    if (gs_a G 8 (2 : Int32)) = x1 then
      if x5 = (2 : Int32) then
        if (G.1 8) = 0 then
          (mM_leaveAll n (gs_sv G 8 (1 : Int32))).bind fun q1 =>
          gs_ck (1 : Int32) 4 (
          some (gs_sv q1 9 (gs_a q1 8 (1 : Int32))))
        else
          mM_play_j257 n G x1 x4
      else
        mM_play_j257 n G x1 x4
    else
      mM_play_j257 n G x1 x4)
def mM_play_j176 (n : Nat) (G : gs_T) (x1 x4 s0 : Int32) : Option gs_T :=
  if x4 = 0 then
    mM_play_j207 n G x1 x4 s0
  else
    gs_ck (3 : Int32) 4 (
    if (gs_a G 8 (3 : Int32)) = x1 then
      if s0 = (1 : Int32) then
        some (gs_sv G 9 (-1 : Int32))
      else
        mM_play_j207 n G x1 x4 s0
    else
      mM_play_j207 n G x1 x4 s0)
def mM_play_j84 (n : Nat) (G : gs_T) (x1 s0 s1 : Int32) : Option gs_T :=
  gs_ck s0 1000 (
  mM_play_101 n (gs_sv (gs_sa G 16 s0 s1) 5 ((G.1 5) + (1 : Int32))) x1 (fun y4_0 =>
    if (G.1 7) = (-1 : Int32) then
      mM_play_j176 n (gs_sv (gs_sa G 16 s0 s1) 5 ((G.1 5) + (1 : Int32))) x1 y4_0 (0 : Int32)
    else
      gs_ck (G.1 7) 60 (
      mM_play_j176 n (gs_sv (gs_sa G 16 s0 s1) 5 ((G.1 5) + (1 : Int32))) x1 y4_0 (gs_a G 11 (G.1 7)))) n (1 : Int32) (0 : Int32))
def mM_play_j60 (n : Nat) (G : gs_T) (x1 x3 s0 s1 : Int32) : Option gs_T :=
  gs_ck s0 1000 (
  if x3 = (-1 : Int32) then
    mM_play_j84 n (gs_sa G 15 s0 s1) x1 (G.1 5) (0 : Int32)
  else
    gs_ck x3 20 (
    mM_play_j84 n (gs_sa G 15 s0 s1) x1 (G.1 5) (gs_a G 18 x3)))
def mM_play (n : Nat) (G : gs_T) (x1 : Int32) : Option gs_T :=
  (mM_aroundIt n G x1 (1 : Int32)).bind fun q1 =>
  (mM_aroundIt n G x1 (0 : Int32)).bind fun q2 =>
  gs_ck (G.1 5) 1000 (
  gs_ck (G.1 5) 1000 (
  if q1 = (-1 : Int32) then
    mM_play_j60 n (gs_sa (gs_sa G 13 (G.1 5) x1) 14 (G.1 5) (G.1 6)) x1 q2 (G.1 5) (0 : Int32)
  else
    gs_ck q1 20 (
    mM_play_j60 n (gs_sa (gs_sa G 13 (G.1 5) x1) 14 (G.1 5) (G.1 6)) x1 q2 (G.1 5) (gs_a G 18 q1))))
def mM_comeTo_92 (n : Nat) (G : gs_T) (x1 : Int32) (K : Int32 → Option gs_T) : Nat → Int32 → Option gs_T
  | 0, _ => none
  | k + 1, x3 =>
    if (G.1 3) ≤ x3 then
      K x3
    else
      gs_ck x3 20 (
      if (gs_a G 5 x3) = x1 then
        K x3
      else
        mM_comeTo_92 n G x1 K k (x3 + (1 : Int32)))
def mM_comeTo_38 (n : Nat) (x1 x2 : Int32) (K : gs_T → Option gs_T) : Nat → Int32 → gs_T → Option gs_T
  | 0, _, _ => none
  | k + 1, x3, G =>
    if (G.1 2) ≤ x3 then
      K G
    else
      (mM_isAround G x3 x1).bind fun q1 =>
      if q1 = 0 then
        mM_comeTo_38 n x1 x2 K k (x3 + (1 : Int32)) G
      else
        gs_ck x3 20 (
        if (gs_a G 18 x3) = 0 then
          if x2 = 0 then
            gs_ck x3 20 (
            mM_comeTo_38 n x1 x2 K k (x3 + (1 : Int32)) (gs_sa G 18 x3 (1 : Int32)))
          else
            gs_ck x3 20 (
            gs_ck x3 20 (
            mM_comeTo_38 n x1 x2 K k (x3 + (1 : Int32)) (gs_sa G 18 x3 (gs_a G 3 x3))))
        else
          mM_comeTo_38 n x1 x2 K k (x3 + (1 : Int32)) G)
def mM_comeTo_j184 (n : Nat) (G : gs_T) (x1 : Int32) : Option gs_T :=
  if (G.1 5) = (1000 : Int32) then
    some (gs_sv (gs_sv (gs_sv G 10 (1 : Int32)) 4 x1) 9 (-1 : Int32))
  else
    (mM_play n G x1).bind fun q1 =>
    some q1
def mM_comeTo_j116 (n : Nat) (G : gs_T) (x1 x3 : Int32) : Option gs_T :=
  if (G.1 3) ≤ x3 then
    mM_comeTo_j184 n G x1
  else
    gs_ck x3 20 (
    gs_ck x3 20 (
    gs_ck (gs_a G 4 x3) 20 (
    if (((gs_a G 7 x3) >>> (((gs_a G 18 (gs_a G 4 x3)) - (1 : Int32)) &&& 31)) &&& (1 : Int32)) = 0 then
      gs_ck x3 20 (
      gs_ck x3 20 (
      gs_ck x3 20 (
      (mM_leaveWithin n G (gs_a G 5 x3) (gs_a G 6 x3) (gs_a G 4 x3)).bind fun q1 =>
      gs_ck x3 20 (
      (mM_theEnd n q1 (gs_a q1 6 x3)).bind fun q2 =>
      some q2))))
    else
      mM_comeTo_j184 n G x1)))
def mM_comeTo_j35 (n : Nat) (G : gs_T) (x1 s0 : Int32) : Option gs_T :=
  mM_comeTo_38 n x1 s0 (fun G0 =>
    mM_comeTo_92 n G0 x1 (fun y3_1 =>
      mM_comeTo_j116 n G0 x1 y3_1) n (0 : Int32)) n (0 : Int32) G
def mM_comeTo_j34 (n : Nat) (G : gs_T) (x1 : Int32) : Option gs_T :=
  mM_comeTo_j35 n G x1 (0 : Int32)
def mM_comeTo (n : Nat) (G : gs_T) (x1 : Int32) : Option gs_T :=
  gs_ck x1 60 (
  gs_ck x1 60 (
  if (G.1 7) = (-1 : Int32) then
    mM_comeTo_j34 n (gs_sa G 17 x1 ((gs_a G 17 x1) + (1 : Int32))) x1
  else
    gs_ck (G.1 7) 60 (
    if (gs_a G 12 (G.1 7)) = 0 then
      mM_comeTo_j35 n (gs_sa G 17 x1 ((gs_a G 17 x1) + (1 : Int32))) x1 (1 : Int32)
    else
      mM_comeTo_j34 n (gs_sa G 17 x1 ((gs_a G 17 x1) + (1 : Int32))) x1)))
def mM_unfold_71 (n : Nat) (K : gs_T → Option (Int32 × gs_T)) : Nat → gs_T → Option (Int32 × gs_T)
  | 0, _ => none
  | k + 1, G =>
    if (G.1 9) = (-1 : Int32) then
      K G
    else
      (mM_comeTo n G (G.1 9)).bind fun q1 =>
      mM_unfold_71 n K k q1
def mM_unfold_11 (n : Nat) (G : gs_T) (K : Unit → Option (Int32 × gs_T)) : Nat → Int32 → Option (Int32 × gs_T)
  | 0, _ => none
  | k + 1, x1 =>
    if (G.1 1) ≤ x1 then
      K ()
    else
      gs_ck x1 60 (
      if (gs_a G 9 x1) = 0 then
        mM_unfold_11 n G K k (x1 + (1 : Int32))
      else
        (mM_missing G x1).bind fun q1 =>
        if q1 ≤ 0 then
          mM_unfold_11 n G K k (x1 + (1 : Int32))
        else
          (mM_missing (gs_sv G 4 x1) x1).bind fun q2 =>
          some (((-1 : Int32) - q2), (gs_sv G 4 x1)))
def mM_unfold_j68 (n : Nat) (G : gs_T) (s0 : Int32) : Option (Int32 × gs_T) :=
  mM_unfold_71 n (fun G0 =>
    if (G0.1 10) = 0 then
      some ((G0.1 5), G0)
    else
      (mM_forget n G0).bind fun q2 =>
      some ((-5 : Int32), (gs_sv q2 4 (G0.1 4)))) n (gs_sv G 9 s0)
def mM_unfold (n : Nat) (G : gs_T) : Option (Int32 × gs_T) :=
  (mM_forget n (gs_sv G 0 (0 : Int32))).bind fun q1 =>
  mM_unfold_11 n q1 (fun _ =>
    if (q1.1 1) ≤ 0 then
      mM_unfold_j68 n q1 (-1 : Int32)
    else
      mM_unfold_j68 n q1 (0 : Int32)) n (0 : Int32)
def mM_fault (G : gs_T) : Option (Int32 × gs_T) :=
  some ((G.1 4), (gs_sv G 0 (0 : Int32)))
def mM_played_j32 (G : gs_T) (x1 x2 s0 s1 : Int32) : Option (Int32 × gs_T) :=
  (mM_refuses G s0 s1 (0 : Int32)).bind fun q1 =>
  if q1.1 = 0 then
    if x2 = 0 then
      gs_ck x1 1000 (
      some ((gs_a q1.2 13 x1), q1.2))
    else
      if x2 = (1 : Int32) then
        gs_ck x1 1000 (
        gs_ck (gs_a q1.2 13 x1) 60 (
        some ((gs_a q1.2 0 (gs_a q1.2 13 x1)), q1.2)))
      else
        if x2 = (2 : Int32) then
          gs_ck x1 1000 (
          some ((gs_a q1.2 14 x1), q1.2))
        else
          if x2 = (3 : Int32) then
            gs_ck x1 1000 (
            some ((gs_a q1.2 15 x1), q1.2))
          else
            gs_ck x1 1000 (
            some ((gs_a q1.2 16 x1), q1.2))
  else
    some ((0 : Int32), q1.2)
def mM_played_j27 (G : gs_T) (x1 x2 s0 : Int32) : Option (Int32 × gs_T) :=
  mM_played_j32 G x1 x2 s0 (1 : Int32)
def mM_played_j18 (G : gs_T) (x1 x2 s0 : Int32) : Option (Int32 × gs_T) :=
  if x2 < 0 then
    mM_played_j27 G x1 x2 s0
  else
    if x2 ≤ (4 : Int32) then
      mM_played_j32 G x1 x2 s0 (0 : Int32)
    else
      mM_played_j27 G x1 x2 s0
def mM_played_j13 (G : gs_T) (x1 x2 : Int32) : Option (Int32 × gs_T) :=
  mM_played_j18 G x1 x2 (1 : Int32)
def mM_played (G : gs_T) (x1 x2 : Int32) : Option (Int32 × gs_T) :=
  if x1 < 0 then
    mM_played_j13 G x1 x2
  else
    if x1 < (G.1 5) then
      mM_played_j18 G x1 x2 (0 : Int32)
    else
      mM_played_j13 G x1 x2
def mM_times_28 (n : Nat) (G : gs_T) (x1 : Int32) : Nat → Int32 → Int32 → Option (Int32 × gs_T)
  | 0, _, _ => none
  | k + 1, x2, x3 =>
    if (G.1 5) ≤ x3 then
      some (x2, G)
    else
      gs_ck x3 1000 (
      if (gs_a G 13 x3) = x1 then
        mM_times_28 n G x1 k (x2 + (1 : Int32)) (x3 + (1 : Int32))
      else
        mM_times_28 n G x1 k (x2 + (0 : Int32)) (x3 + (1 : Int32)))
def mM_times_j14 (n : Nat) (G : gs_T) (x1 s0 : Int32) : Option (Int32 × gs_T) :=
  (mM_refuses G s0 (0 : Int32) (0 : Int32)).bind fun q1 =>
  if q1.1 = 0 then
    mM_times_28 n q1.2 x1 n (0 : Int32) (0 : Int32)
  else
    some ((0 : Int32), q1.2)
def mM_times (n : Nat) (G : gs_T) (x1 : Int32) : Option (Int32 × gs_T) :=
  (mM_isBar G x1).bind fun q1 =>
  if q1 = 0 then
    mM_times_j14 n G x1 (1 : Int32)
  else
    mM_times_j14 n G x1 (0 : Int32)
def mM_comes (G : gs_T) (x1 : Int32) : Option (Int32 × gs_T) :=
  (mM_isBar G x1).bind fun q1 =>
  if q1 = 0 then
    (mM_refuses G (1 : Int32) (0 : Int32) (0 : Int32)).bind fun q3 =>
    if q3.1 = 0 then
      gs_ck x1 60 (
      some ((gs_a q3.2 17 x1), q3.2))
    else
      some ((0 : Int32), q3.2)
  else
    (mM_refuses G (0 : Int32) (0 : Int32) (0 : Int32)).bind fun q2 =>
    if q2.1 = 0 then
      gs_ck x1 60 (
      some ((gs_a q2.2 17 x1), q2.2))
    else
      some ((0 : Int32), q2.2)
def mM_isAgain_16 (n : Nat) (G : gs_T) (x1 x2 x3 : Int32) : Nat → Int32 → Int32 → Option Int32
  | 0, _, _ => none
  | k + 1, x4, x5 =>
    if x2 ≤ x5 then
      gs_bz x4 (some x4)
    else
      if x4 = 0 then
        gs_bz x4 (some x4)
      else
        gs_ck (x1 + x5) 40 (
        gs_ck ((x1 + x5) - x3) 40 (
        if (gs_a G 20 (x1 + x5)) = (gs_a G 20 ((x1 + x5) - x3)) then
          mM_isAgain_16 n G x1 x2 x3 k (1 : Int32) (x5 + (1 : Int32))
        else
          mM_isAgain_16 n G x1 x2 x3 k (0 : Int32) (x5 + (1 : Int32))))
def mM_isAgain_j11 (n : Nat) (G : gs_T) (x1 x2 x3 s0 : Int32) : Option Int32 :=
  mM_isAgain_16 n G x1 x2 x3 n s0 x3
def mM_isAgain (n : Nat) (G : gs_T) (x1 x2 x3 : Int32) : Option Int32 :=
  gs_nz x3 (
  if (x2 - x2 / x3 * x3) = 0 then
    mM_isAgain_j11 n G x1 x2 x3 (1 : Int32)
  else
    mM_isAgain_j11 n G x1 x2 x3 (0 : Int32))
def mM_findWay_42 (n : Nat) (x1 x2 x3 : Int32) (K : gs_T → Option gs_T) : Nat → Int32 → gs_T → Option gs_T
  | 0, _, _ => none
  | k + 1, x4, G =>
    if x2 < ((2 : Int32) * x4) then
      K G
    else
      (mM_isAgain n G x1 x2 x4).bind fun q1 =>
      if q1 = 0 then
        mM_findWay_42 n x1 x2 x3 K k (x4 + (1 : Int32)) G
      else
        gs_ck (((41 : Int32) * x1) + x4) 1640 (
        gs_ck x3 1640 (
        if (gs_a G 21 x3) ≤ (gs_a G 21 (((41 : Int32) * x1) + x4)) then
          mM_findWay_42 n x1 x2 x3 K k (x4 + (1 : Int32)) G
        else
          gs_ck (((41 : Int32) * x1) + x4) 1640 (
          gs_ck x3 1640 (
          gs_ck x3 1640 (
          mM_findWay_42 n x1 x2 x3 K k (x4 + (1 : Int32)) (gs_sa (gs_sa G 21 x3 (gs_a G 21 (((41 : Int32) * x1) + x4))) 22 x3 x4))))))
def mM_findWay_117 (n : Nat) (x1 x2 x3 : Int32) : Nat → Int32 → gs_T → Option gs_T
  | 0, _, _ => none
  | k + 1, x4, G =>
    if x2 ≤ x4 then
      some G
    else
      gs_ck (((41 : Int32) * x1) + x4) 1640 (
      gs_ck ((((41 : Int32) * (x1 + x4)) + x2) - x4) 1640 (
      gs_ck x3 1640 (
      if (gs_a G 21 x3) ≤ ((gs_a G 21 (((41 : Int32) * x1) + x4)) + (gs_a G 21 ((((41 : Int32) * (x1 + x4)) + x2) - x4))) then
        mM_findWay_117 n x1 x2 x3 k (x4 + (1 : Int32)) G
      else
        gs_ck x3 1640 (
        gs_ck x3 1640 (
        gs_ck x3 1640 (
        mM_findWay_117 n x1 x2 x3 k (x4 + (1 : Int32)) (gs_sa (gs_sa (gs_sa G 21 x3 ((gs_a G 21 (((41 : Int32) * x1) + x4)) + (gs_a G 21 ((((41 : Int32) * (x1 + x4)) + x2) - x4)))) 22 x3 (0 : Int32)) 23 x3 x4)))))))
def mM_findWay_j24 (n : Nat) (G : gs_T) (x1 x2 x3 s0 s1 : Int32) : Option gs_T :=
  gs_ck s0 1640 (
  gs_ck x3 1640 (
  gs_ck x3 1640 (
  mM_findWay_42 n x1 x2 x3 (fun G0 =>
    mM_findWay_117 n x1 x2 x3 n (1 : Int32) G0) n (1 : Int32) (gs_sa (gs_sa (gs_sa G 21 s0 s1) 22 x3 (0 : Int32)) 23 x3 (0 : Int32)))))
def mM_findWay (n : Nat) (G : gs_T) (x1 x2 : Int32) : Option gs_T :=
  if x2 = (1 : Int32) then
    mM_findWay_j24 n G x1 x2 (((41 : Int32) * x1) + x2) (((41 : Int32) * x1) + x2) (1 : Int32)
  else
    mM_findWay_j24 n G x1 x2 (((41 : Int32) * x1) + x2) (((41 : Int32) * x1) + x2) (1000 : Int32)
def mM_item (G : gs_T) (x1 x2 : Int32) : Option gs_T :=
  gs_ck (G.1 11) 200 (
  gs_ck (G.1 11) 200 (
  some (gs_sv (gs_sa (gs_sa G 24 (G.1 11) x1) 25 (G.1 11) x2) 11 ((G.1 11) + (1 : Int32)))))
def mM_write_16 (n : Nat) : Nat → Int32 → gs_T → Option gs_T
  | 0, _, _ => none
  | k + 1, x2, G =>
    if x2 ≤ 0 then
      some G
    else
      gs_ck (x2 + (-1 : Int32)) 200 (
      gs_ck (x2 + (-1 : Int32)) 200 (
      if (gs_a G 27 (x2 + (-1 : Int32))) = 0 then
        (mM_item G (2 : Int32) (0 : Int32)).bind fun q3 =>
        mM_write_16 n k (x2 + (-1 : Int32)) q3
      else
        if (gs_a G 27 (x2 + (-1 : Int32))) = (1 : Int32) then
          gs_ck (gs_a G 26 (x2 + (-1 : Int32))) 40 (
          (mM_item G (0 : Int32) (gs_a G 20 (gs_a G 26 (x2 + (-1 : Int32))))).bind fun q2 =>
          mM_write_16 n k (x2 + (-1 : Int32)) (gs_sv q2 12 ((q2.1 12) + (1 : Int32))))
        else
          gs_ck (((41 : Int32) * (gs_a G 26 (x2 + (-1 : Int32)))) + (gs_a G 27 (x2 + (-1 : Int32)))) 1640 (
          if (gs_a G 22 (((41 : Int32) * (gs_a G 26 (x2 + (-1 : Int32)))) + (gs_a G 27 (x2 + (-1 : Int32))))) ≤ 0 then
            gs_ck (((41 : Int32) * (gs_a G 26 (x2 + (-1 : Int32)))) + (gs_a G 27 (x2 + (-1 : Int32)))) 1640 (
            gs_ck (x2 + (-1 : Int32)) 200 (
            gs_ck (((41 : Int32) * (gs_a G 26 (x2 + (-1 : Int32)))) + (gs_a G 27 (x2 + (-1 : Int32)))) 1640 (
            gs_ck (x2 + (-1 : Int32)) 200 (
            gs_ck ((x2 + (-1 : Int32)) + (1 : Int32)) 200 (
            gs_ck (((41 : Int32) * (gs_a G 26 (x2 + (-1 : Int32)))) + (gs_a G 27 (x2 + (-1 : Int32)))) 1640 (
            gs_ck ((x2 + (-1 : Int32)) + (1 : Int32)) 200 (
            mM_write_16 n k ((x2 + (-1 : Int32)) + (2 : Int32)) (gs_sa (gs_sa (gs_sa (gs_sa G 26 (x2 + (-1 : Int32)) ((gs_a G 26 (x2 + (-1 : Int32))) + (gs_a G 23 (((41 : Int32) * (gs_a G 26 (x2 + (-1 : Int32)))) + (gs_a G 27 (x2 + (-1 : Int32))))))) 27 (x2 + (-1 : Int32)) ((gs_a G 27 (x2 + (-1 : Int32))) - (gs_a G 23 (((41 : Int32) * (gs_a G 26 (x2 + (-1 : Int32)))) + (gs_a G 27 (x2 + (-1 : Int32))))))) 26 ((x2 + (-1 : Int32)) + (1 : Int32)) (gs_a G 26 (x2 + (-1 : Int32)))) 27 ((x2 + (-1 : Int32)) + (1 : Int32)) (gs_a G 23 (((41 : Int32) * (gs_a G 26 (x2 + (-1 : Int32)))) + (gs_a G 27 (x2 + (-1 : Int32)))))))))))))
          else
            gs_ck (((41 : Int32) * (gs_a G 26 (x2 + (-1 : Int32)))) + (gs_a G 27 (x2 + (-1 : Int32)))) 1640 (
            gs_nz (gs_a G 22 (((41 : Int32) * (gs_a G 26 (x2 + (-1 : Int32)))) + (gs_a G 27 (x2 + (-1 : Int32))))) (
            (mM_item G (1 : Int32) ((gs_a G 27 (x2 + (-1 : Int32))) / (gs_a G 22 (((41 : Int32) * (gs_a G 26 (x2 + (-1 : Int32)))) + (gs_a G 27 (x2 + (-1 : Int32))))))).bind fun q1 =>
            gs_ck (x2 + (-1 : Int32)) 200 (
            gs_ck (x2 + (-1 : Int32)) 200 (
            gs_ck ((x2 + (-1 : Int32)) + (1 : Int32)) 200 (
            gs_ck (((41 : Int32) * (gs_a G 26 (x2 + (-1 : Int32)))) + (gs_a G 27 (x2 + (-1 : Int32)))) 1640 (
            gs_ck ((x2 + (-1 : Int32)) + (1 : Int32)) 200 (
            mM_write_16 n k ((x2 + (-1 : Int32)) + (2 : Int32)) (gs_sa (gs_sa (gs_sa (gs_sa q1 26 (x2 + (-1 : Int32)) (gs_a G 26 (x2 + (-1 : Int32)))) 27 (x2 + (-1 : Int32)) (0 : Int32)) 26 ((x2 + (-1 : Int32)) + (1 : Int32)) (gs_a G 26 (x2 + (-1 : Int32)))) 27 ((x2 + (-1 : Int32)) + (1 : Int32)) (gs_a q1 22 (((41 : Int32) * (gs_a G 26 (x2 + (-1 : Int32)))) + (gs_a G 27 (x2 + (-1 : Int32))))))))))))))))
def mM_write (n : Nat) (G : gs_T) (x1 : Int32) : Option gs_T :=
  gs_ck (0 : Int32) 200 (
  gs_ck (0 : Int32) 200 (
  mM_write_16 n n (1 : Int32) (gs_sa (gs_sa G 26 (0 : Int32) (0 : Int32)) 27 (0 : Int32) x1)))
def mM_fold_107 (n : Nat) (x2 x4 : Int32) (K : gs_T → Option (Int32 × gs_T)) : Nat → Int32 → gs_T → Option (Int32 × gs_T)
  | 0, _, _ => none
  | k + 1, x5, G =>
    if x2 < (x5 + x4) then
      K G
    else
      (mM_findWay n G x5 x4).bind fun q1 =>
      mM_fold_107 n x2 x4 K k (x5 + (1 : Int32)) q1
def mM_fold_62 (n : Nat) (x1 x2 : Int32) (K : gs_T → Option (Int32 × gs_T)) : Nat → Int32 → gs_T → Option (Int32 × gs_T)
  | 0, _, _ => none
  | k + 1, x4, G =>
    if x2 ≤ x4 then
      K G
    else
      gs_ck (x1 + x4) 1000 (
      gs_ck (gs_a G 13 (x1 + x4)) 60 (
      gs_ck x4 40 (
      mM_fold_62 n x1 x2 K k (x4 + (1 : Int32)) (gs_sa G 20 x4 (gs_a G 0 (gs_a G 13 (x1 + x4)))))))
def mM_fold_98 (n : Nat) (x2 : Int32) : Nat → Int32 → gs_T → Option (Int32 × gs_T)
  | 0, _, _ => none
  | k + 1, x4, G =>
    if x2 < x4 then
      (mM_write n (gs_sv (gs_sv G 11 (0 : Int32)) 12 (0 : Int32)) x2).bind fun q1 =>
      some ((q1.1 12), q1)
    else
      mM_fold_107 n x2 x4 (fun G1 =>
        mM_fold_98 n x2 k (x4 + (1 : Int32)) G1) n (0 : Int32) G
def mM_fold_j50 (n : Nat) (G : gs_T) (x1 x2 s0 s1 : Int32) : Option (Int32 × gs_T) :=
  (mM_refuses G s0 s1 (0 : Int32)).bind fun q1 =>
  if q1.1 = 0 then
    mM_fold_62 n x1 x2 (fun G1 =>
      mM_fold_98 n x2 n (1 : Int32) G1) n (0 : Int32) q1.2
  else
    some ((0 : Int32), q1.2)
def mM_fold_j49 (n : Nat) (G : gs_T) (x1 x2 s0 : Int32) : Option (Int32 × gs_T) :=
  mM_fold_j50 n G x1 x2 s0 (0 : Int32)
def mM_fold_j45 (n : Nat) (G : gs_T) (x1 x2 s0 : Int32) : Option (Int32 × gs_T) :=
  mM_fold_j50 n G x1 x2 s0 (1 : Int32)
def mM_fold_j27 (n : Nat) (G : gs_T) (x1 x2 x3 s0 : Int32) : Option (Int32 × gs_T) :=
  if x3 = 0 then
    mM_fold_j49 n G x1 x2 s0
  else
    if x1 < 0 then
      mM_fold_j45 n G x1 x2 s0
    else
      if x1 ≤ ((G.1 5) - x2) then
        mM_fold_j49 n G x1 x2 s0
      else
        mM_fold_j45 n G x1 x2 s0
def mM_fold_j16 (n : Nat) (G : gs_T) (x1 x2 s0 : Int32) : Option (Int32 × gs_T) :=
  if s0 = 0 then
    mM_fold_j27 n G x1 x2 s0 (1 : Int32)
  else
    mM_fold_j27 n G x1 x2 s0 (0 : Int32)
def mM_fold_j15 (n : Nat) (G : gs_T) (x1 x2 : Int32) : Option (Int32 × gs_T) :=
  mM_fold_j16 n G x1 x2 (0 : Int32)
def mM_fold (n : Nat) (G : gs_T) (x1 x2 : Int32) : Option (Int32 × gs_T) :=
  if x2 < (1 : Int32) then
    mM_fold_j15 n G x1 x2
  else
    if (40 : Int32) < x2 then
      mM_fold_j15 n G x1 x2
    else
      mM_fold_j16 n G x1 x2 (1 : Int32)
def mM_folded_j32 (G : gs_T) (x1 x2 s0 s1 : Int32) : Option (Int32 × gs_T) :=
  (mM_refuses G s0 s1 (0 : Int32)).bind fun q1 =>
  if q1.1 = 0 then
    if x2 = 0 then
      gs_ck x1 200 (
      some ((gs_a q1.2 24 x1), q1.2))
    else
      gs_ck x1 200 (
      some ((gs_a q1.2 25 x1), q1.2))
  else
    some ((0 : Int32), q1.2)
def mM_folded_j27 (G : gs_T) (x1 x2 s0 : Int32) : Option (Int32 × gs_T) :=
  mM_folded_j32 G x1 x2 s0 (1 : Int32)
def mM_folded_j18 (G : gs_T) (x1 x2 s0 : Int32) : Option (Int32 × gs_T) :=
  if x2 < 0 then
    mM_folded_j27 G x1 x2 s0
  else
    if x2 ≤ (1 : Int32) then
      mM_folded_j32 G x1 x2 s0 (0 : Int32)
    else
      mM_folded_j27 G x1 x2 s0
def mM_folded_j13 (G : gs_T) (x1 x2 : Int32) : Option (Int32 × gs_T) :=
  mM_folded_j18 G x1 x2 (1 : Int32)
def mM_folded (G : gs_T) (x1 x2 : Int32) : Option (Int32 × gs_T) :=
  if x1 < 0 then
    mM_folded_j13 G x1 x2
  else
    if x1 < (G.1 11) then
      mM_folded_j18 G x1 x2 (0 : Int32)
    else
      mM_folded_j13 G x1 x2
def mM_told_30 (n : Nat) (G : gs_T) (x1 : Int32) (K : Int32 → Option (Int32 × gs_T)) : Nat → Int32 → Int32 → Option (Int32 × gs_T)
  | 0, _, _ => none
  | k + 1, x2, x3 =>
    if (G.1 1) ≤ x3 then
      K x2
    else
      gs_ck x3 60 (
      if (gs_a G 9 x3) = 0 then
        mM_told_30 n G x1 K k (x2 + (0 : Int32)) (x3 + (1 : Int32))
      else
        mM_told_30 n G x1 K k (x2 + (1 : Int32)) (x3 + (1 : Int32)))
def mM_told_j16 (n : Nat) (G : gs_T) (x1 s0 : Int32) : Option (Int32 × gs_T) :=
  (mM_refuses G s0 (0 : Int32) (0 : Int32)).bind fun q1 =>
  if q1.1 = 0 then
    mM_told_30 n q1.2 x1 (fun y2_1 =>
      if x1 = 0 then
        some ((q1.2.1 1), q1.2)
      else
        if x1 = (1 : Int32) then
          some ((q1.2.1 2), q1.2)
        else
          if x1 = (2 : Int32) then
            some ((q1.2.1 3), q1.2)
          else
            if x1 = (3 : Int32) then
              some (y2_1, q1.2)
            else
              if x1 = (4 : Int32) then
                some ((q1.2.1 5), q1.2)
              else
                if x1 = (5 : Int32) then
                  some ((q1.2.1 6), q1.2)
                else
                  if x1 = (6 : Int32) then
                    some ((q1.2.1 11), q1.2)
                  else
                    some ((q1.2.1 12), q1.2)) n (0 : Int32) (0 : Int32)
  else
    some ((0 : Int32), q1.2)
def mM_told_j11 (n : Nat) (G : gs_T) (x1 : Int32) : Option (Int32 × gs_T) :=
  mM_told_j16 n G x1 (1 : Int32)
def mM_told (n : Nat) (G : gs_T) (x1 : Int32) : Option (Int32 × gs_T) :=
  if x1 < 0 then
    mM_told_j11 n G x1
  else
    if x1 ≤ (7 : Int32) then
      mM_told_j16 n G x1 (0 : Int32)
    else
      mM_told_j11 n G x1
end
section
/-! ===== java.util.Arrays.fill(int[], int) ===== -/
theorem dn_XA_fill_0 : decode cn_XA_fill 0 = .ok (.iconst 0, 1) := by decide +kernel
theorem dn_XA_fill_1 : decode cn_XA_fill 1 = .ok (.istore_n 2, 1) := by decide +kernel
theorem dn_XA_fill_2 : decode cn_XA_fill 2 = .ok (.aload_n 0, 1) := by decide +kernel
theorem dn_XA_fill_3 : decode cn_XA_fill 3 = .ok (.arraylength, 1) := by decide +kernel
theorem dn_XA_fill_4 : decode cn_XA_fill 4 = .ok (.istore_n 3, 1) := by decide +kernel
theorem dn_XA_fill_5 : decode cn_XA_fill 5 = .ok (.iload_n 2, 1) := by decide +kernel
theorem dn_XA_fill_6 : decode cn_XA_fill 6 = .ok (.iload_n 3, 1) := by decide +kernel
theorem dn_XA_fill_7 : decode cn_XA_fill 7 = .ok (.if_icmp .ge 13, 3) := by decide +kernel
theorem dn_XA_fill_10 : decode cn_XA_fill 10 = .ok (.aload_n 0, 1) := by decide +kernel
theorem dn_XA_fill_11 : decode cn_XA_fill 11 = .ok (.iload_n 2, 1) := by decide +kernel
theorem dn_XA_fill_12 : decode cn_XA_fill 12 = .ok (.iload_n 1, 1) := by decide +kernel
theorem dn_XA_fill_13 : decode cn_XA_fill 13 = .ok (.iastore, 1) := by decide +kernel
theorem dn_XA_fill_14 : decode cn_XA_fill 14 = .ok (.iinc 2 1, 3) := by decide +kernel
theorem dn_XA_fill_17 : decode cn_XA_fill 17 = .ok (.goto (-12), 3) := by decide +kernel
theorem dn_XA_fill_20 : decode cn_XA_fill 20 = .ok (.return_, 1) := by decide +kernel
def fa_upto (f : Nat → Int32) (v : Int32) (i : Nat) : Nat → Int32 := fun j => if j < i then v else f j
theorem fa_step (f : Nat → Int32) (v : Int32) (i : Nat) : upd (fa_upto f v i) i v = fa_upto f v (i + 1) := by
  funext j
  unfold upd fa_upto
  by_cases h : j = i
  · subst h; simp
  · rw [if_neg h]
    by_cases h2 : j < i
    · rw [if_pos h2, if_pos (by omega)]
    · rw [if_neg h2, if_neg (by omega)]
theorem fa_zero (f : Nat → Int32) (v : Int32) : fa_upto f v 0 = f := by
  funext j
  unfold fa_upto
  rw [if_neg (by omega)]
set_option maxHeartbeats 4000000 in
set_option maxRecDepth 100000 in
theorem zf_loop (F : zf_T) (ws : va_W) (q0 a cA n : Nat) (f : Nat → Int32) (v : Int32) (hq : q0 < ws.length) (ht : F.2.2[0]? = some (cA, .int)) (hn : n < 2 ^ 31) (X : zx_T) (cx : zx F X cn_XA_fill yn_XA_fill.cls { frames := 0, cells := 0, slots := 0, locals := 0 } 4) (cq : zq_v F X (ws.set q0 (a, .inl (cA, n, .inl (fun _ => v))))) :
    ∀ (k i : Nat), i ≤ n → n - i < k → zj F X 0 0 (ws.set q0 (a, .inl (cA, n, .inl (fa_upto f v i)))) 5 [some (.ref a), some (.int v), some (.int (nI i)), some (.int (nI n))] [] := by
  intro k
  induction k with
  | zero => intro i h1 h2; omega
  | succ k ih =>
    intro i h1 h2
    refine zz_iload_n cx dn_XA_fill_5 rfl rfl ?_
    refine zz_iload_n cx dn_XA_fill_6 rfl rfl ?_
    by_cases hi : i < n
    · refine zz_icmp_ge_f cx (tgt := 20) dn_XA_fill_7 (by decide) (nI_ge hi hn) ?_
      refine zz_aload_n cx dn_XA_fill_10 rfl rfl ?_
      refine zz_iload_n cx dn_XA_fill_11 rfl rfl ?_
      refine zz_iload_n cx dn_XA_fill_12 rfl rfl ?_
      refine zz_iast (α := Unit) (t := some ()) (r := ()) cx q0 0 (List.getElem?_set_self hq) ht (by unfold gs_ck; rw [if_neg (nI_in hi hn)]) (ws2 := ws.set q0 (a, .inl (cA, n, .inl (fa_upto f v (i + 1))))) (by rw [List.set_set, nI_clamp (by omega), fa_step]) dn_XA_fill_13 (fun _ => ?_)
      refine zz_iinc cx dn_XA_fill_14 (d := 1) rfl (by decide) (by decide) rfl ?_
      rw [← nI_succ]
      refine zz_goto cx dn_XA_fill_17 (tgt := 5) (by decide) ?_
      exact ih (i + 1) hi (by omega)
    · have hin : i = n := by omega
      subst hin
      refine zz_icmp_ge_t cx (tgt := 20) dn_XA_fill_7 (by decide) (Int32.le_refl _) ?_
      refine zz_arrx (g := fun _ => v) (fun j hj => by unfold fa_upto; rw [if_pos hj]) ?_
      exact zz_vret cx cq (by decide) (by decide) dn_XA_fill_20
set_option maxHeartbeats 4000000 in
set_option maxRecDepth 100000 in
theorem zc_fill (F : zf_T) (ws : va_W) (q0 a cA n : Nat) (f : Nat → Int32) (v : Int32) (ha : ws[q0]? = some (a, .inl (cA, n, .inl f))) (ht : F.2.2[0]? = some (cA, .int)) (hn : n < 2 ^ 31) : zc_v F ws (ws.set q0 (a, .inl (cA, n, .inl (fun _ => v)))) yn_XA_fill cn_XA_fill 4 { frames := 0, cells := 0, slots := 0, locals := 0 } [.ref a, .int v] := by
  refine zc_v_of (by decide) rfl (Nat.le_of_ble_eq_true rfl) (fun X cx cq => ?_)
  refine zz_iconst cx dn_XA_fill_0 (v := nI 0) (by decide) ?_
  refine zz_istore_n cx dn_XA_fill_1 rfl (by decide) rfl ?_
  refine zz_aload_n cx dn_XA_fill_2 rfl rfl ?_
  refine zz_alen cx q0 0 ha ht (v := nI n) rfl dn_XA_fill_3 ?_
  refine zz_istore_n cx dn_XA_fill_4 rfl (by decide) rfl ?_
  have h := zf_loop F ws q0 a cA n f v (List.getElem?_eq_some_iff.mp ha).1 ht hn X cx cq (n + 1) 0 (Nat.zero_le n) (by omega)
  rw [fa_zero, zr_self ha] at h
  exact h
theorem zf_fill {F : zf_T} {X : zx_T} {cc : ByteArray} {own : String} {rm : Room} {cells slots pc ml : Nat} {ws ws2 : va_W} {L : List (Option Value)} {rest : List Value} {a cA n index : Nat} {f : Nat → Int32} {v : Int32} (cx : zx F X cc own rm ml) (q0 : Nat) (ha : ws[q0]? = some (a, .inl (cA, n, .inl f))) (ht : F.2.2[0]? = some (cA, .int)) (hn : n < 2 ^ 31) (hw : ws.set q0 (a, .inl (cA, n, .inl (fun _ => v))) = ws2) (hl : Cond.methodLink own index yn_XA_fill ∈ zt_ws) (hrm : 1 ≤ rm.frames ∧ 23 ≤ rm.locals) (hrest : (rest.map fun v => v.category).sum ≤ 8) (hf : cells ≤ rm.cells ∧ slots ≤ rm.slots) (hd : decode cc pc = .ok (.invokestatic index, 3)) (k : zj F X cells slots ws2 (pc + 3) L rest) : zj F X cells slots ws pc L (.int v :: .ref a :: rest) := by
  subst hw
  exact zz_callSv cx (As := [.ref a, .int v]) (rest := rest) (c2 := cells) (s2 := slots) (zc_fill F ws q0 a cA n f v ha ht hn) zm_XA_fill hl zs_XA_fill ⟨hrm.1, hrm.2⟩ rfl hrest rfl rfl hf (zr_addr0 ha) hd k
end
section
set_option maxHeartbeats 4000000 in
set_option maxRecDepth 100000 in
theorem z_cS_addBar (E : ze_T) (G : gs_T) (x1 : Int32) (r : (Int32 × gs_T)) (h : cS_addBar G x1 = some r) : zc_i (zF E) (wc_c E G) (wc_c E r.2) yn_X1_addBar cn_X1_addBar 2 .int { frames := 0, cells := 0, slots := 0, locals := 0 } [.ref (ad_p E 2), .int x1] r.1 := by
  unfold cS_addBar at h
  refine zc_i_of (by decide) rfl (Nat.le_of_ble_eq_true rfl) (fun X cx cq => ?_)
  refine zz_aload_n cx dn_X1_addBar_0 rfl rfl ?_
  refine zz_get cx zi_X1 (v := .ref (ad_p E 3)) (ci := 1) rfl 2 0 rfl (by decide) zk_X1_9 rfl dn_X1_addBar_1 ?_
  refine zz_aload_n cx dn_X1_addBar_4 rfl rfl ?_
  refine zz_get cx zi_X1 (v := .int (G.1 6)) (ci := 1) rfl 2 15 rfl (by decide) zk_X1_64 rfl dn_X1_addBar_5 ?_
  refine zz_iload_n cx dn_X1_addBar_8 rfl rfl ?_
  refine zz_iast cx 3 0 rfl rfl h (ws2 := (wc_c E (gs_sa G 0 (G.1 6) x1))) rfl dn_X1_addBar_9 (fun h => ?_)
  refine zz_aload_n cx dn_X1_addBar_10 rfl rfl ?_
  refine zz_dup cx dn_X1_addBar_11 rfl ?_
  refine zz_get cx zi_X1 (v := .int (G.1 6)) (ci := 1) rfl 2 15 rfl (by decide) zk_X1_64 rfl dn_X1_addBar_12 ?_
  refine zz_dup_x1 cx dn_X1_addBar_15 rfl rfl ?_
  refine zz_iconst cx dn_X1_addBar_16 (v := (1 : Int32)) (by decide) ?_
  refine zz_iadd cx dn_X1_addBar_17 ?_
  refine zz_put cx (ws2 := (wc_c E (gs_sv (gs_sa G 0 (G.1 6) x1) 6 ((G.1 6) + (1 : Int32))))) (ty := .int) (ci := 1) zi_X1 fk_X1 nm_X1 rfl 2 15 rfl (by decide) zk_X1_64 rfl (by decide +kernel) rfl rfl (Nat.le_of_ble_eq_true rfl) rfl dn_X1_addBar_18 ?_
  cases h
  exact zz_iret cx cq (by decide) (by decide) dn_X1_addBar_21
set_option maxHeartbeats 4000000 in
set_option maxRecDepth 100000 in
theorem z_cS_hasBar (E : ze_T) (G : gs_T) (x1 : Int32) (r : Int32) (h : cS_hasBar G x1 = some r) : zc_i (zF E) (wc_c E G) (wc_c E G) yn_X1_hasBar cn_X1_hasBar 2 .boolean { frames := 0, cells := 0, slots := 0, locals := 0 } [.ref (ad_p E 2), .int x1] r := by
  unfold cS_hasBar at h
  refine zc_i_of (by decide) rfl (Nat.le_of_ble_eq_true rfl) (fun X cx cq => ?_)
  refine zz_iload_n cx dn_X1_hasBar_0 rfl rfl ?_
  refine zz_if_lt cx (tgt := 16) dn_X1_hasBar_1 (by decide) h (fun h => ?_) (fun h => ?_)
  · refine zz_iconst cx dn_X1_hasBar_16 (v := (0 : Int32)) (by decide) ?_
    cases h
    exact zz_zret cx cq rfl (by decide) (by decide) dn_X1_hasBar_17
  · refine zz_iload_n cx dn_X1_hasBar_4 rfl rfl ?_
    refine zz_aload_n cx dn_X1_hasBar_5 rfl rfl ?_
    refine zz_get cx zi_X1 (v := .int (G.1 6)) (ci := 1) rfl 2 15 rfl (by decide) zk_X1_64 rfl dn_X1_hasBar_6 ?_
    refine zz_icmp_ge cx (tgt := 16) dn_X1_hasBar_9 (by decide) h (fun h => ?_) (fun h => ?_)
    · refine zz_iconst cx dn_X1_hasBar_16 (v := (0 : Int32)) (by decide) ?_
      cases h
      exact zz_zret cx cq rfl (by decide) (by decide) dn_X1_hasBar_17
    · refine zz_iconst cx dn_X1_hasBar_12 (v := (1 : Int32)) (by decide) ?_
      refine zz_goto cx dn_X1_hasBar_13 (tgt := 17) (by decide) ?_
      cases h
      exact zz_zret cx cq rfl (by decide) (by decide) dn_X1_hasBar_17
set_option maxHeartbeats 4000000 in
set_option maxRecDepth 100000 in
theorem z_cS_liesWithin (E : ze_T) (G : gs_T) (x0 x1 x2 x3 : Int32) (r : Int32) (h : cS_liesWithin G x0 x1 x2 x3 = some r) : zc_i (zF E) (wc_c E G) (wc_c E G) yn_X1_liesWithin cn_X1_liesWithin 4 .boolean { frames := 0, cells := 0, slots := 0, locals := 0 } [.int x0, .int x1, .int x2, .int x3] r := by
  unfold cS_liesWithin at h
  refine zc_i_of (by decide) rfl (Nat.le_of_ble_eq_true rfl) (fun X cx cq => ?_)
  refine zz_iload_n cx dn_X1_liesWithin_0 rfl rfl ?_
  refine zz_iload_n cx dn_X1_liesWithin_1 rfl rfl ?_
  refine zz_icmp_gt cx (tgt := 14) dn_X1_liesWithin_2 (by decide) h (fun h => ?_) (fun h => ?_)
  · refine zz_iconst cx dn_X1_liesWithin_14 (v := (0 : Int32)) (by decide) ?_
    cases h
    exact zz_zret cx cq rfl (by decide) (by decide) dn_X1_liesWithin_15
  · refine zz_iload_n cx dn_X1_liesWithin_5 rfl rfl ?_
    refine zz_iload_n cx dn_X1_liesWithin_6 rfl rfl ?_
    refine zz_icmp_gt cx (tgt := 14) dn_X1_liesWithin_7 (by decide) h (fun h => ?_) (fun h => ?_)
    · refine zz_iconst cx dn_X1_liesWithin_14 (v := (0 : Int32)) (by decide) ?_
      cases h
      exact zz_zret cx cq rfl (by decide) (by decide) dn_X1_liesWithin_15
    · refine zz_iconst cx dn_X1_liesWithin_10 (v := (1 : Int32)) (by decide) ?_
      refine zz_goto cx dn_X1_liesWithin_11 (tgt := 15) (by decide) ?_
      cases h
      exact zz_zret cx cq rfl (by decide) (by decide) dn_X1_liesWithin_15
set_option maxHeartbeats 4000000 in
set_option maxRecDepth 100000 in
theorem z_cS_liesWell (E : ze_T) (G : gs_T) (x0 x1 x2 x3 : Int32) (r : Int32) (h : cS_liesWell G x0 x1 x2 x3 = some r) : zc_i (zF E) (wc_c E G) (wc_c E G) yn_X1_liesWell cn_X1_liesWell 4 .boolean { frames := 1, cells := 0, slots := 0, locals := 23 } [.int x0, .int x1, .int x2, .int x3] r := by
  unfold cS_liesWell at h
  refine zc_i_of (by decide) rfl (Nat.le_of_ble_eq_true rfl) (fun X cx cq => ?_)
  refine zz_iload_n cx dn_X1_liesWell_0 rfl rfl ?_
  refine zz_iload_n cx dn_X1_liesWell_1 rfl rfl ?_
  refine zz_icmp_lt cx (tgt := 30) dn_X1_liesWell_2 (by decide) h (fun h => ?_) (fun h => ?_)
  · refine zz_iconst cx dn_X1_liesWell_30 (v := (1 : Int32)) (by decide) ?_
    refine zz_goto cx dn_X1_liesWell_31 (tgt := 35) (by decide) ?_
    cases h
    exact zz_zret cx cq rfl (by decide) (by decide) dn_X1_liesWell_35
  · refine zz_iload_n cx dn_X1_liesWell_5 rfl rfl ?_
    refine zz_iload_n cx dn_X1_liesWell_6 rfl rfl ?_
    refine zz_icmp_lt cx (tgt := 30) dn_X1_liesWell_7 (by decide) h (fun h => ?_) (fun h => ?_)
    · refine zz_iconst cx dn_X1_liesWell_30 (v := (1 : Int32)) (by decide) ?_
      refine zz_goto cx dn_X1_liesWell_31 (tgt := 35) (by decide) ?_
      cases h
      exact zz_zret cx cq rfl (by decide) (by decide) dn_X1_liesWell_35
    · refine zz_iload_n cx dn_X1_liesWell_10 rfl rfl ?_
      refine zz_iload_n cx dn_X1_liesWell_11 rfl rfl ?_
      refine zz_iload_n cx dn_X1_liesWell_12 rfl rfl ?_
      refine zz_iload_n cx dn_X1_liesWell_13 rfl rfl ?_
      refine gs_bind h (fun q1 e_q1 h => ?_)
      refine zz_callSi cx (As := [.int x0, .int x1, .int x2, .int x3]) (rest := []) (c2 := 0) (s2 := 0) (z_cS_liesWithin E G x0 x1 x2 x3 _ e_q1) zm_X1_liesWithin zk_X1_71 zs_X1_liesWithin (by decide) rfl (Nat.le_of_ble_eq_true rfl) rfl rfl (by decide) (wc_c_addr E _ _) dn_X1_liesWell_14 ?_
      refine zz_if_ne cx (tgt := 30) dn_X1_liesWell_17 (by decide) h (fun h => ?_) (fun h => ?_)
      · refine zz_iload_n cx dn_X1_liesWell_20 rfl rfl ?_
        refine zz_iload_n cx dn_X1_liesWell_21 rfl rfl ?_
        refine zz_iload_n cx dn_X1_liesWell_22 rfl rfl ?_
        refine zz_iload_n cx dn_X1_liesWell_23 rfl rfl ?_
        refine gs_bind h (fun q2 e_q2 h => ?_)
        refine zz_callSi cx (As := [.int x2, .int x3, .int x0, .int x1]) (rest := []) (c2 := 0) (s2 := 0) (z_cS_liesWithin E G x2 x3 x0 x1 _ e_q2) zm_X1_liesWithin zk_X1_71 zs_X1_liesWithin (by decide) rfl (Nat.le_of_ble_eq_true rfl) rfl rfl (by decide) (wc_c_addr E _ _) dn_X1_liesWell_24 ?_
        refine zz_if_eq cx (tgt := 34) dn_X1_liesWell_27 (by decide) h (fun h => ?_) (fun h => ?_)
        · refine zz_iconst cx dn_X1_liesWell_34 (v := (0 : Int32)) (by decide) ?_
          cases h
          exact zz_zret cx cq rfl (by decide) (by decide) dn_X1_liesWell_35
        · refine zz_iconst cx dn_X1_liesWell_30 (v := (1 : Int32)) (by decide) ?_
          refine zz_goto cx dn_X1_liesWell_31 (tgt := 35) (by decide) ?_
          cases h
          exact zz_zret cx cq rfl (by decide) (by decide) dn_X1_liesWell_35
      · refine zz_iconst cx dn_X1_liesWell_30 (v := (1 : Int32)) (by decide) ?_
        refine zz_goto cx dn_X1_liesWell_31 (tgt := 35) (by decide) ?_
        cases h
        exact zz_zret cx cq rfl (by decide) (by decide) dn_X1_liesWell_35
set_option maxHeartbeats 4000000 in
set_option maxRecDepth 100000 in
theorem z_cS_liesWellByRepeats_2 (E : ze_T) (n : Nat) (G : gs_T) (x1 x2 : Int32) (r : Int32) (X : zx_T) (cx : zx (zF E) X cn_X1_liesWellByRepeats yn_X1_liesWellByRepeats.cls { frames := 2, cells := 0, slots := 0, locals := 46 } 4) (cq : zq_i (zF E) X (wc_c E G) .boolean r) : ∀ (k : Nat) (x3 : Int32), cS_liesWellByRepeats_2 n G x1 x2 k x3 = some r → zj (zF E) X 0 0 (wc_c E G) 2 [some (.ref (ad_p E 2)), some (.int x1), some (.int x2), some (.int x3)] [] := by
  intro k
  induction k with
  | zero => intro x3 h; cases h
  | succ k ih =>
    intro x3 h
    rw [cS_liesWellByRepeats_2] at h
    refine zz_iload_n cx dn_X1_liesWellByRepeats_2 rfl rfl ?_
    refine zz_aload_n cx dn_X1_liesWellByRepeats_3 rfl rfl ?_
    refine zz_get cx zi_X1 (v := .int (G.1 7)) (ci := 1) rfl 2 16 rfl (by decide) zk_X1_68 rfl dn_X1_liesWellByRepeats_4 ?_
    refine zz_icmp_ge cx (tgt := 38) dn_X1_liesWellByRepeats_7 (by decide) h (fun h => ?_) (fun h => ?_)
    · refine zz_iconst cx dn_X1_liesWellByRepeats_38 (v := (1 : Int32)) (by decide) ?_
      cases h
      exact zz_zret cx cq rfl (by decide) (by decide) dn_X1_liesWellByRepeats_39
    · refine zz_iload_n cx dn_X1_liesWellByRepeats_10 rfl rfl ?_
      refine zz_iload_n cx dn_X1_liesWellByRepeats_11 rfl rfl ?_
      refine zz_aload_n cx dn_X1_liesWellByRepeats_12 rfl rfl ?_
      refine zz_get cx zi_X1 (v := .ref (ad_p E 4)) (ci := 1) rfl 2 1 rfl (by decide) zk_X1_15 rfl dn_X1_liesWellByRepeats_13 ?_
      refine zz_iload_n cx dn_X1_liesWellByRepeats_16 rfl rfl ?_
      refine zz_iald cx 4 0 rfl rfl h (v := (gs_a G 1 x3)) rfl dn_X1_liesWellByRepeats_17 (fun h => ?_)
      refine zz_aload_n cx dn_X1_liesWellByRepeats_18 rfl rfl ?_
      refine zz_get cx zi_X1 (v := .ref (ad_p E 5)) (ci := 1) rfl 2 2 rfl (by decide) zk_X1_18 rfl dn_X1_liesWellByRepeats_19 ?_
      refine zz_iload_n cx dn_X1_liesWellByRepeats_22 rfl rfl ?_
      refine zz_iald cx 5 0 rfl rfl h (v := (gs_a G 2 x3)) rfl dn_X1_liesWellByRepeats_23 (fun h => ?_)
      refine gs_bind h (fun q1 e_q1 h => ?_)
      refine zz_callSi cx (As := [.int x1, .int x2, .int (gs_a G 1 x3), .int (gs_a G 2 x3)]) (rest := []) (c2 := 0) (s2 := 0) (z_cS_liesWell E G x1 x2 (gs_a G 1 x3) (gs_a G 2 x3) _ e_q1) zm_X1_liesWell zk_X1_94 zs_X1_liesWell (by decide) rfl (Nat.le_of_ble_eq_true rfl) rfl rfl (by decide) (wc_c_addr E _ _) dn_X1_liesWellByRepeats_24 ?_
      refine zz_if_ne cx (tgt := 32) dn_X1_liesWellByRepeats_27 (by decide) h (fun h => ?_) (fun h => ?_)
      · refine zz_iconst cx dn_X1_liesWellByRepeats_30 (v := (0 : Int32)) (by decide) ?_
        cases h
        exact zz_zret cx cq rfl (by decide) (by decide) dn_X1_liesWellByRepeats_31
      · refine zz_iinc cx dn_X1_liesWellByRepeats_32 (d := (1 : Int32)) rfl (by decide) (by decide) rfl ?_
        refine zz_goto cx dn_X1_liesWellByRepeats_35 (tgt := 2) (by decide) ?_
        exact ih (x3 + (1 : Int32)) h
set_option maxHeartbeats 4000000 in
set_option maxRecDepth 100000 in
theorem z_cS_liesWellByRepeats (E : ze_T) (n : Nat) (G : gs_T) (x1 x2 : Int32) (r : Int32) (h : cS_liesWellByRepeats n G x1 x2 = some r) : zc_i (zF E) (wc_c E G) (wc_c E G) yn_X1_liesWellByRepeats cn_X1_liesWellByRepeats 4 .boolean { frames := 2, cells := 0, slots := 0, locals := 46 } [.ref (ad_p E 2), .int x1, .int x2] r := by
  unfold cS_liesWellByRepeats at h
  refine zc_i_of (by decide) rfl (Nat.le_of_ble_eq_true rfl) (fun X cx cq => ?_)
  refine zz_iconst cx dn_X1_liesWellByRepeats_0 (v := (0 : Int32)) (by decide) ?_
  refine zz_istore_n cx dn_X1_liesWellByRepeats_1 rfl (by decide) rfl ?_
  exact z_cS_liesWellByRepeats_2 E n G x1 x2 _ X cx cq n (0 : Int32) h
set_option maxHeartbeats 4000000 in
set_option maxRecDepth 100000 in
theorem z_cS_hasSameRepeat_2 (E : ze_T) (n : Nat) (G : gs_T) (x1 x2 : Int32) (r : Int32) (X : zx_T) (cx : zx (zF E) X cn_X1_hasSameRepeat yn_X1_hasSameRepeat.cls { frames := 0, cells := 0, slots := 0, locals := 0 } 4) (cq : zq_i (zF E) X (wc_c E G) .boolean r) : ∀ (k : Nat) (x3 : Int32), cS_hasSameRepeat_2 n G x1 x2 k x3 = some r → zj (zF E) X 0 0 (wc_c E G) 2 [some (.ref (ad_p E 2)), some (.int x1), some (.int x2), some (.int x3)] [] := by
  intro k
  induction k with
  | zero => intro x3 h; cases h
  | succ k ih =>
    intro x3 h
    rw [cS_hasSameRepeat_2] at h
    refine zz_iload_n cx dn_X1_hasSameRepeat_2 rfl rfl ?_
    refine zz_aload_n cx dn_X1_hasSameRepeat_3 rfl rfl ?_
    refine zz_get cx zi_X1 (v := .int (G.1 7)) (ci := 1) rfl 2 16 rfl (by decide) zk_X1_68 rfl dn_X1_hasSameRepeat_4 ?_
    refine zz_icmp_ge cx (tgt := 38) dn_X1_hasSameRepeat_7 (by decide) h (fun h => ?_) (fun h => ?_)
    · refine zz_iconst cx dn_X1_hasSameRepeat_38 (v := (0 : Int32)) (by decide) ?_
      cases h
      exact zz_zret cx cq rfl (by decide) (by decide) dn_X1_hasSameRepeat_39
    · refine zz_aload_n cx dn_X1_hasSameRepeat_10 rfl rfl ?_
      refine zz_get cx zi_X1 (v := .ref (ad_p E 4)) (ci := 1) rfl 2 1 rfl (by decide) zk_X1_15 rfl dn_X1_hasSameRepeat_11 ?_
      refine zz_iload_n cx dn_X1_hasSameRepeat_14 rfl rfl ?_
      refine zz_iald cx 4 0 rfl rfl h (v := (gs_a G 1 x3)) rfl dn_X1_hasSameRepeat_15 (fun h => ?_)
      refine zz_iload_n cx dn_X1_hasSameRepeat_16 rfl rfl ?_
      refine zz_icmp_ne cx (tgt := 32) dn_X1_hasSameRepeat_17 (by decide) h (fun h => ?_) (fun h => ?_)
      · refine zz_aload_n cx dn_X1_hasSameRepeat_20 rfl rfl ?_
        refine zz_get cx zi_X1 (v := .ref (ad_p E 5)) (ci := 1) rfl 2 2 rfl (by decide) zk_X1_18 rfl dn_X1_hasSameRepeat_21 ?_
        refine zz_iload_n cx dn_X1_hasSameRepeat_24 rfl rfl ?_
        refine zz_iald cx 5 0 rfl rfl h (v := (gs_a G 2 x3)) rfl dn_X1_hasSameRepeat_25 (fun h => ?_)
        refine zz_iload_n cx dn_X1_hasSameRepeat_26 rfl rfl ?_
        refine zz_icmp_ne cx (tgt := 32) dn_X1_hasSameRepeat_27 (by decide) h (fun h => ?_) (fun h => ?_)
        · refine zz_iconst cx dn_X1_hasSameRepeat_30 (v := (1 : Int32)) (by decide) ?_
          cases h
          exact zz_zret cx cq rfl (by decide) (by decide) dn_X1_hasSameRepeat_31
        · refine zz_iinc cx dn_X1_hasSameRepeat_32 (d := (1 : Int32)) rfl (by decide) (by decide) rfl ?_
          refine zz_goto cx dn_X1_hasSameRepeat_35 (tgt := 2) (by decide) ?_
          exact ih (x3 + (1 : Int32)) h
      · refine zz_iinc cx dn_X1_hasSameRepeat_32 (d := (1 : Int32)) rfl (by decide) (by decide) rfl ?_
        refine zz_goto cx dn_X1_hasSameRepeat_35 (tgt := 2) (by decide) ?_
        exact ih (x3 + (1 : Int32)) h
set_option maxHeartbeats 4000000 in
set_option maxRecDepth 100000 in
theorem z_cS_hasSameRepeat (E : ze_T) (n : Nat) (G : gs_T) (x1 x2 : Int32) (r : Int32) (h : cS_hasSameRepeat n G x1 x2 = some r) : zc_i (zF E) (wc_c E G) (wc_c E G) yn_X1_hasSameRepeat cn_X1_hasSameRepeat 4 .boolean { frames := 0, cells := 0, slots := 0, locals := 0 } [.ref (ad_p E 2), .int x1, .int x2] r := by
  unfold cS_hasSameRepeat at h
  refine zc_i_of (by decide) rfl (Nat.le_of_ble_eq_true rfl) (fun X cx cq => ?_)
  refine zz_iconst cx dn_X1_hasSameRepeat_0 (v := (0 : Int32)) (by decide) ?_
  refine zz_istore_n cx dn_X1_hasSameRepeat_1 rfl (by decide) rfl ?_
  exact z_cS_hasSameRepeat_2 E n G x1 x2 _ X cx cq n (0 : Int32) h
set_option maxHeartbeats 4000000 in
set_option maxRecDepth 100000 in
theorem z_cS_liesWellByEndings_2 (E : ze_T) (n : Nat) (G : gs_T) (x1 x2 : Int32) (r : Int32) (X : zx_T) (cx : zx (zF E) X cn_X1_liesWellByEndings yn_X1_liesWellByEndings.cls { frames := 2, cells := 0, slots := 0, locals := 46 } 4) (cq : zq_i (zF E) X (wc_c E G) .boolean r) : ∀ (k : Nat) (x3 : Int32), cS_liesWellByEndings_2 n G x1 x2 k x3 = some r → zj (zF E) X 0 0 (wc_c E G) 2 [some (.ref (ad_p E 2)), some (.int x1), some (.int x2), some (.int x3)] [] := by
  intro k
  induction k with
  | zero => intro x3 h; cases h
  | succ k ih =>
    intro x3 h
    rw [cS_liesWellByEndings_2] at h
    refine zz_iload_n cx dn_X1_liesWellByEndings_2 rfl rfl ?_
    refine zz_aload_n cx dn_X1_liesWellByEndings_3 rfl rfl ?_
    refine zz_get cx zi_X1 (v := .int (G.1 8)) (ci := 1) rfl 2 17 rfl (by decide) zk_X1_88 rfl dn_X1_liesWellByEndings_4 ?_
    refine zz_icmp_ge cx (tgt := 38) dn_X1_liesWellByEndings_7 (by decide) h (fun h => ?_) (fun h => ?_)
    · refine zz_iconst cx dn_X1_liesWellByEndings_38 (v := (1 : Int32)) (by decide) ?_
      cases h
      exact zz_zret cx cq rfl (by decide) (by decide) dn_X1_liesWellByEndings_39
    · refine zz_iload_n cx dn_X1_liesWellByEndings_10 rfl rfl ?_
      refine zz_iload_n cx dn_X1_liesWellByEndings_11 rfl rfl ?_
      refine zz_aload_n cx dn_X1_liesWellByEndings_12 rfl rfl ?_
      refine zz_get cx zi_X1 (v := .ref (ad_p E 8)) (ci := 1) rfl 2 5 rfl (by decide) zk_X1_27 rfl dn_X1_liesWellByEndings_13 ?_
      refine zz_iload_n cx dn_X1_liesWellByEndings_16 rfl rfl ?_
      refine zz_iald cx 8 0 rfl rfl h (v := (gs_a G 5 x3)) rfl dn_X1_liesWellByEndings_17 (fun h => ?_)
      refine zz_aload_n cx dn_X1_liesWellByEndings_18 rfl rfl ?_
      refine zz_get cx zi_X1 (v := .ref (ad_p E 9)) (ci := 1) rfl 2 6 rfl (by decide) zk_X1_30 rfl dn_X1_liesWellByEndings_19 ?_
      refine zz_iload_n cx dn_X1_liesWellByEndings_22 rfl rfl ?_
      refine zz_iald cx 9 0 rfl rfl h (v := (gs_a G 6 x3)) rfl dn_X1_liesWellByEndings_23 (fun h => ?_)
      refine gs_bind h (fun q1 e_q1 h => ?_)
      refine zz_callSi cx (As := [.int x1, .int x2, .int (gs_a G 5 x3), .int (gs_a G 6 x3)]) (rest := []) (c2 := 0) (s2 := 0) (z_cS_liesWell E G x1 x2 (gs_a G 5 x3) (gs_a G 6 x3) _ e_q1) zm_X1_liesWell zk_X1_94 zs_X1_liesWell (by decide) rfl (Nat.le_of_ble_eq_true rfl) rfl rfl (by decide) (wc_c_addr E _ _) dn_X1_liesWellByEndings_24 ?_
      refine zz_if_ne cx (tgt := 32) dn_X1_liesWellByEndings_27 (by decide) h (fun h => ?_) (fun h => ?_)
      · refine zz_iconst cx dn_X1_liesWellByEndings_30 (v := (0 : Int32)) (by decide) ?_
        cases h
        exact zz_zret cx cq rfl (by decide) (by decide) dn_X1_liesWellByEndings_31
      · refine zz_iinc cx dn_X1_liesWellByEndings_32 (d := (1 : Int32)) rfl (by decide) (by decide) rfl ?_
        refine zz_goto cx dn_X1_liesWellByEndings_35 (tgt := 2) (by decide) ?_
        exact ih (x3 + (1 : Int32)) h
set_option maxHeartbeats 4000000 in
set_option maxRecDepth 100000 in
theorem z_cS_liesWellByEndings (E : ze_T) (n : Nat) (G : gs_T) (x1 x2 : Int32) (r : Int32) (h : cS_liesWellByEndings n G x1 x2 = some r) : zc_i (zF E) (wc_c E G) (wc_c E G) yn_X1_liesWellByEndings cn_X1_liesWellByEndings 4 .boolean { frames := 2, cells := 0, slots := 0, locals := 46 } [.ref (ad_p E 2), .int x1, .int x2] r := by
  unfold cS_liesWellByEndings at h
  refine zc_i_of (by decide) rfl (Nat.le_of_ble_eq_true rfl) (fun X cx cq => ?_)
  refine zz_iconst cx dn_X1_liesWellByEndings_0 (v := (0 : Int32)) (by decide) ?_
  refine zz_istore_n cx dn_X1_liesWellByEndings_1 rfl (by decide) rfl ?_
  exact z_cS_liesWellByEndings_2 E n G x1 x2 _ X cx cq n (0 : Int32) h
set_option maxHeartbeats 4000000 in
set_option maxRecDepth 100000 in
theorem z_cS_isDepthLeft_2 (E : ze_T) (n : Nat) (G : gs_T) (x2 : Int32) (r : Int32) (X : zx_T) (cx : zx (zF E) X cn_X1_isDepthLeft yn_X1_isDepthLeft.cls { frames := 0, cells := 0, slots := 0, locals := 0 } 4) (cq : zq_i (zF E) X (wc_c E G) .boolean r) : ∀ (k : Nat) (x3 : Int32), cS_isDepthLeft_2 n G x2 k x3 = some r → zj (zF E) X 0 0 (wc_c E G) 2 [some (.ref (ad_p E 2)), none, some (.int x2), some (.int x3)] [] := by
  intro k
  induction k with
  | zero => intro x3 h; cases h
  | succ k ih =>
    intro x3 h
    rw [cS_isDepthLeft_2] at h
    refine zz_iload_n cx dn_X1_isDepthLeft_2 rfl rfl ?_
    refine zz_iload_n cx dn_X1_isDepthLeft_3 rfl rfl ?_
    refine zz_icmp_gt cx (tgt := 25) dn_X1_isDepthLeft_4 (by decide) h (fun h => ?_) (fun h => ?_)
    · refine zz_iconst cx dn_X1_isDepthLeft_25 (v := (1 : Int32)) (by decide) ?_
      cases h
      exact zz_zret cx cq rfl (by decide) (by decide) dn_X1_isDepthLeft_26
    · refine zz_aload_n cx dn_X1_isDepthLeft_7 rfl rfl ?_
      refine zz_get cx zi_X1 (v := .ref (ad_p E 16)) (ci := 1) rfl 2 13 rfl (by decide) zk_X1_52 rfl dn_X1_isDepthLeft_8 ?_
      refine zz_iload_n cx dn_X1_isDepthLeft_11 rfl rfl ?_
      refine zz_iald cx 16 0 rfl rfl h (v := (gs_a G 13 x3)) rfl dn_X1_isDepthLeft_12 (fun h => ?_)
      refine zz_iconst cx dn_X1_isDepthLeft_13 (v := (3 : Int32)) (by decide) ?_
      refine zz_icmp_lt cx (tgt := 19) dn_X1_isDepthLeft_14 (by decide) h (fun h => ?_) (fun h => ?_)
      · refine zz_iinc cx dn_X1_isDepthLeft_19 (d := (1 : Int32)) rfl (by decide) (by decide) rfl ?_
        refine zz_goto cx dn_X1_isDepthLeft_22 (tgt := 2) (by decide) ?_
        exact ih (x3 + (1 : Int32)) h
      · refine zz_iconst cx dn_X1_isDepthLeft_17 (v := (0 : Int32)) (by decide) ?_
        cases h
        exact zz_zret cx cq rfl (by decide) (by decide) dn_X1_isDepthLeft_18
set_option maxHeartbeats 4000000 in
set_option maxRecDepth 100000 in
theorem z_cS_isDepthLeft (E : ze_T) (n : Nat) (G : gs_T) (x1 x2 : Int32) (r : Int32) (h : cS_isDepthLeft n G x1 x2 = some r) : zc_i (zF E) (wc_c E G) (wc_c E G) yn_X1_isDepthLeft cn_X1_isDepthLeft 4 .boolean { frames := 0, cells := 0, slots := 0, locals := 0 } [.ref (ad_p E 2), .int x1, .int x2] r := by
  unfold cS_isDepthLeft at h
  refine zc_i_of (by decide) rfl (Nat.le_of_ble_eq_true rfl) (fun X cx cq => ?_)
  refine zz_iload_n cx dn_X1_isDepthLeft_0 rfl rfl ?_
  refine zz_istore_n cx dn_X1_isDepthLeft_1 rfl (by decide) rfl ?_
  refine zz_less (L2 := [some (.ref (ad_p E 2)), none, some (.int x2), some (.int x1)]) (⟨rfl, rfl, rfl, trivial⟩) ?_
  exact z_cS_isDepthLeft_2 E n G x2 _ X cx cq n x1 h
set_option maxHeartbeats 4000000 in
set_option maxRecDepth 100000 in
theorem z_cS_takesRepeat (E : ze_T) (n : Nat) (G : gs_T) (x1 x2 : Int32) (r : Int32) (h : cS_takesRepeat n G x1 x2 = some r) : zc_i (zF E) (wc_c E G) (wc_c E G) yn_X1_takesRepeat cn_X1_takesRepeat 3 .boolean { frames := 3, cells := 0, slots := 0, locals := 69 } [.ref (ad_p E 2), .int x1, .int x2] r := by
  unfold cS_takesRepeat at h
  refine zc_i_of (by decide) rfl (Nat.le_of_ble_eq_true rfl) (fun X cx cq => ?_)
  refine zz_aload_n cx dn_X1_takesRepeat_0 rfl rfl ?_
  refine zz_get cx zi_X1 (v := .int (G.1 7)) (ci := 1) rfl 2 16 rfl (by decide) zk_X1_68 rfl dn_X1_takesRepeat_1 ?_
  refine zz_bipush cx dn_X1_takesRepeat_4 (v := (20 : Int32)) (by decide) ?_
  refine zz_icmp_ge cx (tgt := 49) dn_X1_takesRepeat_6 (by decide) h (fun h => ?_) (fun h => ?_)
  · refine zz_iconst cx dn_X1_takesRepeat_49 (v := (0 : Int32)) (by decide) ?_
    cases h
    exact zz_zret cx cq rfl (by decide) (by decide) dn_X1_takesRepeat_50
  · refine zz_aload_n cx dn_X1_takesRepeat_9 rfl rfl ?_
    refine zz_iload_n cx dn_X1_takesRepeat_10 rfl rfl ?_
    refine zz_iload_n cx dn_X1_takesRepeat_11 rfl rfl ?_
    refine gs_bind h (fun q1 e_q1 h => ?_)
    refine zz_callVi cx (As := [.int x1, .int x2]) (rest := []) (c2 := 0) (s2 := 0) (z_cS_liesWellByRepeats E n G x1 x2 _ e_q1) zm_X1_liesWellByRepeats zk_X1_75 zv_X1_liesWellByRepeats 2 rfl rfl (by decide) rfl (Nat.le_of_ble_eq_true rfl) rfl rfl (by decide) (wc_c_addr E _ _) dn_X1_takesRepeat_12 ?_
    refine zz_if_eq cx (tgt := 49) dn_X1_takesRepeat_15 (by decide) h (fun h => ?_) (fun h => ?_)
    · refine zz_iconst cx dn_X1_takesRepeat_49 (v := (0 : Int32)) (by decide) ?_
      cases h
      exact zz_zret cx cq rfl (by decide) (by decide) dn_X1_takesRepeat_50
    · refine zz_aload_n cx dn_X1_takesRepeat_18 rfl rfl ?_
      refine zz_iload_n cx dn_X1_takesRepeat_19 rfl rfl ?_
      refine zz_iload_n cx dn_X1_takesRepeat_20 rfl rfl ?_
      refine gs_bind h (fun q2 e_q2 h => ?_)
      refine zz_callVi cx (As := [.int x1, .int x2]) (rest := []) (c2 := 0) (s2 := 0) (z_cS_hasSameRepeat E n G x1 x2 _ e_q2) zm_X1_hasSameRepeat zk_X1_79 zv_X1_hasSameRepeat 2 rfl rfl (by decide) rfl (Nat.le_of_ble_eq_true rfl) rfl rfl (by decide) (wc_c_addr E _ _) dn_X1_takesRepeat_21 ?_
      refine zz_if_ne cx (tgt := 49) dn_X1_takesRepeat_24 (by decide) h (fun h => ?_) (fun h => ?_)
      · refine zz_aload_n cx dn_X1_takesRepeat_27 rfl rfl ?_
        refine zz_iload_n cx dn_X1_takesRepeat_28 rfl rfl ?_
        refine zz_iload_n cx dn_X1_takesRepeat_29 rfl rfl ?_
        refine gs_bind h (fun q3 e_q3 h => ?_)
        refine zz_callVi cx (As := [.int x1, .int x2]) (rest := []) (c2 := 0) (s2 := 0) (z_cS_liesWellByEndings E n G x1 x2 _ e_q3) zm_X1_liesWellByEndings zk_X1_82 zv_X1_liesWellByEndings 2 rfl rfl (by decide) rfl (Nat.le_of_ble_eq_true rfl) rfl rfl (by decide) (wc_c_addr E _ _) dn_X1_takesRepeat_30 ?_
        refine zz_if_eq cx (tgt := 49) dn_X1_takesRepeat_33 (by decide) h (fun h => ?_) (fun h => ?_)
        · refine zz_iconst cx dn_X1_takesRepeat_49 (v := (0 : Int32)) (by decide) ?_
          cases h
          exact zz_zret cx cq rfl (by decide) (by decide) dn_X1_takesRepeat_50
        · refine zz_aload_n cx dn_X1_takesRepeat_36 rfl rfl ?_
          refine zz_iload_n cx dn_X1_takesRepeat_37 rfl rfl ?_
          refine zz_iload_n cx dn_X1_takesRepeat_38 rfl rfl ?_
          refine gs_bind h (fun q4 e_q4 h => ?_)
          refine zz_callVi cx (As := [.int x1, .int x2]) (rest := []) (c2 := 0) (s2 := 0) (z_cS_isDepthLeft E n G x1 x2 _ e_q4) zm_X1_isDepthLeft zk_X1_85 zv_X1_isDepthLeft 2 rfl rfl (by decide) rfl (Nat.le_of_ble_eq_true rfl) rfl rfl (by decide) (wc_c_addr E _ _) dn_X1_takesRepeat_39 ?_
          refine zz_if_eq cx (tgt := 49) dn_X1_takesRepeat_42 (by decide) h (fun h => ?_) (fun h => ?_)
          · refine zz_iconst cx dn_X1_takesRepeat_49 (v := (0 : Int32)) (by decide) ?_
            cases h
            exact zz_zret cx cq rfl (by decide) (by decide) dn_X1_takesRepeat_50
          · refine zz_iconst cx dn_X1_takesRepeat_45 (v := (1 : Int32)) (by decide) ?_
            refine zz_goto cx dn_X1_takesRepeat_46 (tgt := 50) (by decide) ?_
            cases h
            exact zz_zret cx cq rfl (by decide) (by decide) dn_X1_takesRepeat_50
      · refine zz_iconst cx dn_X1_takesRepeat_49 (v := (0 : Int32)) (by decide) ?_
        cases h
        exact zz_zret cx cq rfl (by decide) (by decide) dn_X1_takesRepeat_50
set_option maxHeartbeats 4000000 in
set_option maxRecDepth 100000 in
theorem z_cS_isRepeatWithin (E : ze_T) (G : gs_T) (x1 x2 : Int32) (r : Int32) (h : cS_isRepeatWithin G x1 x2 = some r) : zc_i (zF E) (wc_c E G) (wc_c E G) yn_X1_isRepeatWithin cn_X1_isRepeatWithin 3 .boolean { frames := 1, cells := 0, slots := 0, locals := 23 } [.ref (ad_p E 2), .int x1, .int x2] r := by
  unfold cS_isRepeatWithin at h
  refine zc_i_of (by decide) rfl (Nat.le_of_ble_eq_true rfl) (fun X cx cq => ?_)
  refine zz_aload_n cx dn_X1_isRepeatWithin_0 rfl rfl ?_
  refine zz_get cx zi_X1 (v := .ref (ad_p E 4)) (ci := 1) rfl 2 1 rfl (by decide) zk_X1_15 rfl dn_X1_isRepeatWithin_1 ?_
  refine zz_iload_n cx dn_X1_isRepeatWithin_4 rfl rfl ?_
  refine zz_iald cx 4 0 rfl rfl h (v := (gs_a G 1 x1)) rfl dn_X1_isRepeatWithin_5 (fun h => ?_)
  refine zz_aload_n cx dn_X1_isRepeatWithin_6 rfl rfl ?_
  refine zz_get cx zi_X1 (v := .ref (ad_p E 5)) (ci := 1) rfl 2 2 rfl (by decide) zk_X1_18 rfl dn_X1_isRepeatWithin_7 ?_
  refine zz_iload_n cx dn_X1_isRepeatWithin_10 rfl rfl ?_
  refine zz_iald cx 5 0 rfl rfl h (v := (gs_a G 2 x1)) rfl dn_X1_isRepeatWithin_11 (fun h => ?_)
  refine zz_aload_n cx dn_X1_isRepeatWithin_12 rfl rfl ?_
  refine zz_get cx zi_X1 (v := .ref (ad_p E 4)) (ci := 1) rfl 2 1 rfl (by decide) zk_X1_15 rfl dn_X1_isRepeatWithin_13 ?_
  refine zz_iload_n cx dn_X1_isRepeatWithin_16 rfl rfl ?_
  refine zz_iald cx 4 0 rfl rfl h (v := (gs_a G 1 x2)) rfl dn_X1_isRepeatWithin_17 (fun h => ?_)
  refine zz_aload_n cx dn_X1_isRepeatWithin_18 rfl rfl ?_
  refine zz_get cx zi_X1 (v := .ref (ad_p E 5)) (ci := 1) rfl 2 2 rfl (by decide) zk_X1_18 rfl dn_X1_isRepeatWithin_19 ?_
  refine zz_iload_n cx dn_X1_isRepeatWithin_22 rfl rfl ?_
  refine zz_iald cx 5 0 rfl rfl h (v := (gs_a G 2 x2)) rfl dn_X1_isRepeatWithin_23 (fun h => ?_)
  refine gs_bind h (fun q1 e_q1 h => ?_)
  refine zz_callSi cx (As := [.int (gs_a G 1 x1), .int (gs_a G 2 x1), .int (gs_a G 1 x2), .int (gs_a G 2 x2)]) (rest := []) (c2 := 0) (s2 := 0) (z_cS_liesWithin E G (gs_a G 1 x1) (gs_a G 2 x1) (gs_a G 1 x2) (gs_a G 2 x2) _ e_q1) zm_X1_liesWithin zk_X1_71 zs_X1_liesWithin (by decide) rfl (Nat.le_of_ble_eq_true rfl) rfl rfl (by decide) (wc_c_addr E _ _) dn_X1_isRepeatWithin_24 ?_
  obtain ⟨hz, h⟩ := gs_bz_some h
  cases h
  exact zz_zret cx cq (gs_narz hz) (by decide) (by decide) dn_X1_isRepeatWithin_27
set_option maxHeartbeats 4000000 in
set_option maxRecDepth 100000 in
theorem z_cS_putAround_14 (E : ze_T) (n : Nat) (x1 x2 x3 : Int32) (r : gs_T) (X : zx_T) (cx : zx (zF E) X cn_X1_putAround yn_X1_putAround.cls { frames := 2, cells := 0, slots := 0, locals := 45 } 5) (cq : zq_v (zF E) X (wc_c E r)) : ∀ (k : Nat) (x4 : Int32) (G : gs_T), cS_putAround_14 n x1 x2 x3 k x4 G = some r → zj (zF E) X 0 0 (wc_c E G) 14 [some (.ref (ad_p E 2)), some (.int x1), some (.int x2), some (.int x3), some (.int x4)] [] := by
  intro k
  induction k with
  | zero => intro x4 G h; cases h
  | succ k ih =>
    intro x4 G h
    rw [cS_putAround_14] at h
    refine zz_iload cx dn_X1_putAround_14 rfl ?_
    refine zz_iload_n cx dn_X1_putAround_16 rfl rfl ?_
    refine zz_icmp_le cx (tgt := 59) dn_X1_putAround_17 (by decide) h (fun h => ?_) (fun h => ?_)
    · refine zz_aload_n cx dn_X1_putAround_59 rfl rfl ?_
      refine zz_get cx zi_X1 (v := .ref (ad_p E 15)) (ci := 1) rfl 2 12 rfl (by decide) zk_X1_49 rfl dn_X1_putAround_60 ?_
      refine zz_iload cx dn_X1_putAround_63 rfl ?_
      refine zz_iload_n cx dn_X1_putAround_65 rfl rfl ?_
      refine zz_iast cx 15 0 rfl rfl h (ws2 := (wc_c E (gs_sa G 12 x4 x2))) rfl dn_X1_putAround_66 (fun h => ?_)
      refine zz_aload_n cx dn_X1_putAround_67 rfl rfl ?_
      refine zz_get cx zi_X1 (v := .ref (ad_p E 16)) (ci := 1) rfl 2 13 rfl (by decide) zk_X1_52 rfl dn_X1_putAround_68 ?_
      refine zz_iload_n cx dn_X1_putAround_71 rfl rfl ?_
      refine zz_dup2 cx dn_X1_putAround_72 rfl rfl ?_
      refine zz_iald cx 16 0 rfl rfl h (v := (gs_a G 13 x1)) rfl dn_X1_putAround_73 (fun h => ?_)
      refine zz_iconst cx dn_X1_putAround_74 (v := (1 : Int32)) (by decide) ?_
      refine zz_iadd cx dn_X1_putAround_75 ?_
      refine zz_iast cx 16 0 rfl rfl h (ws2 := (wc_c E (gs_sa (gs_sa G 12 x4 x2) 13 x1 ((gs_a G 13 x1) + (1 : Int32))))) rfl dn_X1_putAround_76 (fun h => ?_)
      cases h
      exact zz_vret cx cq (by decide) (by decide) dn_X1_putAround_77
    · refine zz_aload_n cx dn_X1_putAround_20 rfl rfl ?_
      refine zz_aload_n cx dn_X1_putAround_21 rfl rfl ?_
      refine zz_get cx zi_X1 (v := .ref (ad_p E 15)) (ci := 1) rfl 2 12 rfl (by decide) zk_X1_49 rfl dn_X1_putAround_22 ?_
      refine zz_iload cx dn_X1_putAround_25 rfl ?_
      refine zz_iconst cx dn_X1_putAround_27 (v := (1 : Int32)) (by decide) ?_
      refine zz_isub cx dn_X1_putAround_28 ?_
      refine zz_iald cx 15 0 rfl rfl h (v := (gs_a G 12 (x4 - (1 : Int32)))) rfl dn_X1_putAround_29 (fun h => ?_)
      refine zz_iload_n cx dn_X1_putAround_30 rfl rfl ?_
      refine gs_bind h (fun q1 e_q1 h => ?_)
      refine zz_callVi cx (As := [.int (gs_a G 12 (x4 - (1 : Int32))), .int x2]) (rest := []) (c2 := 0) (s2 := 0) (z_cS_isRepeatWithin E G (gs_a G 12 (x4 - (1 : Int32))) x2 _ e_q1) zm_X1_isRepeatWithin zk_X1_101 zv_X1_isRepeatWithin 2 rfl rfl (by decide) rfl (Nat.le_of_ble_eq_true rfl) rfl rfl (by decide) (wc_c_addr E _ _) dn_X1_putAround_31 ?_
      refine zz_if_eq cx (tgt := 59) dn_X1_putAround_34 (by decide) h (fun h => ?_) (fun h => ?_)
      · refine zz_aload_n cx dn_X1_putAround_59 rfl rfl ?_
        refine zz_get cx zi_X1 (v := .ref (ad_p E 15)) (ci := 1) rfl 2 12 rfl (by decide) zk_X1_49 rfl dn_X1_putAround_60 ?_
        refine zz_iload cx dn_X1_putAround_63 rfl ?_
        refine zz_iload_n cx dn_X1_putAround_65 rfl rfl ?_
        refine zz_iast cx 15 0 rfl rfl h (ws2 := (wc_c E (gs_sa G 12 x4 x2))) rfl dn_X1_putAround_66 (fun h => ?_)
        refine zz_aload_n cx dn_X1_putAround_67 rfl rfl ?_
        refine zz_get cx zi_X1 (v := .ref (ad_p E 16)) (ci := 1) rfl 2 13 rfl (by decide) zk_X1_52 rfl dn_X1_putAround_68 ?_
        refine zz_iload_n cx dn_X1_putAround_71 rfl rfl ?_
        refine zz_dup2 cx dn_X1_putAround_72 rfl rfl ?_
        refine zz_iald cx 16 0 rfl rfl h (v := (gs_a G 13 x1)) rfl dn_X1_putAround_73 (fun h => ?_)
        refine zz_iconst cx dn_X1_putAround_74 (v := (1 : Int32)) (by decide) ?_
        refine zz_iadd cx dn_X1_putAround_75 ?_
        refine zz_iast cx 16 0 rfl rfl h (ws2 := (wc_c E (gs_sa (gs_sa G 12 x4 x2) 13 x1 ((gs_a G 13 x1) + (1 : Int32))))) rfl dn_X1_putAround_76 (fun h => ?_)
        cases h
        exact zz_vret cx cq (by decide) (by decide) dn_X1_putAround_77
      · refine zz_aload_n cx dn_X1_putAround_37 rfl rfl ?_
        refine zz_get cx zi_X1 (v := .ref (ad_p E 15)) (ci := 1) rfl 2 12 rfl (by decide) zk_X1_49 rfl dn_X1_putAround_38 ?_
        refine zz_iload cx dn_X1_putAround_41 rfl ?_
        refine zz_aload_n cx dn_X1_putAround_43 rfl rfl ?_
        refine zz_get cx zi_X1 (v := .ref (ad_p E 15)) (ci := 1) rfl 2 12 rfl (by decide) zk_X1_49 rfl dn_X1_putAround_44 ?_
        refine zz_iload cx dn_X1_putAround_47 rfl ?_
        refine zz_iconst cx dn_X1_putAround_49 (v := (1 : Int32)) (by decide) ?_
        refine zz_isub cx dn_X1_putAround_50 ?_
        refine zz_iald cx 15 0 rfl rfl h (v := (gs_a G 12 (x4 - (1 : Int32)))) rfl dn_X1_putAround_51 (fun h => ?_)
        refine zz_iast cx 15 0 rfl rfl h (ws2 := (wc_c E (gs_sa G 12 x4 (gs_a G 12 (x4 - (1 : Int32)))))) rfl dn_X1_putAround_52 (fun h => ?_)
        refine zz_iinc cx dn_X1_putAround_53 (d := (-1 : Int32)) rfl (by decide) (by decide) rfl ?_
        refine zz_goto cx dn_X1_putAround_56 (tgt := 14) (by decide) ?_
        exact ih (x4 + (-1 : Int32)) (gs_sa G 12 x4 (gs_a G 12 (x4 - (1 : Int32)))) h
set_option maxHeartbeats 4000000 in
set_option maxRecDepth 100000 in
theorem z_cS_putAround_j59 (E : ze_T) (n : Nat) (G : gs_T) (x1 x2 x4 : Int32) (r : gs_T) (X : zx_T) (cx : zx (zF E) X cn_X1_putAround yn_X1_putAround.cls { frames := 2, cells := 0, slots := 0, locals := 45 } 5) (cq : zq_v (zF E) X (wc_c E r)) (h : cS_putAround_j59 n G x1 x2 x4 = some r) : zj (zF E) X 0 0 (wc_c E G) 59 [some (.ref (ad_p E 2)), some (.int x1), some (.int x2), none, some (.int x4)] [] := by
  unfold cS_putAround_j59 at h
  refine zz_aload_n cx dn_X1_putAround_59 rfl rfl ?_
  refine zz_get cx zi_X1 (v := .ref (ad_p E 15)) (ci := 1) rfl 2 12 rfl (by decide) zk_X1_49 rfl dn_X1_putAround_60 ?_
  refine zz_iload cx dn_X1_putAround_63 rfl ?_
  refine zz_iload_n cx dn_X1_putAround_65 rfl rfl ?_
  refine zz_iast cx 15 0 rfl rfl h (ws2 := (wc_c E (gs_sa G 12 x4 x2))) rfl dn_X1_putAround_66 (fun h => ?_)
  refine zz_aload_n cx dn_X1_putAround_67 rfl rfl ?_
  refine zz_get cx zi_X1 (v := .ref (ad_p E 16)) (ci := 1) rfl 2 13 rfl (by decide) zk_X1_52 rfl dn_X1_putAround_68 ?_
  refine zz_iload_n cx dn_X1_putAround_71 rfl rfl ?_
  refine zz_dup2 cx dn_X1_putAround_72 rfl rfl ?_
  refine zz_iald cx 16 0 rfl rfl h (v := (gs_a G 13 x1)) rfl dn_X1_putAround_73 (fun h => ?_)
  refine zz_iconst cx dn_X1_putAround_74 (v := (1 : Int32)) (by decide) ?_
  refine zz_iadd cx dn_X1_putAround_75 ?_
  refine zz_iast cx 16 0 rfl rfl h (ws2 := (wc_c E (gs_sa (gs_sa G 12 x4 x2) 13 x1 ((gs_a G 13 x1) + (1 : Int32))))) rfl dn_X1_putAround_76 (fun h => ?_)
  cases h
  exact zz_vret cx cq (by decide) (by decide) dn_X1_putAround_77
set_option maxHeartbeats 4000000 in
set_option maxRecDepth 100000 in
theorem z_cS_putAround (E : ze_T) (n : Nat) (G : gs_T) (x1 x2 : Int32) (r : gs_T) (h : cS_putAround n G x1 x2 = some r) : zc_v (zF E) (wc_c E G) (wc_c E r) yn_X1_putAround cn_X1_putAround 5 { frames := 2, cells := 0, slots := 0, locals := 45 } [.ref (ad_p E 2), .int x1, .int x2] := by
  unfold cS_putAround at h
  refine zc_v_of (by decide) rfl (Nat.le_of_ble_eq_true rfl) (fun X cx cq => ?_)
  refine zz_iload_n cx dn_X1_putAround_0 rfl rfl ?_
  refine zz_iconst cx dn_X1_putAround_1 (v := (3 : Int32)) (by decide) ?_
  refine zz_imul cx dn_X1_putAround_2 ?_
  refine zz_istore_n cx dn_X1_putAround_3 rfl (by decide) rfl ?_
  refine zz_iload_n cx dn_X1_putAround_4 rfl rfl ?_
  refine zz_aload_n cx dn_X1_putAround_5 rfl rfl ?_
  refine zz_get cx zi_X1 (v := .ref (ad_p E 16)) (ci := 1) rfl 2 13 rfl (by decide) zk_X1_52 rfl dn_X1_putAround_6 ?_
  refine zz_iload_n cx dn_X1_putAround_9 rfl rfl ?_
  refine zz_iald cx 16 0 rfl rfl h (v := (gs_a G 13 x1)) rfl dn_X1_putAround_10 (fun h => ?_)
  refine zz_iadd cx dn_X1_putAround_11 ?_
  refine zz_istore cx dn_X1_putAround_12 (by decide) rfl ?_
  exact z_cS_putAround_14 E n x1 x2 (x1 * (3 : Int32)) _ X cx cq n ((x1 * (3 : Int32)) + (gs_a G 13 x1)) G h
set_option maxHeartbeats 4000000 in
set_option maxRecDepth 100000 in
theorem z_cS_addRepeat_33 (E : ze_T) (n : Nat) (x2 : Int32) (r : (Int32 × gs_T)) (X : zx_T) (cx : zx (zF E) X cn_X1_addRepeat yn_X1_addRepeat.cls { frames := 3, cells := 0, slots := 0, locals := 69 } 5) (cq : zq_i (zF E) X (wc_c E r.2) .int r.1) : ∀ (k : Nat) (x4 : Int32) (G : gs_T), cS_addRepeat_33 n x2 k x4 G = some r → zj (zF E) X 0 0 (wc_c E G) 33 [some (.ref (ad_p E 2)), none, some (.int x2), none, some (.int x4)] [] := by
  intro k
  induction k with
  | zero => intro x4 G h; cases h
  | succ k ih =>
    intro x4 G h
    rw [cS_addRepeat_33] at h
    refine zz_iload cx dn_X1_addRepeat_33 rfl ?_
    refine zz_iload_n cx dn_X1_addRepeat_35 rfl rfl ?_
    refine zz_icmp_gt cx (tgt := 55) dn_X1_addRepeat_36 (by decide) h (fun h => ?_) (fun h => ?_)
    · refine zz_aload_n cx dn_X1_addRepeat_55 rfl rfl ?_
      refine zz_dup cx dn_X1_addRepeat_56 rfl ?_
      refine zz_get cx zi_X1 (v := .int (G.1 7)) (ci := 1) rfl 2 16 rfl (by decide) zk_X1_68 rfl dn_X1_addRepeat_57 ?_
      refine zz_dup_x1 cx dn_X1_addRepeat_60 rfl rfl ?_
      refine zz_iconst cx dn_X1_addRepeat_61 (v := (1 : Int32)) (by decide) ?_
      refine zz_iadd cx dn_X1_addRepeat_62 ?_
      refine zz_put cx (ws2 := (wc_c E (gs_sv G 7 ((G.1 7) + (1 : Int32))))) (ty := .int) (ci := 1) zi_X1 fk_X1 nm_X1 rfl 2 16 rfl (by decide) zk_X1_68 rfl (by decide +kernel) rfl rfl (Nat.le_of_ble_eq_true rfl) rfl dn_X1_addRepeat_63 ?_
      cases h
      exact zz_iret cx cq (by decide) (by decide) dn_X1_addRepeat_66
    · refine zz_aload_n cx dn_X1_addRepeat_39 rfl rfl ?_
      refine zz_iload cx dn_X1_addRepeat_40 rfl ?_
      refine zz_aload_n cx dn_X1_addRepeat_42 rfl rfl ?_
      refine zz_get cx zi_X1 (v := .int (G.1 7)) (ci := 1) rfl 2 16 rfl (by decide) zk_X1_68 rfl dn_X1_addRepeat_43 ?_
      refine gs_bind h (fun q1 e_q1 h => ?_)
      refine zz_callVv cx (As := [.int x4, .int (G.1 7)]) (rest := []) (c2 := 0) (s2 := 0) (z_cS_putAround E n G x4 (G.1 7) _ e_q1) zm_X1_putAround zk_X1_97 zv_X1_putAround 2 rfl rfl (by decide) rfl (Nat.le_of_ble_eq_true rfl) rfl rfl (by decide) (wc_c_addr E _ _) dn_X1_addRepeat_46 ?_
      refine zz_iinc cx dn_X1_addRepeat_49 (d := (1 : Int32)) rfl (by decide) (by decide) rfl ?_
      refine zz_goto cx dn_X1_addRepeat_52 (tgt := 33) (by decide) ?_
      exact ih (x4 + (1 : Int32)) q1 h
set_option maxHeartbeats 4000000 in
set_option maxRecDepth 100000 in
theorem z_cS_addRepeat (E : ze_T) (n : Nat) (G : gs_T) (x1 x2 x3 : Int32) (r : (Int32 × gs_T)) (h : cS_addRepeat n G x1 x2 x3 = some r) : zc_i (zF E) (wc_c E G) (wc_c E r.2) yn_X1_addRepeat cn_X1_addRepeat 5 .int { frames := 3, cells := 0, slots := 0, locals := 69 } [.ref (ad_p E 2), .int x1, .int x2, .int x3] r.1 := by
  unfold cS_addRepeat at h
  refine zc_i_of (by decide) rfl (Nat.le_of_ble_eq_true rfl) (fun X cx cq => ?_)
  refine zz_aload_n cx dn_X1_addRepeat_0 rfl rfl ?_
  refine zz_get cx zi_X1 (v := .ref (ad_p E 4)) (ci := 1) rfl 2 1 rfl (by decide) zk_X1_15 rfl dn_X1_addRepeat_1 ?_
  refine zz_aload_n cx dn_X1_addRepeat_4 rfl rfl ?_
  refine zz_get cx zi_X1 (v := .int (G.1 7)) (ci := 1) rfl 2 16 rfl (by decide) zk_X1_68 rfl dn_X1_addRepeat_5 ?_
  refine zz_iload_n cx dn_X1_addRepeat_8 rfl rfl ?_
  refine zz_iast cx 4 0 rfl rfl h (ws2 := (wc_c E (gs_sa G 1 (G.1 7) x1))) rfl dn_X1_addRepeat_9 (fun h => ?_)
  refine zz_aload_n cx dn_X1_addRepeat_10 rfl rfl ?_
  refine zz_get cx zi_X1 (v := .ref (ad_p E 5)) (ci := 1) rfl 2 2 rfl (by decide) zk_X1_18 rfl dn_X1_addRepeat_11 ?_
  refine zz_aload_n cx dn_X1_addRepeat_14 rfl rfl ?_
  refine zz_get cx zi_X1 (v := .int (G.1 7)) (ci := 1) rfl 2 16 rfl (by decide) zk_X1_68 rfl dn_X1_addRepeat_15 ?_
  refine zz_iload_n cx dn_X1_addRepeat_18 rfl rfl ?_
  refine zz_iast cx 5 0 rfl rfl h (ws2 := (wc_c E (gs_sa (gs_sa G 1 (G.1 7) x1) 2 (G.1 7) x2))) rfl dn_X1_addRepeat_19 (fun h => ?_)
  refine zz_aload_n cx dn_X1_addRepeat_20 rfl rfl ?_
  refine zz_get cx zi_X1 (v := .ref (ad_p E 6)) (ci := 1) rfl 2 3 rfl (by decide) zk_X1_21 rfl dn_X1_addRepeat_21 ?_
  refine zz_aload_n cx dn_X1_addRepeat_24 rfl rfl ?_
  refine zz_get cx zi_X1 (v := .int (G.1 7)) (ci := 1) rfl 2 16 rfl (by decide) zk_X1_68 rfl dn_X1_addRepeat_25 ?_
  refine zz_iload_n cx dn_X1_addRepeat_28 rfl rfl ?_
  refine zz_iast cx 6 0 rfl rfl h (ws2 := (wc_c E (gs_sa (gs_sa (gs_sa G 1 (G.1 7) x1) 2 (G.1 7) x2) 3 (G.1 7) x3))) rfl dn_X1_addRepeat_29 (fun h => ?_)
  refine zz_iload_n cx dn_X1_addRepeat_30 rfl rfl ?_
  refine zz_istore cx dn_X1_addRepeat_31 (by decide) rfl ?_
  refine zz_less (L2 := [some (.ref (ad_p E 2)), none, some (.int x2), none, some (.int x1)]) (⟨rfl, rfl, rfl, trivial⟩) ?_
  exact z_cS_addRepeat_33 E n x2 _ X cx cq n x1 (gs_sa (gs_sa (gs_sa G 1 (G.1 7) x1) 2 (G.1 7) x2) 3 (G.1 7) x3) h
set_option maxHeartbeats 4000000 in
set_option maxRecDepth 100000 in
theorem z_cS_hasRepeat (E : ze_T) (G : gs_T) (x1 : Int32) (r : Int32) (h : cS_hasRepeat G x1 = some r) : zc_i (zF E) (wc_c E G) (wc_c E G) yn_X1_hasRepeat cn_X1_hasRepeat 2 .boolean { frames := 0, cells := 0, slots := 0, locals := 0 } [.ref (ad_p E 2), .int x1] r := by
  unfold cS_hasRepeat at h
  refine zc_i_of (by decide) rfl (Nat.le_of_ble_eq_true rfl) (fun X cx cq => ?_)
  refine zz_iload_n cx dn_X1_hasRepeat_0 rfl rfl ?_
  refine zz_if_lt cx (tgt := 16) dn_X1_hasRepeat_1 (by decide) h (fun h => ?_) (fun h => ?_)
  · refine zz_iconst cx dn_X1_hasRepeat_16 (v := (0 : Int32)) (by decide) ?_
    cases h
    exact zz_zret cx cq rfl (by decide) (by decide) dn_X1_hasRepeat_17
  · refine zz_iload_n cx dn_X1_hasRepeat_4 rfl rfl ?_
    refine zz_aload_n cx dn_X1_hasRepeat_5 rfl rfl ?_
    refine zz_get cx zi_X1 (v := .int (G.1 7)) (ci := 1) rfl 2 16 rfl (by decide) zk_X1_68 rfl dn_X1_hasRepeat_6 ?_
    refine zz_icmp_ge cx (tgt := 16) dn_X1_hasRepeat_9 (by decide) h (fun h => ?_) (fun h => ?_)
    · refine zz_iconst cx dn_X1_hasRepeat_16 (v := (0 : Int32)) (by decide) ?_
      cases h
      exact zz_zret cx cq rfl (by decide) (by decide) dn_X1_hasRepeat_17
    · refine zz_iconst cx dn_X1_hasRepeat_12 (v := (1 : Int32)) (by decide) ?_
      refine zz_goto cx dn_X1_hasRepeat_13 (tgt := 17) (by decide) ?_
      cases h
      exact zz_zret cx cq rfl (by decide) (by decide) dn_X1_hasRepeat_17
set_option maxHeartbeats 4000000 in
set_option maxRecDepth 100000 in
theorem z_cS_hasPasses (E : ze_T) (G : gs_T) (x1 x2 : Int32) (r : Int32) (h : cS_hasPasses G x1 x2 = some r) : zc_i (zF E) (wc_c E G) (wc_c E G) yn_X1_hasPasses cn_X1_hasPasses 4 .boolean { frames := 0, cells := 0, slots := 0, locals := 0 } [.ref (ad_p E 2), .int x1, .int x2] r := by
  unfold cS_hasPasses at h
  refine zc_i_of (by decide) rfl (Nat.le_of_ble_eq_true rfl) (fun X cx cq => ?_)
  refine zz_iconst cx dn_X1_hasPasses_0 (v := (1 : Int32)) (by decide) ?_
  refine zz_aload_n cx dn_X1_hasPasses_1 rfl rfl ?_
  refine zz_get cx zi_X1 (v := .ref (ad_p E 6)) (ci := 1) rfl 2 3 rfl (by decide) zk_X1_21 rfl dn_X1_hasPasses_2 ?_
  refine zz_iload_n cx dn_X1_hasPasses_5 rfl rfl ?_
  refine zz_iald cx 6 0 rfl rfl h (v := (gs_a G 3 x1)) rfl dn_X1_hasPasses_6 (fun h => ?_)
  refine zz_ishl cx dn_X1_hasPasses_7 ?_
  refine zz_iconst cx dn_X1_hasPasses_8 (v := (1 : Int32)) (by decide) ?_
  refine zz_isub cx dn_X1_hasPasses_9 ?_
  refine zz_istore_n cx dn_X1_hasPasses_10 rfl (by decide) rfl ?_
  refine zz_iload_n cx dn_X1_hasPasses_11 rfl rfl ?_
  refine zz_if_eq cx (tgt := 27) dn_X1_hasPasses_12 (by decide) h (fun h => ?_) (fun h => ?_)
  · refine zz_iconst cx dn_X1_hasPasses_27 (v := (0 : Int32)) (by decide) ?_
    cases h
    exact zz_zret cx cq rfl (by decide) (by decide) dn_X1_hasPasses_28
  · refine zz_iload_n cx dn_X1_hasPasses_15 rfl rfl ?_
    refine zz_iload_n cx dn_X1_hasPasses_16 rfl rfl ?_
    refine zz_iconst cx dn_X1_hasPasses_17 (v := (-1 : Int32)) (by decide) ?_
    refine zz_ixor cx dn_X1_hasPasses_18 ?_
    refine zz_iand cx dn_X1_hasPasses_19 ?_
    refine zz_if_ne cx (tgt := 27) dn_X1_hasPasses_20 (by decide) h (fun h => ?_) (fun h => ?_)
    · refine zz_iconst cx dn_X1_hasPasses_23 (v := (1 : Int32)) (by decide) ?_
      refine zz_goto cx dn_X1_hasPasses_24 (tgt := 28) (by decide) ?_
      cases h
      exact zz_zret cx cq rfl (by decide) (by decide) dn_X1_hasPasses_28
    · refine zz_iconst cx dn_X1_hasPasses_27 (v := (0 : Int32)) (by decide) ?_
      cases h
      exact zz_zret cx cq rfl (by decide) (by decide) dn_X1_hasPasses_28
set_option maxHeartbeats 4000000 in
set_option maxRecDepth 100000 in
theorem z_cS_isApartFromEndings_2 (E : ze_T) (n : Nat) (G : gs_T) (x1 x2 : Int32) (r : Int32) (X : zx_T) (cx : zx (zF E) X cn_X1_isApartFromEndings yn_X1_isApartFromEndings.cls { frames := 0, cells := 0, slots := 0, locals := 0 } 4) (cq : zq_i (zF E) X (wc_c E G) .boolean r) : ∀ (k : Nat) (x3 : Int32), cS_isApartFromEndings_2 n G x1 x2 k x3 = some r → zj (zF E) X 0 0 (wc_c E G) 2 [some (.ref (ad_p E 2)), some (.int x1), some (.int x2), some (.int x3)] [] := by
  intro k
  induction k with
  | zero => intro x3 h; cases h
  | succ k ih =>
    intro x3 h
    rw [cS_isApartFromEndings_2] at h
    refine zz_iload_n cx dn_X1_isApartFromEndings_2 rfl rfl ?_
    refine zz_aload_n cx dn_X1_isApartFromEndings_3 rfl rfl ?_
    refine zz_get cx zi_X1 (v := .int (G.1 8)) (ci := 1) rfl 2 17 rfl (by decide) zk_X1_88 rfl dn_X1_isApartFromEndings_4 ?_
    refine zz_icmp_ge cx (tgt := 38) dn_X1_isApartFromEndings_7 (by decide) h (fun h => ?_) (fun h => ?_)
    · refine zz_iconst cx dn_X1_isApartFromEndings_38 (v := (1 : Int32)) (by decide) ?_
      cases h
      exact zz_zret cx cq rfl (by decide) (by decide) dn_X1_isApartFromEndings_39
    · refine zz_iload_n cx dn_X1_isApartFromEndings_10 rfl rfl ?_
      refine zz_aload_n cx dn_X1_isApartFromEndings_11 rfl rfl ?_
      refine zz_get cx zi_X1 (v := .ref (ad_p E 9)) (ci := 1) rfl 2 6 rfl (by decide) zk_X1_30 rfl dn_X1_isApartFromEndings_12 ?_
      refine zz_iload_n cx dn_X1_isApartFromEndings_15 rfl rfl ?_
      refine zz_iald cx 9 0 rfl rfl h (v := (gs_a G 6 x3)) rfl dn_X1_isApartFromEndings_16 (fun h => ?_)
      refine zz_icmp_gt cx (tgt := 32) dn_X1_isApartFromEndings_17 (by decide) h (fun h => ?_) (fun h => ?_)
      · refine zz_iinc cx dn_X1_isApartFromEndings_32 (d := (1 : Int32)) rfl (by decide) (by decide) rfl ?_
        refine zz_goto cx dn_X1_isApartFromEndings_35 (tgt := 2) (by decide) ?_
        exact ih (x3 + (1 : Int32)) h
      · refine zz_aload_n cx dn_X1_isApartFromEndings_20 rfl rfl ?_
        refine zz_get cx zi_X1 (v := .ref (ad_p E 8)) (ci := 1) rfl 2 5 rfl (by decide) zk_X1_27 rfl dn_X1_isApartFromEndings_21 ?_
        refine zz_iload_n cx dn_X1_isApartFromEndings_24 rfl rfl ?_
        refine zz_iald cx 8 0 rfl rfl h (v := (gs_a G 5 x3)) rfl dn_X1_isApartFromEndings_25 (fun h => ?_)
        refine zz_iload_n cx dn_X1_isApartFromEndings_26 rfl rfl ?_
        refine zz_icmp_gt cx (tgt := 32) dn_X1_isApartFromEndings_27 (by decide) h (fun h => ?_) (fun h => ?_)
        · refine zz_iinc cx dn_X1_isApartFromEndings_32 (d := (1 : Int32)) rfl (by decide) (by decide) rfl ?_
          refine zz_goto cx dn_X1_isApartFromEndings_35 (tgt := 2) (by decide) ?_
          exact ih (x3 + (1 : Int32)) h
        · refine zz_iconst cx dn_X1_isApartFromEndings_30 (v := (0 : Int32)) (by decide) ?_
          cases h
          exact zz_zret cx cq rfl (by decide) (by decide) dn_X1_isApartFromEndings_31
set_option maxHeartbeats 4000000 in
set_option maxRecDepth 100000 in
theorem z_cS_isApartFromEndings (E : ze_T) (n : Nat) (G : gs_T) (x1 x2 : Int32) (r : Int32) (h : cS_isApartFromEndings n G x1 x2 = some r) : zc_i (zF E) (wc_c E G) (wc_c E G) yn_X1_isApartFromEndings cn_X1_isApartFromEndings 4 .boolean { frames := 0, cells := 0, slots := 0, locals := 0 } [.ref (ad_p E 2), .int x1, .int x2] r := by
  unfold cS_isApartFromEndings at h
  refine zc_i_of (by decide) rfl (Nat.le_of_ble_eq_true rfl) (fun X cx cq => ?_)
  refine zz_iconst cx dn_X1_isApartFromEndings_0 (v := (0 : Int32)) (by decide) ?_
  refine zz_istore_n cx dn_X1_isApartFromEndings_1 rfl (by decide) rfl ?_
  exact z_cS_isApartFromEndings_2 E n G x1 x2 _ X cx cq n (0 : Int32) h
set_option maxHeartbeats 4000000 in
set_option maxRecDepth 100000 in
theorem z_cS_takesEnding (E : ze_T) (n : Nat) (G : gs_T) (x1 x2 x3 : Int32) (r : Int32) (h : cS_takesEnding n G x1 x2 x3 = some r) : zc_i (zF E) (wc_c E G) (wc_c E G) yn_X1_takesEnding cn_X1_takesEnding 4 .boolean { frames := 3, cells := 0, slots := 0, locals := 69 } [.ref (ad_p E 2), .int x1, .int x2, .int x3] r := by
  unfold cS_takesEnding at h
  refine zc_i_of (by decide) rfl (Nat.le_of_ble_eq_true rfl) (fun X cx cq => ?_)
  refine zz_aload_n cx dn_X1_takesEnding_0 rfl rfl ?_
  refine zz_get cx zi_X1 (v := .int (G.1 8)) (ci := 1) rfl 2 17 rfl (by decide) zk_X1_88 rfl dn_X1_takesEnding_1 ?_
  refine zz_bipush cx dn_X1_takesEnding_4 (v := (20 : Int32)) (by decide) ?_
  refine zz_icmp_ge cx (tgt := 51) dn_X1_takesEnding_6 (by decide) h (fun h => ?_) (fun h => ?_)
  · refine zz_iconst cx dn_X1_takesEnding_51 (v := (0 : Int32)) (by decide) ?_
    cases h
    exact zz_zret cx cq rfl (by decide) (by decide) dn_X1_takesEnding_52
  · refine zz_iload_n cx dn_X1_takesEnding_9 rfl rfl ?_
    refine zz_iload_n cx dn_X1_takesEnding_10 rfl rfl ?_
    refine zz_aload_n cx dn_X1_takesEnding_11 rfl rfl ?_
    refine zz_get cx zi_X1 (v := .ref (ad_p E 4)) (ci := 1) rfl 2 1 rfl (by decide) zk_X1_15 rfl dn_X1_takesEnding_12 ?_
    refine zz_iload_n cx dn_X1_takesEnding_15 rfl rfl ?_
    refine zz_iald cx 4 0 rfl rfl h (v := (gs_a G 1 x1)) rfl dn_X1_takesEnding_16 (fun h => ?_)
    refine zz_aload_n cx dn_X1_takesEnding_17 rfl rfl ?_
    refine zz_get cx zi_X1 (v := .ref (ad_p E 5)) (ci := 1) rfl 2 2 rfl (by decide) zk_X1_18 rfl dn_X1_takesEnding_18 ?_
    refine zz_iload_n cx dn_X1_takesEnding_21 rfl rfl ?_
    refine zz_iald cx 5 0 rfl rfl h (v := (gs_a G 2 x1)) rfl dn_X1_takesEnding_22 (fun h => ?_)
    refine gs_bind h (fun q1 e_q1 h => ?_)
    refine zz_callSi cx (As := [.int x2, .int x3, .int (gs_a G 1 x1), .int (gs_a G 2 x1)]) (rest := []) (c2 := 0) (s2 := 0) (z_cS_liesWithin E G x2 x3 (gs_a G 1 x1) (gs_a G 2 x1) _ e_q1) zm_X1_liesWithin zk_X1_71 zs_X1_liesWithin (by decide) rfl (Nat.le_of_ble_eq_true rfl) rfl rfl (by decide) (wc_c_addr E _ _) dn_X1_takesEnding_23 ?_
    refine zz_if_eq cx (tgt := 51) dn_X1_takesEnding_26 (by decide) h (fun h => ?_) (fun h => ?_)
    · refine zz_iconst cx dn_X1_takesEnding_51 (v := (0 : Int32)) (by decide) ?_
      cases h
      exact zz_zret cx cq rfl (by decide) (by decide) dn_X1_takesEnding_52
    · refine zz_aload_n cx dn_X1_takesEnding_29 rfl rfl ?_
      refine zz_iload_n cx dn_X1_takesEnding_30 rfl rfl ?_
      refine zz_iload_n cx dn_X1_takesEnding_31 rfl rfl ?_
      refine gs_bind h (fun q2 e_q2 h => ?_)
      refine zz_callVi cx (As := [.int x2, .int x3]) (rest := []) (c2 := 0) (s2 := 0) (z_cS_liesWellByRepeats E n G x2 x3 _ e_q2) zm_X1_liesWellByRepeats zk_X1_75 zv_X1_liesWellByRepeats 2 rfl rfl (by decide) rfl (Nat.le_of_ble_eq_true rfl) rfl rfl (by decide) (wc_c_addr E _ _) dn_X1_takesEnding_32 ?_
      refine zz_if_eq cx (tgt := 51) dn_X1_takesEnding_35 (by decide) h (fun h => ?_) (fun h => ?_)
      · refine zz_iconst cx dn_X1_takesEnding_51 (v := (0 : Int32)) (by decide) ?_
        cases h
        exact zz_zret cx cq rfl (by decide) (by decide) dn_X1_takesEnding_52
      · refine zz_aload_n cx dn_X1_takesEnding_38 rfl rfl ?_
        refine zz_iload_n cx dn_X1_takesEnding_39 rfl rfl ?_
        refine zz_iload_n cx dn_X1_takesEnding_40 rfl rfl ?_
        refine gs_bind h (fun q3 e_q3 h => ?_)
        refine zz_callVi cx (As := [.int x2, .int x3]) (rest := []) (c2 := 0) (s2 := 0) (z_cS_isApartFromEndings E n G x2 x3 _ e_q3) zm_X1_isApartFromEndings zk_X1_91 zv_X1_isApartFromEndings 2 rfl rfl (by decide) rfl (Nat.le_of_ble_eq_true rfl) rfl rfl (by decide) (wc_c_addr E _ _) dn_X1_takesEnding_41 ?_
        refine zz_if_eq cx (tgt := 51) dn_X1_takesEnding_44 (by decide) h (fun h => ?_) (fun h => ?_)
        · refine zz_iconst cx dn_X1_takesEnding_51 (v := (0 : Int32)) (by decide) ?_
          cases h
          exact zz_zret cx cq rfl (by decide) (by decide) dn_X1_takesEnding_52
        · refine zz_iconst cx dn_X1_takesEnding_47 (v := (1 : Int32)) (by decide) ?_
          refine zz_goto cx dn_X1_takesEnding_48 (tgt := 52) (by decide) ?_
          cases h
          exact zz_zret cx cq rfl (by decide) (by decide) dn_X1_takesEnding_52
set_option maxHeartbeats 4000000 in
set_option maxRecDepth 100000 in
theorem z_cS_addEnding (E : ze_T) (G : gs_T) (x1 x2 x3 x4 : Int32) (r : (Int32 × gs_T)) (h : cS_addEnding G x1 x2 x3 x4 = some r) : zc_i (zF E) (wc_c E G) (wc_c E r.2) yn_X1_addEnding cn_X1_addEnding 5 .int { frames := 0, cells := 0, slots := 0, locals := 0 } [.ref (ad_p E 2), .int x1, .int x2, .int x3, .int x4] r.1 := by
  unfold cS_addEnding at h
  refine zc_i_of (by decide) rfl (Nat.le_of_ble_eq_true rfl) (fun X cx cq => ?_)
  refine zz_aload_n cx dn_X1_addEnding_0 rfl rfl ?_
  refine zz_get cx zi_X1 (v := .ref (ad_p E 7)) (ci := 1) rfl 2 4 rfl (by decide) zk_X1_24 rfl dn_X1_addEnding_1 ?_
  refine zz_aload_n cx dn_X1_addEnding_4 rfl rfl ?_
  refine zz_get cx zi_X1 (v := .int (G.1 8)) (ci := 1) rfl 2 17 rfl (by decide) zk_X1_88 rfl dn_X1_addEnding_5 ?_
  refine zz_iload_n cx dn_X1_addEnding_8 rfl rfl ?_
  refine zz_iast cx 7 0 rfl rfl h (ws2 := (wc_c E (gs_sa G 4 (G.1 8) x1))) rfl dn_X1_addEnding_9 (fun h => ?_)
  refine zz_aload_n cx dn_X1_addEnding_10 rfl rfl ?_
  refine zz_get cx zi_X1 (v := .ref (ad_p E 8)) (ci := 1) rfl 2 5 rfl (by decide) zk_X1_27 rfl dn_X1_addEnding_11 ?_
  refine zz_aload_n cx dn_X1_addEnding_14 rfl rfl ?_
  refine zz_get cx zi_X1 (v := .int (G.1 8)) (ci := 1) rfl 2 17 rfl (by decide) zk_X1_88 rfl dn_X1_addEnding_15 ?_
  refine zz_iload_n cx dn_X1_addEnding_18 rfl rfl ?_
  refine zz_iast cx 8 0 rfl rfl h (ws2 := (wc_c E (gs_sa (gs_sa G 4 (G.1 8) x1) 5 (G.1 8) x2))) rfl dn_X1_addEnding_19 (fun h => ?_)
  refine zz_aload_n cx dn_X1_addEnding_20 rfl rfl ?_
  refine zz_get cx zi_X1 (v := .ref (ad_p E 9)) (ci := 1) rfl 2 6 rfl (by decide) zk_X1_30 rfl dn_X1_addEnding_21 ?_
  refine zz_aload_n cx dn_X1_addEnding_24 rfl rfl ?_
  refine zz_get cx zi_X1 (v := .int (G.1 8)) (ci := 1) rfl 2 17 rfl (by decide) zk_X1_88 rfl dn_X1_addEnding_25 ?_
  refine zz_iload_n cx dn_X1_addEnding_28 rfl rfl ?_
  refine zz_iast cx 9 0 rfl rfl h (ws2 := (wc_c E (gs_sa (gs_sa (gs_sa G 4 (G.1 8) x1) 5 (G.1 8) x2) 6 (G.1 8) x3))) rfl dn_X1_addEnding_29 (fun h => ?_)
  refine zz_aload_n cx dn_X1_addEnding_30 rfl rfl ?_
  refine zz_get cx zi_X1 (v := .ref (ad_p E 10)) (ci := 1) rfl 2 7 rfl (by decide) zk_X1_33 rfl dn_X1_addEnding_31 ?_
  refine zz_aload_n cx dn_X1_addEnding_34 rfl rfl ?_
  refine zz_get cx zi_X1 (v := .int (G.1 8)) (ci := 1) rfl 2 17 rfl (by decide) zk_X1_88 rfl dn_X1_addEnding_35 ?_
  refine zz_iload cx dn_X1_addEnding_38 rfl ?_
  refine zz_iast cx 10 0 rfl rfl h (ws2 := (wc_c E (gs_sa (gs_sa (gs_sa (gs_sa G 4 (G.1 8) x1) 5 (G.1 8) x2) 6 (G.1 8) x3) 7 (G.1 8) x4))) rfl dn_X1_addEnding_40 (fun h => ?_)
  refine zz_aload_n cx dn_X1_addEnding_41 rfl rfl ?_
  refine zz_get cx zi_X1 (v := .ref (ad_p E 17)) (ci := 1) rfl 2 14 rfl (by decide) zk_X1_55 rfl dn_X1_addEnding_42 ?_
  refine zz_iload_n cx dn_X1_addEnding_45 rfl rfl ?_
  refine zz_aload_n cx dn_X1_addEnding_46 rfl rfl ?_
  refine zz_get cx zi_X1 (v := .int (G.1 8)) (ci := 1) rfl 2 17 rfl (by decide) zk_X1_88 rfl dn_X1_addEnding_47 ?_
  refine zz_iast cx 17 0 rfl rfl h (ws2 := (wc_c E (gs_sa (gs_sa (gs_sa (gs_sa (gs_sa G 4 (G.1 8) x1) 5 (G.1 8) x2) 6 (G.1 8) x3) 7 (G.1 8) x4) 14 x2 (G.1 8)))) rfl dn_X1_addEnding_50 (fun h => ?_)
  refine zz_aload_n cx dn_X1_addEnding_51 rfl rfl ?_
  refine zz_dup cx dn_X1_addEnding_52 rfl ?_
  refine zz_get cx zi_X1 (v := .int (G.1 8)) (ci := 1) rfl 2 17 rfl (by decide) zk_X1_88 rfl dn_X1_addEnding_53 ?_
  refine zz_dup_x1 cx dn_X1_addEnding_56 rfl rfl ?_
  refine zz_iconst cx dn_X1_addEnding_57 (v := (1 : Int32)) (by decide) ?_
  refine zz_iadd cx dn_X1_addEnding_58 ?_
  refine zz_put cx (ws2 := (wc_c E (gs_sv (gs_sa (gs_sa (gs_sa (gs_sa (gs_sa G 4 (G.1 8) x1) 5 (G.1 8) x2) 6 (G.1 8) x3) 7 (G.1 8) x4) 14 x2 (G.1 8)) 8 ((G.1 8) + (1 : Int32))))) (ty := .int) (ci := 1) zi_X1 fk_X1 nm_X1 rfl 2 17 rfl (by decide) zk_X1_88 rfl (by decide +kernel) rfl rfl (Nat.le_of_ble_eq_true rfl) rfl dn_X1_addEnding_59 ?_
  cases h
  exact zz_iret cx cq (by decide) (by decide) dn_X1_addEnding_62
set_option maxHeartbeats 4000000 in
set_option maxRecDepth 100000 in
theorem z_cS_moveSign (E : ze_T) (G : gs_T) (x1 x2 : Int32) (r : (Int32 × gs_T)) (h : cS_moveSign G x1 x2 = some r) : zc_i (zF E) (wc_c E G) (wc_c E r.2) yn_X1_moveSign cn_X1_moveSign 4 .int { frames := 0, cells := 0, slots := 0, locals := 0 } [.ref (ad_p E 2), .int x1, .int x2] r.1 := by
  unfold cS_moveSign at h
  refine zc_i_of (by decide) rfl (Nat.le_of_ble_eq_true rfl) (fun X cx cq => ?_)
  refine zz_aload_n cx dn_X1_moveSign_0 rfl rfl ?_
  refine zz_get cx zi_X1 (v := .ref (ad_p E 11)) (ci := 1) rfl 2 8 rfl (by decide) zk_X1_36 rfl dn_X1_moveSign_1 ?_
  refine zz_iload_n cx dn_X1_moveSign_4 rfl rfl ?_
  refine zz_iald cx 11 0 rfl rfl h (v := (gs_a G 8 x1)) rfl dn_X1_moveSign_5 (fun h => ?_)
  refine zz_istore_n cx dn_X1_moveSign_6 rfl (by decide) rfl ?_
  refine zz_aload_n cx dn_X1_moveSign_7 rfl rfl ?_
  refine zz_get cx zi_X1 (v := .ref (ad_p E 11)) (ci := 1) rfl 2 8 rfl (by decide) zk_X1_36 rfl dn_X1_moveSign_8 ?_
  refine zz_iload_n cx dn_X1_moveSign_11 rfl rfl ?_
  refine zz_iload_n cx dn_X1_moveSign_12 rfl rfl ?_
  refine zz_iast cx 11 0 rfl rfl h (ws2 := (wc_c E (gs_sa G 8 x1 x2))) rfl dn_X1_moveSign_13 (fun h => ?_)
  refine zz_iload_n cx dn_X1_moveSign_14 rfl rfl ?_
  cases h
  exact zz_iret cx cq (by decide) (by decide) dn_X1_moveSign_15
set_option maxHeartbeats 4000000 in
set_option maxRecDepth 100000 in
theorem z_cS_hasJump (E : ze_T) (G : gs_T) (x1 : Int32) (r : Int32) (h : cS_hasJump G x1 = some r) : zc_i (zF E) (wc_c E G) (wc_c E G) yn_X1_hasJump cn_X1_hasJump 2 .boolean { frames := 0, cells := 0, slots := 0, locals := 0 } [.ref (ad_p E 2), .int x1] r := by
  unfold cS_hasJump at h
  refine zc_i_of (by decide) rfl (Nat.le_of_ble_eq_true rfl) (fun X cx cq => ?_)
  refine zz_aload_n cx dn_X1_hasJump_0 rfl rfl ?_
  refine zz_get cx zi_X1 (v := .ref (ad_p E 12)) (ci := 1) rfl 2 9 rfl (by decide) zk_X1_39 rfl dn_X1_hasJump_1 ?_
  refine zz_iload_n cx dn_X1_hasJump_4 rfl rfl ?_
  refine zz_iald cx 12 0 rfl rfl h (v := (gs_a G 9 x1)) rfl dn_X1_hasJump_5 (fun h => ?_)
  refine zz_iconst cx dn_X1_hasJump_6 (v := (-1 : Int32)) (by decide) ?_
  refine zz_icmp_eq cx (tgt := 14) dn_X1_hasJump_7 (by decide) h (fun h => ?_) (fun h => ?_)
  · refine zz_iconst cx dn_X1_hasJump_14 (v := (0 : Int32)) (by decide) ?_
    cases h
    exact zz_zret cx cq rfl (by decide) (by decide) dn_X1_hasJump_15
  · refine zz_iconst cx dn_X1_hasJump_10 (v := (1 : Int32)) (by decide) ?_
    refine zz_goto cx dn_X1_hasJump_11 (tgt := 15) (by decide) ?_
    cases h
    exact zz_zret cx cq rfl (by decide) (by decide) dn_X1_hasJump_15
set_option maxHeartbeats 4000000 in
set_option maxRecDepth 100000 in
theorem z_cS_putJump_j18 (E : ze_T) (G : gs_T) (x1 x2 x3 x4 : Int32) (r : gs_T) (X : zx_T) (cx : zx (zF E) X cn_X1_putJump yn_X1_putJump.cls { frames := 1, cells := 0, slots := 0, locals := 21 } 5) (cq : zq_v (zF E) X (wc_c E r)) (h : cS_putJump_j18 G x1 x2 x3 x4 = some r) : zj (zF E) X 0 0 (wc_c E G) 18 [some (.ref (ad_p E 2)), some (.int x1), some (.int x2), some (.int x3), some (.int x4)] [] := by
  unfold cS_putJump_j18 at h
  refine zz_aload_n cx dn_X1_putJump_18 rfl rfl ?_
  refine zz_get cx zi_X1 (v := .ref (ad_p E 12)) (ci := 1) rfl 2 9 rfl (by decide) zk_X1_39 rfl dn_X1_putJump_19 ?_
  refine zz_iload_n cx dn_X1_putJump_22 rfl rfl ?_
  refine zz_iload_n cx dn_X1_putJump_23 rfl rfl ?_
  refine zz_iast cx 12 0 rfl rfl h (ws2 := (wc_c E (gs_sa G 9 x1 x2))) rfl dn_X1_putJump_24 (fun h => ?_)
  refine zz_aload_n cx dn_X1_putJump_25 rfl rfl ?_
  refine zz_get cx zi_X1 (v := .ref (ad_p E 13)) (ci := 1) rfl 2 10 rfl (by decide) zk_X1_42 rfl dn_X1_putJump_26 ?_
  refine zz_iload_n cx dn_X1_putJump_29 rfl rfl ?_
  refine zz_iload_n cx dn_X1_putJump_30 rfl rfl ?_
  refine zz_iast cx 13 0 rfl rfl h (ws2 := (wc_c E (gs_sa (gs_sa G 9 x1 x2) 10 x1 x3))) rfl dn_X1_putJump_31 (fun h => ?_)
  refine zz_aload_n cx dn_X1_putJump_32 rfl rfl ?_
  refine zz_get cx zi_X1 (v := .ref (ad_p E 14)) (ci := 1) rfl 2 11 rfl (by decide) zk_X1_45 rfl dn_X1_putJump_33 ?_
  refine zz_iload_n cx dn_X1_putJump_36 rfl rfl ?_
  refine zz_iload cx dn_X1_putJump_37 rfl ?_
  refine zz_zast cx 14 1 rfl rfl h (ws2 := (wc_c E (gs_sa (gs_sa (gs_sa G 9 x1 x2) 10 x1 x3) 11 x1 (vp_nar .boolean x4)))) rfl dn_X1_putJump_39 (fun h => ?_)
  cases h
  exact zz_vret cx cq (by decide) (by decide) dn_X1_putJump_40
set_option maxHeartbeats 4000000 in
set_option maxRecDepth 100000 in
theorem z_cS_putJump (E : ze_T) (G : gs_T) (x1 x2 x3 x4 : Int32) (r : gs_T) (h : cS_putJump G x1 x2 x3 x4 = some r) : zc_v (zF E) (wc_c E G) (wc_c E r) yn_X1_putJump cn_X1_putJump 5 { frames := 1, cells := 0, slots := 0, locals := 21 } [.ref (ad_p E 2), .int x1, .int x2, .int x3, .int x4] := by
  unfold cS_putJump at h
  refine zc_v_of (by decide) rfl (Nat.le_of_ble_eq_true rfl) (fun X cx cq => ?_)
  refine zz_aload_n cx dn_X1_putJump_0 rfl rfl ?_
  refine zz_iload_n cx dn_X1_putJump_1 rfl rfl ?_
  refine gs_bind h (fun q1 e_q1 h => ?_)
  refine zz_callVi cx (As := [.int x1]) (rest := []) (c2 := 0) (s2 := 0) (z_cS_hasJump E G x1 _ e_q1) zm_X1_hasJump zk_X1_104 zv_X1_hasJump 2 rfl rfl (by decide) rfl (Nat.le_of_ble_eq_true rfl) rfl rfl (by decide) (wc_c_addr E _ _) dn_X1_putJump_2 ?_
  refine zz_if_ne cx (tgt := 18) dn_X1_putJump_5 (by decide) h (fun h => ?_) (fun h => ?_)
  · refine zz_aload_n cx dn_X1_putJump_8 rfl rfl ?_
    refine zz_dup cx dn_X1_putJump_9 rfl ?_
    refine zz_get cx zi_X1 (v := .int (G.1 9)) (ci := 1) rfl 2 18 rfl (by decide) zk_X1_108 rfl dn_X1_putJump_10 ?_
    refine zz_iconst cx dn_X1_putJump_13 (v := (1 : Int32)) (by decide) ?_
    refine zz_iadd cx dn_X1_putJump_14 ?_
    refine zz_put cx (ws2 := (wc_c E (gs_sv G 9 ((G.1 9) + (1 : Int32))))) (ty := .int) (ci := 1) zi_X1 fk_X1 nm_X1 rfl 2 18 rfl (by decide) zk_X1_108 rfl (by decide +kernel) rfl rfl (Nat.le_of_ble_eq_true rfl) rfl dn_X1_putJump_15 ?_
    exact z_cS_putJump_j18 E (gs_sv G 9 ((G.1 9) + (1 : Int32))) x1 x2 x3 x4 _ X cx cq h
  · exact z_cS_putJump_j18 E G x1 x2 x3 x4 _ X cx cq h
set_option maxHeartbeats 4000000 in
set_option maxRecDepth 100000 in
theorem z_cS_takeJump (E : ze_T) (G : gs_T) (x1 : Int32) (r : gs_T) (h : cS_takeJump G x1 = some r) : zc_v (zF E) (wc_c E G) (wc_c E r) yn_X1_takeJump cn_X1_takeJump 2 { frames := 0, cells := 0, slots := 0, locals := 0 } [.ref (ad_p E 2), .int x1] := by
  unfold cS_takeJump at h
  refine zc_v_of (by decide) rfl (Nat.le_of_ble_eq_true rfl) (fun X cx cq => ?_)
  refine zz_aload_n cx dn_X1_takeJump_0 rfl rfl ?_
  refine zz_get cx zi_X1 (v := .ref (ad_p E 12)) (ci := 1) rfl 2 9 rfl (by decide) zk_X1_39 rfl dn_X1_takeJump_1 ?_
  refine zz_iload_n cx dn_X1_takeJump_4 rfl rfl ?_
  refine zz_iconst cx dn_X1_takeJump_5 (v := (-1 : Int32)) (by decide) ?_
  refine zz_iast cx 12 0 rfl rfl h (ws2 := (wc_c E (gs_sa G 9 x1 (-1 : Int32)))) rfl dn_X1_takeJump_6 (fun h => ?_)
  refine zz_aload_n cx dn_X1_takeJump_7 rfl rfl ?_
  refine zz_dup cx dn_X1_takeJump_8 rfl ?_
  refine zz_get cx zi_X1 (v := .int (G.1 9)) (ci := 1) rfl 2 18 rfl (by decide) zk_X1_108 rfl dn_X1_takeJump_9 ?_
  refine zz_iconst cx dn_X1_takeJump_12 (v := (1 : Int32)) (by decide) ?_
  refine zz_isub cx dn_X1_takeJump_13 ?_
  refine zz_put cx (ws2 := (wc_c E (gs_sv (gs_sa G 9 x1 (-1 : Int32)) 9 ((G.1 9) - (1 : Int32))))) (ty := .int) (ci := 1) zi_X1 fk_X1 nm_X1 rfl 2 18 rfl (by decide) zk_X1_108 rfl (by decide +kernel) rfl rfl (Nat.le_of_ble_eq_true rfl) rfl dn_X1_takeJump_14 ?_
  cases h
  exact zz_vret cx cq (by decide) (by decide) dn_X1_takeJump_17
set_option maxHeartbeats 4000000 in
set_option maxRecDepth 100000 in
theorem z_cS_lacksSign (E : ze_T) (G : gs_T) (x1 : Int32) (r : Int32) (h : cS_lacksSign G x1 = some r) : zc_i (zF E) (wc_c E G) (wc_c E G) yn_X1_lacksSign cn_X1_lacksSign 2 .boolean { frames := 0, cells := 0, slots := 0, locals := 0 } [.ref (ad_p E 2), .int x1] r := by
  unfold cS_lacksSign at h
  refine zc_i_of (by decide) rfl (Nat.le_of_ble_eq_true rfl) (fun X cx cq => ?_)
  refine zz_aload_n cx dn_X1_lacksSign_0 rfl rfl ?_
  refine zz_get cx zi_X1 (v := .ref (ad_p E 11)) (ci := 1) rfl 2 8 rfl (by decide) zk_X1_36 rfl dn_X1_lacksSign_1 ?_
  refine zz_iload_n cx dn_X1_lacksSign_4 rfl rfl ?_
  refine zz_iald cx 11 0 rfl rfl h (v := (gs_a G 8 x1)) rfl dn_X1_lacksSign_5 (fun h => ?_)
  refine zz_iconst cx dn_X1_lacksSign_6 (v := (-1 : Int32)) (by decide) ?_
  refine zz_icmp_ne cx (tgt := 14) dn_X1_lacksSign_7 (by decide) h (fun h => ?_) (fun h => ?_)
  · refine zz_iconst cx dn_X1_lacksSign_10 (v := (1 : Int32)) (by decide) ?_
    refine zz_goto cx dn_X1_lacksSign_11 (tgt := 15) (by decide) ?_
    cases h
    exact zz_zret cx cq rfl (by decide) (by decide) dn_X1_lacksSign_15
  · refine zz_iconst cx dn_X1_lacksSign_14 (v := (0 : Int32)) (by decide) ?_
    cases h
    exact zz_zret cx cq rfl (by decide) (by decide) dn_X1_lacksSign_15
set_option maxHeartbeats 4000000 in
set_option maxRecDepth 100000 in
theorem z_cS_faultOfJump_j40 (E : ze_T) (G : gs_T) (x1 : Int32) (r : Int32) (X : zx_T) (cx : zx (zF E) X cn_X1_faultOfJump yn_X1_faultOfJump.cls { frames := 1, cells := 0, slots := 0, locals := 21 } 2) (cq : zq_i (zF E) X (wc_c E G) .int r) (h : cS_faultOfJump_j40 G x1 = some r) : zj (zF E) X 0 0 (wc_c E G) 40 [some (.ref (ad_p E 2)), some (.int x1)] [] := by
  unfold cS_faultOfJump_j40 at h
  refine zz_aload_n cx dn_X1_faultOfJump_40 rfl rfl ?_
  refine zz_get cx zi_X1 (v := .ref (ad_p E 13)) (ci := 1) rfl 2 10 rfl (by decide) zk_X1_42 rfl dn_X1_faultOfJump_41 ?_
  refine zz_iload_n cx dn_X1_faultOfJump_44 rfl rfl ?_
  refine zz_iald cx 13 0 rfl rfl h (v := (gs_a G 10 x1)) rfl dn_X1_faultOfJump_45 (fun h => ?_)
  refine zz_iconst cx dn_X1_faultOfJump_46 (v := (2 : Int32)) (by decide) ?_
  refine zz_icmp_ne cx (tgt := 68) dn_X1_faultOfJump_47 (by decide) h (fun h => ?_) (fun h => ?_)
  · refine zz_aload_n cx dn_X1_faultOfJump_50 rfl rfl ?_
    refine zz_iconst cx dn_X1_faultOfJump_51 (v := (2 : Int32)) (by decide) ?_
    refine gs_bind h (fun q1 e_q1 h => ?_)
    refine zz_callVi cx (As := [.int (2 : Int32)]) (rest := []) (c2 := 0) (s2 := 0) (z_cS_lacksSign E G (2 : Int32) _ e_q1) zm_X1_lacksSign zk_X1_111 zv_X1_lacksSign 2 rfl rfl (by decide) rfl (Nat.le_of_ble_eq_true rfl) rfl rfl (by decide) (wc_c_addr E _ _) dn_X1_faultOfJump_52 ?_
    refine zz_if_ne cx (tgt := 66) dn_X1_faultOfJump_55 (by decide) h (fun h => ?_) (fun h => ?_)
    · refine zz_aload_n cx dn_X1_faultOfJump_58 rfl rfl ?_
      refine zz_iconst cx dn_X1_faultOfJump_59 (v := (1 : Int32)) (by decide) ?_
      refine gs_bind h (fun q2 e_q2 h => ?_)
      refine zz_callVi cx (As := [.int (1 : Int32)]) (rest := []) (c2 := 0) (s2 := 0) (z_cS_lacksSign E G (1 : Int32) _ e_q2) zm_X1_lacksSign zk_X1_111 zv_X1_lacksSign 2 rfl rfl (by decide) rfl (Nat.le_of_ble_eq_true rfl) rfl rfl (by decide) (wc_c_addr E _ _) dn_X1_faultOfJump_60 ?_
      refine zz_if_eq cx (tgt := 68) dn_X1_faultOfJump_63 (by decide) h (fun h => ?_) (fun h => ?_)
      · refine zz_iconst cx dn_X1_faultOfJump_68 (v := (0 : Int32)) (by decide) ?_
        cases h
        exact zz_iret cx cq (by decide) (by decide) dn_X1_faultOfJump_69
      · refine zz_iconst cx dn_X1_faultOfJump_66 (v := (3 : Int32)) (by decide) ?_
        cases h
        exact zz_iret cx cq (by decide) (by decide) dn_X1_faultOfJump_67
    · refine zz_iconst cx dn_X1_faultOfJump_66 (v := (3 : Int32)) (by decide) ?_
      cases h
      exact zz_iret cx cq (by decide) (by decide) dn_X1_faultOfJump_67
  · refine zz_iconst cx dn_X1_faultOfJump_68 (v := (0 : Int32)) (by decide) ?_
    cases h
    exact zz_iret cx cq (by decide) (by decide) dn_X1_faultOfJump_69
set_option maxHeartbeats 4000000 in
set_option maxRecDepth 100000 in
theorem z_cS_faultOfJump_j20 (E : ze_T) (G : gs_T) (x1 : Int32) (r : Int32) (X : zx_T) (cx : zx (zF E) X cn_X1_faultOfJump yn_X1_faultOfJump.cls { frames := 1, cells := 0, slots := 0, locals := 21 } 2) (cq : zq_i (zF E) X (wc_c E G) .int r) (h : cS_faultOfJump_j20 G x1 = some r) : zj (zF E) X 0 0 (wc_c E G) 20 [some (.ref (ad_p E 2)), some (.int x1)] [] := by
  unfold cS_faultOfJump_j20 at h
  refine zz_aload_n cx dn_X1_faultOfJump_20 rfl rfl ?_
  refine zz_get cx zi_X1 (v := .ref (ad_p E 13)) (ci := 1) rfl 2 10 rfl (by decide) zk_X1_42 rfl dn_X1_faultOfJump_21 ?_
  refine zz_iload_n cx dn_X1_faultOfJump_24 rfl rfl ?_
  refine zz_iald cx 13 0 rfl rfl h (v := (gs_a G 10 x1)) rfl dn_X1_faultOfJump_25 (fun h => ?_)
  refine zz_iconst cx dn_X1_faultOfJump_26 (v := (1 : Int32)) (by decide) ?_
  refine zz_icmp_ne cx (tgt := 40) dn_X1_faultOfJump_27 (by decide) h (fun h => ?_) (fun h => ?_)
  · refine zz_aload_n cx dn_X1_faultOfJump_30 rfl rfl ?_
    refine zz_iconst cx dn_X1_faultOfJump_31 (v := (3 : Int32)) (by decide) ?_
    refine gs_bind h (fun q1 e_q1 h => ?_)
    refine zz_callVi cx (As := [.int (3 : Int32)]) (rest := []) (c2 := 0) (s2 := 0) (z_cS_lacksSign E G (3 : Int32) _ e_q1) zm_X1_lacksSign zk_X1_111 zv_X1_lacksSign 2 rfl rfl (by decide) rfl (Nat.le_of_ble_eq_true rfl) rfl rfl (by decide) (wc_c_addr E _ _) dn_X1_faultOfJump_32 ?_
    refine zz_if_eq cx (tgt := 40) dn_X1_faultOfJump_35 (by decide) h (fun h => ?_) (fun h => ?_)
    · exact z_cS_faultOfJump_j40 E G x1 _ X cx cq h
    · refine zz_iconst cx dn_X1_faultOfJump_38 (v := (2 : Int32)) (by decide) ?_
      cases h
      exact zz_iret cx cq (by decide) (by decide) dn_X1_faultOfJump_39
  · exact z_cS_faultOfJump_j40 E G x1 _ X cx cq h
set_option maxHeartbeats 4000000 in
set_option maxRecDepth 100000 in
theorem z_cS_faultOfJump (E : ze_T) (G : gs_T) (x1 : Int32) (r : Int32) (h : cS_faultOfJump G x1 = some r) : zc_i (zF E) (wc_c E G) (wc_c E G) yn_X1_faultOfJump cn_X1_faultOfJump 2 .int { frames := 1, cells := 0, slots := 0, locals := 21 } [.ref (ad_p E 2), .int x1] r := by
  unfold cS_faultOfJump at h
  refine zc_i_of (by decide) rfl (Nat.le_of_ble_eq_true rfl) (fun X cx cq => ?_)
  refine zz_aload_n cx dn_X1_faultOfJump_0 rfl rfl ?_
  refine zz_get cx zi_X1 (v := .ref (ad_p E 12)) (ci := 1) rfl 2 9 rfl (by decide) zk_X1_39 rfl dn_X1_faultOfJump_1 ?_
  refine zz_iload_n cx dn_X1_faultOfJump_4 rfl rfl ?_
  refine zz_iald cx 12 0 rfl rfl h (v := (gs_a G 9 x1)) rfl dn_X1_faultOfJump_5 (fun h => ?_)
  refine zz_iconst cx dn_X1_faultOfJump_6 (v := (1 : Int32)) (by decide) ?_
  refine zz_icmp_ne cx (tgt := 20) dn_X1_faultOfJump_7 (by decide) h (fun h => ?_) (fun h => ?_)
  · refine zz_aload_n cx dn_X1_faultOfJump_10 rfl rfl ?_
    refine zz_iconst cx dn_X1_faultOfJump_11 (v := (0 : Int32)) (by decide) ?_
    refine gs_bind h (fun q1 e_q1 h => ?_)
    refine zz_callVi cx (As := [.int (0 : Int32)]) (rest := []) (c2 := 0) (s2 := 0) (z_cS_lacksSign E G (0 : Int32) _ e_q1) zm_X1_lacksSign zk_X1_111 zv_X1_lacksSign 2 rfl rfl (by decide) rfl (Nat.le_of_ble_eq_true rfl) rfl rfl (by decide) (wc_c_addr E _ _) dn_X1_faultOfJump_12 ?_
    refine zz_if_eq cx (tgt := 20) dn_X1_faultOfJump_15 (by decide) h (fun h => ?_) (fun h => ?_)
    · exact z_cS_faultOfJump_j20 E G x1 _ X cx cq h
    · refine zz_iconst cx dn_X1_faultOfJump_18 (v := (1 : Int32)) (by decide) ?_
      cases h
      exact zz_iret cx cq (by decide) (by decide) dn_X1_faultOfJump_19
  · exact z_cS_faultOfJump_j20 E G x1 _ X cx cq h
set_option maxHeartbeats 4000000 in
set_option maxRecDepth 100000 in
theorem z_cS_repeatAround (E : ze_T) (G : gs_T) (x1 x2 : Int32) (r : Int32) (h : cS_repeatAround G x1 x2 = some r) : zc_i (zF E) (wc_c E G) (wc_c E G) yn_X1_repeatAround cn_X1_repeatAround 3 .int { frames := 0, cells := 0, slots := 0, locals := 0 } [.ref (ad_p E 2), .int x1, .int x2] r := by
  unfold cS_repeatAround at h
  refine zc_i_of (by decide) rfl (Nat.le_of_ble_eq_true rfl) (fun X cx cq => ?_)
  refine zz_aload_n cx dn_X1_repeatAround_0 rfl rfl ?_
  refine zz_get cx zi_X1 (v := .ref (ad_p E 15)) (ci := 1) rfl 2 12 rfl (by decide) zk_X1_49 rfl dn_X1_repeatAround_1 ?_
  refine zz_iload_n cx dn_X1_repeatAround_4 rfl rfl ?_
  refine zz_iconst cx dn_X1_repeatAround_5 (v := (3 : Int32)) (by decide) ?_
  refine zz_imul cx dn_X1_repeatAround_6 ?_
  refine zz_iload_n cx dn_X1_repeatAround_7 rfl rfl ?_
  refine zz_iadd cx dn_X1_repeatAround_8 ?_
  refine zz_iald cx 15 0 rfl rfl h (v := (gs_a G 12 ((x1 * (3 : Int32)) + x2))) rfl dn_X1_repeatAround_9 (fun h => ?_)
  cases h
  exact zz_iret cx cq (by decide) (by decide) dn_X1_repeatAround_10
set_option maxHeartbeats 4000000 in
set_option maxRecDepth 100000 in
theorem z_cS_isRepeatWithinEnding (E : ze_T) (G : gs_T) (x1 x2 : Int32) (r : Int32) (h : cS_isRepeatWithinEnding G x1 x2 = some r) : zc_i (zF E) (wc_c E G) (wc_c E G) yn_X1_isRepeatWithinEnding cn_X1_isRepeatWithinEnding 3 .boolean { frames := 1, cells := 0, slots := 0, locals := 23 } [.ref (ad_p E 2), .int x1, .int x2] r := by
  unfold cS_isRepeatWithinEnding at h
  refine zc_i_of (by decide) rfl (Nat.le_of_ble_eq_true rfl) (fun X cx cq => ?_)
  refine zz_aload_n cx dn_X1_isRepeatWithinEnding_0 rfl rfl ?_
  refine zz_get cx zi_X1 (v := .ref (ad_p E 4)) (ci := 1) rfl 2 1 rfl (by decide) zk_X1_15 rfl dn_X1_isRepeatWithinEnding_1 ?_
  refine zz_iload_n cx dn_X1_isRepeatWithinEnding_4 rfl rfl ?_
  refine zz_iald cx 4 0 rfl rfl h (v := (gs_a G 1 x1)) rfl dn_X1_isRepeatWithinEnding_5 (fun h => ?_)
  refine zz_aload_n cx dn_X1_isRepeatWithinEnding_6 rfl rfl ?_
  refine zz_get cx zi_X1 (v := .ref (ad_p E 5)) (ci := 1) rfl 2 2 rfl (by decide) zk_X1_18 rfl dn_X1_isRepeatWithinEnding_7 ?_
  refine zz_iload_n cx dn_X1_isRepeatWithinEnding_10 rfl rfl ?_
  refine zz_iald cx 5 0 rfl rfl h (v := (gs_a G 2 x1)) rfl dn_X1_isRepeatWithinEnding_11 (fun h => ?_)
  refine zz_aload_n cx dn_X1_isRepeatWithinEnding_12 rfl rfl ?_
  refine zz_get cx zi_X1 (v := .ref (ad_p E 8)) (ci := 1) rfl 2 5 rfl (by decide) zk_X1_27 rfl dn_X1_isRepeatWithinEnding_13 ?_
  refine zz_iload_n cx dn_X1_isRepeatWithinEnding_16 rfl rfl ?_
  refine zz_iald cx 8 0 rfl rfl h (v := (gs_a G 5 x2)) rfl dn_X1_isRepeatWithinEnding_17 (fun h => ?_)
  refine zz_aload_n cx dn_X1_isRepeatWithinEnding_18 rfl rfl ?_
  refine zz_get cx zi_X1 (v := .ref (ad_p E 9)) (ci := 1) rfl 2 6 rfl (by decide) zk_X1_30 rfl dn_X1_isRepeatWithinEnding_19 ?_
  refine zz_iload_n cx dn_X1_isRepeatWithinEnding_22 rfl rfl ?_
  refine zz_iald cx 9 0 rfl rfl h (v := (gs_a G 6 x2)) rfl dn_X1_isRepeatWithinEnding_23 (fun h => ?_)
  refine gs_bind h (fun q1 e_q1 h => ?_)
  refine zz_callSi cx (As := [.int (gs_a G 1 x1), .int (gs_a G 2 x1), .int (gs_a G 5 x2), .int (gs_a G 6 x2)]) (rest := []) (c2 := 0) (s2 := 0) (z_cS_liesWithin E G (gs_a G 1 x1) (gs_a G 2 x1) (gs_a G 5 x2) (gs_a G 6 x2) _ e_q1) zm_X1_liesWithin zk_X1_71 zs_X1_liesWithin (by decide) rfl (Nat.le_of_ble_eq_true rfl) rfl rfl (by decide) (wc_c_addr E _ _) dn_X1_isRepeatWithinEnding_24 ?_
  obtain ⟨hz, h⟩ := gs_bz_some h
  cases h
  exact zz_zret cx cq (gs_narz hz) (by decide) (by decide) dn_X1_isRepeatWithinEnding_27
end
section
set_option maxHeartbeats 4000000 in
set_option maxRecDepth 100000 in
theorem z_cW_leaveAll (E : ze_T) (G : gs_T) (r : gs_T) (h : cW_leaveAll G = some r) : zc_v (zF E) (wc_c E G) (wc_c E r) yn_X2_leaveAll cn_X2_leaveAll 1 { frames := 1, cells := 0, slots := 0, locals := 23 } [.ref (ad_p E 1)] := by
  unfold cW_leaveAll at h
  refine zc_v_of (by decide) rfl (Nat.le_of_ble_eq_true rfl) (fun X cx cq => ?_)
  refine zz_aload_n cx dn_X2_leaveAll_0 rfl rfl ?_
  refine zz_get cx zi_X2 (v := .ref (ad_p E 24)) (ci := 2) rfl 1 7 rfl (by decide) zk_X2_37 rfl dn_X2_leaveAll_1 ?_
  refine zz_iconst cx dn_X2_leaveAll_4 (v := (0 : Int32)) (by decide) ?_
  refine zf_fill cx 24 rfl rfl (by decide) (ws2 := (wc_c E (gs_sf G 21 (0 : Int32)))) rfl zk_X2_77 (by decide) (Nat.le_of_ble_eq_true rfl) (by decide) dn_X2_leaveAll_5 ?_
  cases h
  exact zz_vret cx cq (by decide) (by decide) dn_X2_leaveAll_8
set_option maxHeartbeats 4000000 in
set_option maxRecDepth 100000 in
theorem z_cW_forget_38 (E : ze_T) (n : Nat) (r : gs_T) (X : zx_T) (cx : zx (zF E) X cn_X2_forget yn_X2_forget.cls { frames := 2, cells := 0, slots := 0, locals := 43 } 2) (cq : zq_v (zF E) X (wc_c E r)) : ∀ (k : Nat) (x1 : Int32) (G : gs_T), cW_forget_38 n k x1 G = some r → zj (zF E) X 0 0 (wc_c E G) 38 [some (.ref (ad_p E 1)), some (.int x1)] [] := by
  intro k
  induction k with
  | zero => intro x1 G h; cases h
  | succ k ih =>
    intro x1 G h
    rw [cW_forget_38] at h
    refine zz_iload_n cx dn_X2_forget_38 rfl rfl ?_
    refine zz_bipush cx dn_X2_forget_39 (v := (60 : Int32)) (by decide) ?_
    refine zz_icmp_ge cx (tgt := 57) dn_X2_forget_41 (by decide) h (fun h => ?_) (fun h => ?_)
    · refine zz_aload_n cx dn_X2_forget_57 rfl rfl ?_
      refine gs_bind h (fun q1 e_q1 h => ?_)
      refine zz_callVv cx (As := []) (rest := []) (c2 := 0) (s2 := 0) (z_cW_leaveAll E G _ e_q1) zm_X2_leaveAll zk_X2_83 zv_X2_leaveAll 1 rfl rfl (by decide) rfl (Nat.le_of_ble_eq_true rfl) rfl rfl (by decide) (wc_c_addr E _ _) dn_X2_forget_58 ?_
      cases h
      exact zz_vret cx cq (by decide) (by decide) dn_X2_forget_61
    · refine zz_aload_n cx dn_X2_forget_44 rfl rfl ?_
      refine zz_get cx zi_X2 (v := .ref (ad_p E 25)) (ci := 2) rfl 1 8 rfl (by decide) zk_X2_40 rfl dn_X2_forget_45 ?_
      refine zz_iload_n cx dn_X2_forget_48 rfl rfl ?_
      refine zz_iconst cx dn_X2_forget_49 (v := (0 : Int32)) (by decide) ?_
      refine zz_zast cx 25 1 rfl rfl h (ws2 := (wc_c E (gs_sa G 22 x1 (vp_nar .boolean (0 : Int32))))) rfl dn_X2_forget_50 (fun h => ?_)
      refine zz_iinc cx dn_X2_forget_51 (d := (1 : Int32)) rfl (by decide) (by decide) rfl ?_
      refine zz_goto cx dn_X2_forget_54 (tgt := 38) (by decide) ?_
      exact ih (x1 + (1 : Int32)) (gs_sa G 22 x1 (vp_nar .boolean (0 : Int32))) h
set_option maxHeartbeats 4000000 in
set_option maxRecDepth 100000 in
theorem z_cW_forget (E : ze_T) (n : Nat) (G : gs_T) (r : gs_T) (h : cW_forget n G = some r) : zc_v (zF E) (wc_c E G) (wc_c E r) yn_X2_forget cn_X2_forget 2 { frames := 2, cells := 0, slots := 0, locals := 43 } [.ref (ad_p E 1)] := by
  unfold cW_forget at h
  refine zc_v_of (by decide) rfl (Nat.le_of_ble_eq_true rfl) (fun X cx cq => ?_)
  refine zz_aload_n cx dn_X2_forget_0 rfl rfl ?_
  refine zz_iconst cx dn_X2_forget_1 (v := (0 : Int32)) (by decide) ?_
  refine zz_put cx (ws2 := (wc_c E (gs_sv G 0 (0 : Int32)))) (ty := .int) (ci := 2) zi_X2 fk_X2 nm_X2 rfl 1 9 rfl (by decide) zk_X2_67 rfl (by decide +kernel) rfl rfl (Nat.le_of_ble_eq_true rfl) rfl dn_X2_forget_2 ?_
  refine zz_aload_n cx dn_X2_forget_5 rfl rfl ?_
  refine zz_iconst cx dn_X2_forget_6 (v := (0 : Int32)) (by decide) ?_
  refine zz_put cx (ws2 := (wc_c E (gs_sv (gs_sv G 0 (0 : Int32)) 1 (0 : Int32)))) (ty := .int) (ci := 2) zi_X2 fk_X2 nm_X2 rfl 1 10 rfl (by decide) zk_X2_70 rfl (by decide +kernel) rfl rfl (Nat.le_of_ble_eq_true rfl) rfl dn_X2_forget_7 ?_
  refine zz_aload_n cx dn_X2_forget_10 rfl rfl ?_
  refine zz_iconst cx dn_X2_forget_11 (v := (-1 : Int32)) (by decide) ?_
  refine zz_put cx (ws2 := (wc_c E (gs_sv (gs_sv (gs_sv G 0 (0 : Int32)) 1 (0 : Int32)) 2 (-1 : Int32)))) (ty := .int) (ci := 2) zi_X2 fk_X2 nm_X2 rfl 1 11 rfl (by decide) zk_X2_44 rfl (by decide +kernel) rfl rfl (Nat.le_of_ble_eq_true rfl) rfl dn_X2_forget_12 ?_
  refine zz_aload_n cx dn_X2_forget_15 rfl rfl ?_
  refine zz_iconst cx dn_X2_forget_16 (v := (0 : Int32)) (by decide) ?_
  refine zz_put cx (ws2 := (wc_c E (gs_sv (gs_sv (gs_sv (gs_sv G 0 (0 : Int32)) 1 (0 : Int32)) 2 (-1 : Int32)) 3 (0 : Int32)))) (ty := .boolean) (ci := 2) zi_X2 fk_X2 nm_X2 rfl 1 12 rfl (by decide) zk_X2_73 rfl (by decide +kernel) rfl rfl (Nat.le_of_ble_eq_true rfl) rfl dn_X2_forget_17 ?_
  refine zz_aload_n cx dn_X2_forget_20 rfl rfl ?_
  refine zz_get cx zi_X2 (v := .ref (ad_p E 22)) (ci := 2) rfl 1 5 rfl (by decide) zk_X2_31 rfl dn_X2_forget_21 ?_
  refine zz_iconst cx dn_X2_forget_24 (v := (0 : Int32)) (by decide) ?_
  refine zf_fill cx 22 rfl rfl (by decide) (ws2 := (wc_c E (gs_sf (gs_sv (gs_sv (gs_sv (gs_sv G 0 (0 : Int32)) 1 (0 : Int32)) 2 (-1 : Int32)) 3 (0 : Int32)) 19 (0 : Int32)))) rfl zk_X2_77 (by decide) (Nat.le_of_ble_eq_true rfl) (by decide) dn_X2_forget_25 ?_
  refine zz_aload_n cx dn_X2_forget_28 rfl rfl ?_
  refine zz_get cx zi_X2 (v := .ref (ad_p E 23)) (ci := 2) rfl 1 6 rfl (by decide) zk_X2_34 rfl dn_X2_forget_29 ?_
  refine zz_iconst cx dn_X2_forget_32 (v := (0 : Int32)) (by decide) ?_
  refine zf_fill cx 23 rfl rfl (by decide) (ws2 := (wc_c E (gs_sf (gs_sf (gs_sv (gs_sv (gs_sv (gs_sv G 0 (0 : Int32)) 1 (0 : Int32)) 2 (-1 : Int32)) 3 (0 : Int32)) 19 (0 : Int32)) 20 (0 : Int32)))) rfl zk_X2_77 (by decide) (Nat.le_of_ble_eq_true rfl) (by decide) dn_X2_forget_33 ?_
  refine zz_iconst cx dn_X2_forget_36 (v := (0 : Int32)) (by decide) ?_
  refine zz_istore_n cx dn_X2_forget_37 rfl (by decide) rfl ?_
  exact z_cW_forget_38 E n _ X cx cq n (0 : Int32) (gs_sf (gs_sf (gs_sv (gs_sv (gs_sv (gs_sv G 0 (0 : Int32)) 1 (0 : Int32)) 2 (-1 : Int32)) 3 (0 : Int32)) 19 (0 : Int32)) 20 (0 : Int32)) h
set_option maxHeartbeats 4000000 in
set_option maxRecDepth 100000 in
theorem z_cW_setFault (E : ze_T) (G : gs_T) (x1 x2 : Int32) (r : gs_T) (h : cW_setFault G x1 x2 = some r) : zc_v (zF E) (wc_c E G) (wc_c E r) yn_X2_setFault cn_X2_setFault 3 { frames := 0, cells := 0, slots := 0, locals := 0 } [.ref (ad_p E 1), .int x1, .int x2] := by
  unfold cW_setFault at h
  refine zc_v_of (by decide) rfl (Nat.le_of_ble_eq_true rfl) (fun X cx cq => ?_)
  refine zz_aload_n cx dn_X2_setFault_0 rfl rfl ?_
  refine zz_iload_n cx dn_X2_setFault_1 rfl rfl ?_
  refine zz_put cx (ws2 := (wc_c E (gs_sv G 4 x1))) (ty := .int) (ci := 2) zi_X2 fk_X2 nm_X2 rfl 1 13 rfl (by decide) zk_X2_48 rfl (by decide +kernel) rfl rfl (Nat.le_of_ble_eq_true rfl) rfl dn_X2_setFault_2 ?_
  refine zz_aload_n cx dn_X2_setFault_5 rfl rfl ?_
  refine zz_iload_n cx dn_X2_setFault_6 rfl rfl ?_
  refine zz_put cx (ws2 := (wc_c E (gs_sv (gs_sv G 4 x1) 5 x2))) (ty := .int) (ci := 2) zi_X2 fk_X2 nm_X2 rfl 1 14 rfl (by decide) zk_X2_51 rfl (by decide +kernel) rfl rfl (Nat.le_of_ble_eq_true rfl) rfl dn_X2_setFault_7 ?_
  cases h
  exact zz_vret cx cq (by decide) (by decide) dn_X2_setFault_10
set_option maxHeartbeats 4000000 in
set_option maxRecDepth 100000 in
theorem z_cW_findFaultOfJumps_2 (E : ze_T) (n : Nat) (r : gs_T) (X : zx_T) (cx : zx (zF E) X cn_X2_findFaultOfJumps yn_X2_findFaultOfJumps.cls { frames := 2, cells := 0, slots := 0, locals := 42 } 3) (cq : zq_v (zF E) X (wc_c E r)) : ∀ (k : Nat) (x1 : Int32) (G : gs_T), cW_findFaultOfJumps_2 n k x1 G = some r → zj (zF E) X 0 0 (wc_c E G) 2 [some (.ref (ad_p E 1)), some (.int x1), none] [] := by
  intro k
  induction k with
  | zero => intro x1 G h; cases h
  | succ k ih =>
    intro x1 G h
    rw [cW_findFaultOfJumps_2] at h
    refine zz_iload_n cx dn_X2_findFaultOfJumps_2 rfl rfl ?_
    refine zz_aload_n cx dn_X2_findFaultOfJumps_3 rfl rfl ?_
    refine zz_get cx zi_X2 (v := .ref (ad_p E 2)) (ci := 2) rfl 1 0 rfl (by decide) zk_X2_12 rfl dn_X2_findFaultOfJumps_4 ?_
    refine zz_getN cx zi_X1 (v := .int (G.1 6)) (ci := 1) rfl 2 15 rfl (by decide) zk_X2_86 rfl dn_X2_findFaultOfJumps_7 ?_
    refine zz_icmp_ge cx (tgt := 60) dn_X2_findFaultOfJumps_10 (by decide) h (fun h => ?_) (fun h => ?_)
    · cases h
      exact zz_vret cx cq (by decide) (by decide) dn_X2_findFaultOfJumps_60
    · refine zz_aload_n cx dn_X2_findFaultOfJumps_13 rfl rfl ?_
      refine zz_get cx zi_X2 (v := .int (G.1 4)) (ci := 2) rfl 1 13 rfl (by decide) zk_X2_48 rfl dn_X2_findFaultOfJumps_14 ?_
      refine zz_if_ne cx (tgt := 60) dn_X2_findFaultOfJumps_17 (by decide) h (fun h => ?_) (fun h => ?_)
      · refine zz_aload_n cx dn_X2_findFaultOfJumps_20 rfl rfl ?_
        refine zz_get cx zi_X2 (v := .ref (ad_p E 2)) (ci := 2) rfl 1 0 rfl (by decide) zk_X2_12 rfl dn_X2_findFaultOfJumps_21 ?_
        refine zz_iload_n cx dn_X2_findFaultOfJumps_24 rfl rfl ?_
        refine gs_bind h (fun q1 e_q1 h => ?_)
        refine zz_callVNi cx (As := [.int x1]) (rest := []) (c2 := 0) (s2 := 0) (z_cS_hasJump E G x1 _ e_q1) zm_X1_hasJump zk_X2_89 zv_X1_hasJump 2 rfl rfl (by decide) rfl (Nat.le_of_ble_eq_true rfl) rfl rfl (by decide) (wc_c_addr E _ _) dn_X2_findFaultOfJumps_25 ?_
        refine zz_if_eq cx (tgt := 54) dn_X2_findFaultOfJumps_28 (by decide) h (fun h => ?_) (fun h => ?_)
        · refine zz_iinc cx dn_X2_findFaultOfJumps_54 (d := (1 : Int32)) rfl (by decide) (by decide) rfl ?_
          refine zz_goto cx dn_X2_findFaultOfJumps_57 (tgt := 2) (by decide) ?_
          exact ih (x1 + (1 : Int32)) G h
        · refine zz_aload_n cx dn_X2_findFaultOfJumps_31 rfl rfl ?_
          refine zz_get cx zi_X2 (v := .ref (ad_p E 2)) (ci := 2) rfl 1 0 rfl (by decide) zk_X2_12 rfl dn_X2_findFaultOfJumps_32 ?_
          refine zz_iload_n cx dn_X2_findFaultOfJumps_35 rfl rfl ?_
          refine gs_bind h (fun q2 e_q2 h => ?_)
          refine zz_callVNi cx (As := [.int x1]) (rest := []) (c2 := 0) (s2 := 0) (z_cS_faultOfJump E G x1 _ e_q2) zm_X1_faultOfJump zk_X2_93 zv_X1_faultOfJump 2 rfl rfl (by decide) rfl (Nat.le_of_ble_eq_true rfl) rfl rfl (by decide) (wc_c_addr E _ _) dn_X2_findFaultOfJumps_36 ?_
          refine zz_istore_n cx dn_X2_findFaultOfJumps_39 rfl (by decide) rfl ?_
          refine zz_aload_n cx dn_X2_findFaultOfJumps_40 rfl rfl ?_
          refine zz_iload_n cx dn_X2_findFaultOfJumps_41 rfl rfl ?_
          refine zz_iload_n cx dn_X2_findFaultOfJumps_42 rfl rfl ?_
          refine zz_if_ne cx (tgt := 50) dn_X2_findFaultOfJumps_43 (by decide) h (fun h => ?_) (fun h => ?_)
          · refine zz_iconst cx dn_X2_findFaultOfJumps_46 (v := (-1 : Int32)) (by decide) ?_
            refine zz_goto cx dn_X2_findFaultOfJumps_47 (tgt := 51) (by decide) ?_
            refine gs_bind h (fun q4 e_q4 h => ?_)
            refine zz_callVv cx (As := [.int q2, .int (-1 : Int32)]) (rest := []) (c2 := 0) (s2 := 0) (z_cW_setFault E G q2 (-1 : Int32) _ e_q4) zm_X2_setFault zk_X2_57 zv_X2_setFault 1 rfl rfl (by decide) rfl (Nat.le_of_ble_eq_true rfl) rfl rfl (by decide) (wc_c_addr E _ _) dn_X2_findFaultOfJumps_51 ?_
            refine zz_iinc cx dn_X2_findFaultOfJumps_54 (d := (1 : Int32)) rfl (by decide) (by decide) rfl ?_
            refine zz_goto cx dn_X2_findFaultOfJumps_57 (tgt := 2) (by decide) ?_
            refine zz_less (L2 := [some (.ref (ad_p E 1)), some (.int (x1 + (1 : Int32))), none]) (⟨rfl, rfl, trivial⟩) ?_
            exact ih (x1 + (1 : Int32)) q4 h
          · refine zz_iload_n cx dn_X2_findFaultOfJumps_50 rfl rfl ?_
            refine gs_bind h (fun q3 e_q3 h => ?_)
            refine zz_callVv cx (As := [.int q2, .int x1]) (rest := []) (c2 := 0) (s2 := 0) (z_cW_setFault E G q2 x1 _ e_q3) zm_X2_setFault zk_X2_57 zv_X2_setFault 1 rfl rfl (by decide) rfl (Nat.le_of_ble_eq_true rfl) rfl rfl (by decide) (wc_c_addr E _ _) dn_X2_findFaultOfJumps_51 ?_
            refine zz_iinc cx dn_X2_findFaultOfJumps_54 (d := (1 : Int32)) rfl (by decide) (by decide) rfl ?_
            refine zz_goto cx dn_X2_findFaultOfJumps_57 (tgt := 2) (by decide) ?_
            refine zz_less (L2 := [some (.ref (ad_p E 1)), some (.int (x1 + (1 : Int32))), none]) (⟨rfl, rfl, trivial⟩) ?_
            exact ih (x1 + (1 : Int32)) q3 h
      · cases h
        exact zz_vret cx cq (by decide) (by decide) dn_X2_findFaultOfJumps_60
set_option maxHeartbeats 4000000 in
set_option maxRecDepth 100000 in
theorem z_cW_findFaultOfJumps (E : ze_T) (n : Nat) (G : gs_T) (r : gs_T) (h : cW_findFaultOfJumps n G = some r) : zc_v (zF E) (wc_c E G) (wc_c E r) yn_X2_findFaultOfJumps cn_X2_findFaultOfJumps 3 { frames := 2, cells := 0, slots := 0, locals := 42 } [.ref (ad_p E 1)] := by
  unfold cW_findFaultOfJumps at h
  refine zc_v_of (by decide) rfl (Nat.le_of_ble_eq_true rfl) (fun X cx cq => ?_)
  refine zz_iconst cx dn_X2_findFaultOfJumps_0 (v := (0 : Int32)) (by decide) ?_
  refine zz_istore_n cx dn_X2_findFaultOfJumps_1 rfl (by decide) rfl ?_
  exact z_cW_findFaultOfJumps_2 E n _ X cx cq n (0 : Int32) G h
set_option maxHeartbeats 4000000 in
set_option maxRecDepth 100000 in
theorem z_cW_openAround_31 (E : ze_T) (n : Nat) (x1 x2 : Int32) (r : gs_T) (X : zx_T) (cx : zx (zF E) X cn_X2_openAround yn_X2_openAround.cls { frames := 1, cells := 0, slots := 0, locals := 22 } 5) (cq : zq_v (zF E) X (wc_c E r)) : ∀ (k : Nat) (x3 : Int32) (G : gs_T), cW_openAround_31 n x1 x2 k x3 G = some r → zj (zF E) X 0 0 (wc_c E G) 31 [some (.ref (ad_p E 1)), some (.int x1), some (.int x2), some (.int x3), none] [] := by
  intro k
  induction k with
  | zero => intro x3 G h; cases h
  | succ k ih =>
    intro x3 G h
    rw [cW_openAround_31] at h
    refine zz_iload_n cx dn_X2_openAround_31 rfl rfl ?_
    refine zz_aload_n cx dn_X2_openAround_32 rfl rfl ?_
    refine zz_get cx zi_X2 (v := .ref (ad_p E 2)) (ci := 2) rfl 1 0 rfl (by decide) zk_X2_12 rfl dn_X2_openAround_33 ?_
    refine zz_getN cx zi_X1 (v := .ref (ad_p E 16)) (ci := 1) rfl 2 13 rfl (by decide) zk_X2_129 rfl dn_X2_openAround_36 ?_
    refine zz_iload_n cx dn_X2_openAround_39 rfl rfl ?_
    refine zz_iald cx 16 0 rfl rfl h (v := (gs_a G 13 x1)) rfl dn_X2_openAround_40 (fun h => ?_)
    refine zz_icmp_ge cx (tgt := 96) dn_X2_openAround_41 (by decide) h (fun h => ?_) (fun h => ?_)
    · cases h
      exact zz_vret cx cq (by decide) (by decide) dn_X2_openAround_96
    · refine zz_aload_n cx dn_X2_openAround_44 rfl rfl ?_
      refine zz_get cx zi_X2 (v := .ref (ad_p E 2)) (ci := 2) rfl 1 0 rfl (by decide) zk_X2_12 rfl dn_X2_openAround_45 ?_
      refine zz_iload_n cx dn_X2_openAround_48 rfl rfl ?_
      refine zz_iload_n cx dn_X2_openAround_49 rfl rfl ?_
      refine gs_bind h (fun q1 e_q1 h => ?_)
      refine zz_callVNi cx (As := [.int x1, .int x3]) (rest := []) (c2 := 0) (s2 := 0) (z_cS_repeatAround E G x1 x3 _ e_q1) zm_X1_repeatAround zk_X2_132 zv_X1_repeatAround 2 rfl rfl (by decide) rfl (Nat.le_of_ble_eq_true rfl) rfl rfl (by decide) (wc_c_addr E _ _) dn_X2_openAround_50 ?_
      refine zz_istore cx dn_X2_openAround_53 (by decide) rfl ?_
      refine zz_aload_n cx dn_X2_openAround_55 rfl rfl ?_
      refine zz_get cx zi_X2 (v := .ref (ad_p E 24)) (ci := 2) rfl 1 7 rfl (by decide) zk_X2_37 rfl dn_X2_openAround_56 ?_
      refine zz_iload cx dn_X2_openAround_59 rfl ?_
      refine zz_iald cx 24 0 rfl rfl h (v := (gs_a G 21 q1)) rfl dn_X2_openAround_61 (fun h => ?_)
      refine zz_if_ne cx (tgt := 90) dn_X2_openAround_62 (by decide) h (fun h => ?_) (fun h => ?_)
      · refine zz_aload_n cx dn_X2_openAround_65 rfl rfl ?_
        refine zz_get cx zi_X2 (v := .ref (ad_p E 24)) (ci := 2) rfl 1 7 rfl (by decide) zk_X2_37 rfl dn_X2_openAround_66 ?_
        refine zz_iload cx dn_X2_openAround_69 rfl ?_
        refine zz_iload_n cx dn_X2_openAround_71 rfl rfl ?_
        refine zz_if_eq cx (tgt := 88) dn_X2_openAround_72 (by decide) h (fun h => ?_) (fun h => ?_)
        · refine zz_iconst cx dn_X2_openAround_88 (v := (1 : Int32)) (by decide) ?_
          refine zz_iast cx 24 0 rfl rfl h (ws2 := (wc_c E (gs_sa G 21 q1 (1 : Int32)))) rfl dn_X2_openAround_89 (fun h => ?_)
          refine zz_iinc cx dn_X2_openAround_90 (d := (1 : Int32)) rfl (by decide) (by decide) rfl ?_
          refine zz_goto cx dn_X2_openAround_93 (tgt := 31) (by decide) ?_
          refine zz_less (L2 := [some (.ref (ad_p E 1)), some (.int x1), some (.int x2), some (.int (x3 + (1 : Int32))), none]) (⟨rfl, rfl, rfl, rfl, trivial⟩) ?_
          exact ih (x3 + (1 : Int32)) (gs_sa G 21 q1 (1 : Int32)) h
        · refine zz_aload_n cx dn_X2_openAround_75 rfl rfl ?_
          refine zz_get cx zi_X2 (v := .ref (ad_p E 2)) (ci := 2) rfl 1 0 rfl (by decide) zk_X2_12 rfl dn_X2_openAround_76 ?_
          refine zz_getN cx zi_X1 (v := .ref (ad_p E 6)) (ci := 1) rfl 2 3 rfl (by decide) zk_X2_136 rfl dn_X2_openAround_79 ?_
          refine zz_iload cx dn_X2_openAround_82 rfl ?_
          refine zz_iald cx 6 0 rfl rfl h (v := (gs_a G 3 q1)) rfl dn_X2_openAround_84 (fun h => ?_)
          refine zz_goto cx dn_X2_openAround_85 (tgt := 89) (by decide) ?_
          refine zz_iast cx 24 0 rfl rfl h (ws2 := (wc_c E (gs_sa G 21 q1 (gs_a G 3 q1)))) rfl dn_X2_openAround_89 (fun h => ?_)
          refine zz_iinc cx dn_X2_openAround_90 (d := (1 : Int32)) rfl (by decide) (by decide) rfl ?_
          refine zz_goto cx dn_X2_openAround_93 (tgt := 31) (by decide) ?_
          refine zz_less (L2 := [some (.ref (ad_p E 1)), some (.int x1), some (.int x2), some (.int (x3 + (1 : Int32))), none]) (⟨rfl, rfl, rfl, rfl, trivial⟩) ?_
          exact ih (x3 + (1 : Int32)) (gs_sa G 21 q1 (gs_a G 3 q1)) h
      · refine zz_iinc cx dn_X2_openAround_90 (d := (1 : Int32)) rfl (by decide) (by decide) rfl ?_
        refine zz_goto cx dn_X2_openAround_93 (tgt := 31) (by decide) ?_
        refine zz_less (L2 := [some (.ref (ad_p E 1)), some (.int x1), some (.int x2), some (.int (x3 + (1 : Int32))), none]) (⟨rfl, rfl, rfl, rfl, trivial⟩) ?_
        exact ih (x3 + (1 : Int32)) G h
set_option maxHeartbeats 4000000 in
set_option maxRecDepth 100000 in
theorem z_cW_openAround_j28 (E : ze_T) (n : Nat) (G : gs_T) (x1 s0 : Int32) (r : gs_T) (X : zx_T) (cx : zx (zF E) X cn_X2_openAround yn_X2_openAround.cls { frames := 1, cells := 0, slots := 0, locals := 22 } 5) (cq : zq_v (zF E) X (wc_c E r)) (h : cW_openAround_j28 n G x1 s0 = some r) : zj (zF E) X 0 0 (wc_c E G) 28 [some (.ref (ad_p E 1)), some (.int x1), none, none, none] [.int s0] := by
  unfold cW_openAround_j28 at h
  refine zz_istore_n cx dn_X2_openAround_28 rfl (by decide) rfl ?_
  refine zz_iconst cx dn_X2_openAround_29 (v := (0 : Int32)) (by decide) ?_
  refine zz_istore_n cx dn_X2_openAround_30 rfl (by decide) rfl ?_
  exact z_cW_openAround_31 E n x1 s0 _ X cx cq n (0 : Int32) G h
set_option maxHeartbeats 4000000 in
set_option maxRecDepth 100000 in
theorem z_cW_openAround_j27 (E : ze_T) (n : Nat) (G : gs_T) (x1 : Int32) (r : gs_T) (X : zx_T) (cx : zx (zF E) X cn_X2_openAround yn_X2_openAround.cls { frames := 1, cells := 0, slots := 0, locals := 22 } 5) (cq : zq_v (zF E) X (wc_c E r)) (h : cW_openAround_j27 n G x1 = some r) : zj (zF E) X 0 0 (wc_c E G) 27 [some (.ref (ad_p E 1)), some (.int x1), none, none, none] [] := by
  unfold cW_openAround_j27 at h
  refine zz_iconst cx dn_X2_openAround_27 (v := (0 : Int32)) (by decide) ?_
  exact z_cW_openAround_j28 E n G x1 (0 : Int32) _ X cx cq h
set_option maxHeartbeats 4000000 in
set_option maxRecDepth 100000 in
theorem z_cW_openAround (E : ze_T) (n : Nat) (G : gs_T) (x1 : Int32) (r : gs_T) (h : cW_openAround n G x1 = some r) : zc_v (zF E) (wc_c E G) (wc_c E r) yn_X2_openAround cn_X2_openAround 5 { frames := 1, cells := 0, slots := 0, locals := 22 } [.ref (ad_p E 1), .int x1] := by
  unfold cW_openAround at h
  refine zc_v_of (by decide) rfl (Nat.le_of_ble_eq_true rfl) (fun X cx cq => ?_)
  refine zz_aload_n cx dn_X2_openAround_0 rfl rfl ?_
  refine zz_get cx zi_X2 (v := .int (G.1 2)) (ci := 2) rfl 1 11 rfl (by decide) zk_X2_44 rfl dn_X2_openAround_1 ?_
  refine zz_iconst cx dn_X2_openAround_4 (v := (-1 : Int32)) (by decide) ?_
  refine zz_icmp_eq cx (tgt := 27) dn_X2_openAround_5 (by decide) h (fun h => ?_) (fun h => ?_)
  · exact z_cW_openAround_j27 E n G x1 _ X cx cq h
  · refine zz_aload_n cx dn_X2_openAround_8 rfl rfl ?_
    refine zz_get cx zi_X2 (v := .ref (ad_p E 2)) (ci := 2) rfl 1 0 rfl (by decide) zk_X2_12 rfl dn_X2_openAround_9 ?_
    refine zz_getN cx zi_X1 (v := .ref (ad_p E 14)) (ci := 1) rfl 2 11 rfl (by decide) zk_X2_126 rfl dn_X2_openAround_12 ?_
    refine zz_aload_n cx dn_X2_openAround_15 rfl rfl ?_
    refine zz_get cx zi_X2 (v := .int (G.1 2)) (ci := 2) rfl 1 11 rfl (by decide) zk_X2_44 rfl dn_X2_openAround_16 ?_
    refine zz_zald cx 14 1 rfl rfl h (v := (gs_a G 11 (G.1 2))) rfl dn_X2_openAround_19 (fun h => ?_)
    refine zz_if_ne cx (tgt := 27) dn_X2_openAround_20 (by decide) h (fun h => ?_) (fun h => ?_)
    · refine zz_iconst cx dn_X2_openAround_23 (v := (1 : Int32)) (by decide) ?_
      refine zz_goto cx dn_X2_openAround_24 (tgt := 28) (by decide) ?_
      exact z_cW_openAround_j28 E n G x1 (1 : Int32) _ X cx cq h
    · exact z_cW_openAround_j27 E n G x1 _ X cx cq h
set_option maxHeartbeats 4000000 in
set_option maxRecDepth 100000 in
theorem z_cW_isLeftOut (E : ze_T) (G : gs_T) (x1 : Int32) (r : Int32) (h : cW_isLeftOut G x1 = some r) : zc_i (zF E) (wc_c E G) (wc_c E G) yn_X2_isLeftOut cn_X2_isLeftOut 3 .boolean { frames := 0, cells := 0, slots := 0, locals := 0 } [.ref (ad_p E 1), .int x1] r := by
  unfold cW_isLeftOut at h
  refine zc_i_of (by decide) rfl (Nat.le_of_ble_eq_true rfl) (fun X cx cq => ?_)
  refine zz_iconst cx dn_X2_isLeftOut_0 (v := (1 : Int32)) (by decide) ?_
  refine zz_aload_n cx dn_X2_isLeftOut_1 rfl rfl ?_
  refine zz_get cx zi_X2 (v := .ref (ad_p E 24)) (ci := 2) rfl 1 7 rfl (by decide) zk_X2_37 rfl dn_X2_isLeftOut_2 ?_
  refine zz_aload_n cx dn_X2_isLeftOut_5 rfl rfl ?_
  refine zz_get cx zi_X2 (v := .ref (ad_p E 2)) (ci := 2) rfl 1 0 rfl (by decide) zk_X2_12 rfl dn_X2_isLeftOut_6 ?_
  refine zz_getN cx zi_X1 (v := .ref (ad_p E 7)) (ci := 1) rfl 2 4 rfl (by decide) zk_X2_139 rfl dn_X2_isLeftOut_9 ?_
  refine zz_iload_n cx dn_X2_isLeftOut_12 rfl rfl ?_
  refine zz_iald cx 7 0 rfl rfl h (v := (gs_a G 4 x1)) rfl dn_X2_isLeftOut_13 (fun h => ?_)
  refine zz_iald cx 24 0 rfl rfl h (v := (gs_a G 21 (gs_a G 4 x1))) rfl dn_X2_isLeftOut_14 (fun h => ?_)
  refine zz_iconst cx dn_X2_isLeftOut_15 (v := (1 : Int32)) (by decide) ?_
  refine zz_isub cx dn_X2_isLeftOut_16 ?_
  refine zz_ishl cx dn_X2_isLeftOut_17 ?_
  refine zz_istore_n cx dn_X2_isLeftOut_18 rfl (by decide) rfl ?_
  refine zz_aload_n cx dn_X2_isLeftOut_19 rfl rfl ?_
  refine zz_get cx zi_X2 (v := .ref (ad_p E 2)) (ci := 2) rfl 1 0 rfl (by decide) zk_X2_12 rfl dn_X2_isLeftOut_20 ?_
  refine zz_getN cx zi_X1 (v := .ref (ad_p E 10)) (ci := 1) rfl 2 7 rfl (by decide) zk_X2_142 rfl dn_X2_isLeftOut_23 ?_
  refine zz_iload_n cx dn_X2_isLeftOut_26 rfl rfl ?_
  refine zz_iald cx 10 0 rfl rfl h (v := (gs_a G 7 x1)) rfl dn_X2_isLeftOut_27 (fun h => ?_)
  refine zz_iload_n cx dn_X2_isLeftOut_28 rfl rfl ?_
  refine zz_iand cx dn_X2_isLeftOut_29 ?_
  refine zz_if_ne cx (tgt := 37) dn_X2_isLeftOut_30 (by decide) h (fun h => ?_) (fun h => ?_)
  · refine zz_iconst cx dn_X2_isLeftOut_33 (v := (1 : Int32)) (by decide) ?_
    refine zz_goto cx dn_X2_isLeftOut_34 (tgt := 38) (by decide) ?_
    cases h
    exact zz_zret cx cq rfl (by decide) (by decide) dn_X2_isLeftOut_38
  · refine zz_iconst cx dn_X2_isLeftOut_37 (v := (0 : Int32)) (by decide) ?_
    cases h
    exact zz_zret cx cq rfl (by decide) (by decide) dn_X2_isLeftOut_38
set_option maxHeartbeats 4000000 in
set_option maxRecDepth 100000 in
theorem z_cW_leaveWithin_2 (E : ze_T) (n : Nat) (x1 : Int32) (r : gs_T) (X : zx_T) (cx : zx (zF E) X cn_X2_leaveWithin yn_X2_leaveWithin.cls { frames := 2, cells := 0, slots := 0, locals := 45 } 3) (cq : zq_v (zF E) X (wc_c E r)) : ∀ (k : Nat) (x2 : Int32) (G : gs_T), cW_leaveWithin_2 n x1 k x2 G = some r → zj (zF E) X 0 0 (wc_c E G) 2 [some (.ref (ad_p E 1)), some (.int x1), some (.int x2)] [] := by
  intro k
  induction k with
  | zero => intro x2 G h; cases h
  | succ k ih =>
    intro x2 G h
    rw [cW_leaveWithin_2] at h
    refine zz_iload_n cx dn_X2_leaveWithin_2 rfl rfl ?_
    refine zz_aload_n cx dn_X2_leaveWithin_3 rfl rfl ?_
    refine zz_get cx zi_X2 (v := .ref (ad_p E 2)) (ci := 2) rfl 1 0 rfl (by decide) zk_X2_12 rfl dn_X2_leaveWithin_4 ?_
    refine zz_getN cx zi_X1 (v := .int (G.1 7)) (ci := 1) rfl 2 16 rfl (by decide) zk_X2_145 rfl dn_X2_leaveWithin_7 ?_
    refine zz_icmp_ge cx (tgt := 51) dn_X2_leaveWithin_10 (by decide) h (fun h => ?_) (fun h => ?_)
    · cases h
      exact zz_vret cx cq (by decide) (by decide) dn_X2_leaveWithin_51
    · refine zz_iload_n cx dn_X2_leaveWithin_13 rfl rfl ?_
      refine zz_aload_n cx dn_X2_leaveWithin_14 rfl rfl ?_
      refine zz_get cx zi_X2 (v := .ref (ad_p E 2)) (ci := 2) rfl 1 0 rfl (by decide) zk_X2_12 rfl dn_X2_leaveWithin_15 ?_
      refine zz_getN cx zi_X1 (v := .ref (ad_p E 7)) (ci := 1) rfl 2 4 rfl (by decide) zk_X2_139 rfl dn_X2_leaveWithin_18 ?_
      refine zz_iload_n cx dn_X2_leaveWithin_21 rfl rfl ?_
      refine zz_iald cx 7 0 rfl rfl h (v := (gs_a G 4 x1)) rfl dn_X2_leaveWithin_22 (fun h => ?_)
      refine zz_icmp_eq cx (tgt := 45) dn_X2_leaveWithin_23 (by decide) h (fun h => ?_) (fun h => ?_)
      · refine zz_iinc cx dn_X2_leaveWithin_45 (d := (1 : Int32)) rfl (by decide) (by decide) rfl ?_
        refine zz_goto cx dn_X2_leaveWithin_48 (tgt := 2) (by decide) ?_
        exact ih (x2 + (1 : Int32)) G h
      · refine zz_aload_n cx dn_X2_leaveWithin_26 rfl rfl ?_
        refine zz_get cx zi_X2 (v := .ref (ad_p E 2)) (ci := 2) rfl 1 0 rfl (by decide) zk_X2_12 rfl dn_X2_leaveWithin_27 ?_
        refine zz_iload_n cx dn_X2_leaveWithin_30 rfl rfl ?_
        refine zz_iload_n cx dn_X2_leaveWithin_31 rfl rfl ?_
        refine gs_bind h (fun q1 e_q1 h => ?_)
        refine zz_callVNi cx (As := [.int x2, .int x1]) (rest := []) (c2 := 0) (s2 := 0) (z_cS_isRepeatWithinEnding E G x2 x1 _ e_q1) zm_X1_isRepeatWithinEnding zk_X2_148 zv_X1_isRepeatWithinEnding 2 rfl rfl (by decide) rfl (Nat.le_of_ble_eq_true rfl) rfl rfl (by decide) (wc_c_addr E _ _) dn_X2_leaveWithin_32 ?_
        refine zz_if_eq cx (tgt := 45) dn_X2_leaveWithin_35 (by decide) h (fun h => ?_) (fun h => ?_)
        · refine zz_iinc cx dn_X2_leaveWithin_45 (d := (1 : Int32)) rfl (by decide) (by decide) rfl ?_
          refine zz_goto cx dn_X2_leaveWithin_48 (tgt := 2) (by decide) ?_
          exact ih (x2 + (1 : Int32)) G h
        · refine zz_aload_n cx dn_X2_leaveWithin_38 rfl rfl ?_
          refine zz_get cx zi_X2 (v := .ref (ad_p E 24)) (ci := 2) rfl 1 7 rfl (by decide) zk_X2_37 rfl dn_X2_leaveWithin_39 ?_
          refine zz_iload_n cx dn_X2_leaveWithin_42 rfl rfl ?_
          refine zz_iconst cx dn_X2_leaveWithin_43 (v := (0 : Int32)) (by decide) ?_
          refine zz_iast cx 24 0 rfl rfl h (ws2 := (wc_c E (gs_sa G 21 x2 (0 : Int32)))) rfl dn_X2_leaveWithin_44 (fun h => ?_)
          refine zz_iinc cx dn_X2_leaveWithin_45 (d := (1 : Int32)) rfl (by decide) (by decide) rfl ?_
          refine zz_goto cx dn_X2_leaveWithin_48 (tgt := 2) (by decide) ?_
          exact ih (x2 + (1 : Int32)) (gs_sa G 21 x2 (0 : Int32)) h
set_option maxHeartbeats 4000000 in
set_option maxRecDepth 100000 in
theorem z_cW_leaveWithin (E : ze_T) (n : Nat) (G : gs_T) (x1 : Int32) (r : gs_T) (h : cW_leaveWithin n G x1 = some r) : zc_v (zF E) (wc_c E G) (wc_c E r) yn_X2_leaveWithin cn_X2_leaveWithin 3 { frames := 2, cells := 0, slots := 0, locals := 45 } [.ref (ad_p E 1), .int x1] := by
  unfold cW_leaveWithin at h
  refine zc_v_of (by decide) rfl (Nat.le_of_ble_eq_true rfl) (fun X cx cq => ?_)
  refine zz_iconst cx dn_X2_leaveWithin_0 (v := (0 : Int32)) (by decide) ?_
  refine zz_istore_n cx dn_X2_leaveWithin_1 rfl (by decide) rfl ?_
  exact z_cW_leaveWithin_2 E n x1 _ X cx cq n (0 : Int32) G h
set_option maxHeartbeats 4000000 in
set_option maxRecDepth 100000 in
theorem z_cW_endOf_12 (E : ze_T) (n : Nat) (x1 : Int32) (r : (Int32 × gs_T)) (X : zx_T) (cx : zx (zF E) X cn_X2_endOf yn_X2_endOf.cls { frames := 1, cells := 0, slots := 0, locals := 22 } 4) (cq : zq_i (zF E) X (wc_c E r.2) .int r.1) : ∀ (k : Nat) (x2 : Int32) (G : gs_T), cW_endOf_12 n x1 k x2 G = some r → zj (zF E) X 0 0 (wc_c E G) 12 [some (.ref (ad_p E 1)), some (.int x1), some (.int x2), none] [] := by
  intro k
  induction k with
  | zero => intro x2 G h; cases h
  | succ k ih =>
    intro x2 G h
    rw [cW_endOf_12] at h
    refine zz_iload_n cx dn_X2_endOf_12 rfl rfl ?_
    refine zz_if_lt cx (tgt := 99) dn_X2_endOf_13 (by decide) h (fun h => ?_) (fun h => ?_)
    · refine zz_iload_n cx dn_X2_endOf_99 rfl rfl ?_
      refine zz_iconst cx dn_X2_endOf_100 (v := (1 : Int32)) (by decide) ?_
      refine zz_iadd cx dn_X2_endOf_101 ?_
      refine zz_aload_n cx dn_X2_endOf_102 rfl rfl ?_
      refine zz_get cx zi_X2 (v := .ref (ad_p E 2)) (ci := 2) rfl 1 0 rfl (by decide) zk_X2_12 rfl dn_X2_endOf_103 ?_
      refine zz_getN cx zi_X1 (v := .int (G.1 6)) (ci := 1) rfl 2 15 rfl (by decide) zk_X2_86 rfl dn_X2_endOf_106 ?_
      refine zz_icmp_ge cx (tgt := 118) dn_X2_endOf_109 (by decide) h (fun h => ?_) (fun h => ?_)
      · refine zz_iconst cx dn_X2_endOf_118 (v := (-1 : Int32)) (by decide) ?_
        cases h
        exact zz_iret cx cq (by decide) (by decide) dn_X2_endOf_119
      · refine zz_iload_n cx dn_X2_endOf_112 rfl rfl ?_
        refine zz_iconst cx dn_X2_endOf_113 (v := (1 : Int32)) (by decide) ?_
        refine zz_iadd cx dn_X2_endOf_114 ?_
        refine zz_goto cx dn_X2_endOf_115 (tgt := 119) (by decide) ?_
        cases h
        exact zz_iret cx cq (by decide) (by decide) dn_X2_endOf_119
    · refine zz_aload_n cx dn_X2_endOf_16 rfl rfl ?_
      refine zz_get cx zi_X2 (v := .ref (ad_p E 2)) (ci := 2) rfl 1 0 rfl (by decide) zk_X2_12 rfl dn_X2_endOf_17 ?_
      refine zz_iload_n cx dn_X2_endOf_20 rfl rfl ?_
      refine zz_iload_n cx dn_X2_endOf_21 rfl rfl ?_
      refine gs_bind h (fun q1 e_q1 h => ?_)
      refine zz_callVNi cx (As := [.int x1, .int x2]) (rest := []) (c2 := 0) (s2 := 0) (z_cS_repeatAround E G x1 x2 _ e_q1) zm_X1_repeatAround zk_X2_132 zv_X1_repeatAround 2 rfl rfl (by decide) rfl (Nat.le_of_ble_eq_true rfl) rfl rfl (by decide) (wc_c_addr E _ _) dn_X2_endOf_22 ?_
      refine zz_istore_n cx dn_X2_endOf_25 rfl (by decide) rfl ?_
      refine zz_aload_n cx dn_X2_endOf_26 rfl rfl ?_
      refine zz_get cx zi_X2 (v := .ref (ad_p E 2)) (ci := 2) rfl 1 0 rfl (by decide) zk_X2_12 rfl dn_X2_endOf_27 ?_
      refine zz_getN cx zi_X1 (v := .ref (ad_p E 5)) (ci := 1) rfl 2 2 rfl (by decide) zk_X2_170 rfl dn_X2_endOf_30 ?_
      refine zz_iload_n cx dn_X2_endOf_33 rfl rfl ?_
      refine zz_iald cx 5 0 rfl rfl h (v := (gs_a G 2 q1)) rfl dn_X2_endOf_34 (fun h => ?_)
      refine zz_iload_n cx dn_X2_endOf_35 rfl rfl ?_
      refine zz_icmp_ne cx (tgt := 93) dn_X2_endOf_36 (by decide) h (fun h => ?_) (fun h => ?_)
      · refine zz_aload_n cx dn_X2_endOf_39 rfl rfl ?_
        refine zz_get cx zi_X2 (v := .ref (ad_p E 24)) (ci := 2) rfl 1 7 rfl (by decide) zk_X2_37 rfl dn_X2_endOf_40 ?_
        refine zz_iload_n cx dn_X2_endOf_43 rfl rfl ?_
        refine zz_iald cx 24 0 rfl rfl h (v := (gs_a G 21 q1)) rfl dn_X2_endOf_44 (fun h => ?_)
        refine zz_if_eq cx (tgt := 93) dn_X2_endOf_45 (by decide) h (fun h => ?_) (fun h => ?_)
        · refine zz_iinc cx dn_X2_endOf_93 (d := (-1 : Int32)) rfl (by decide) (by decide) rfl ?_
          refine zz_goto cx dn_X2_endOf_96 (tgt := 12) (by decide) ?_
          refine zz_less (L2 := [some (.ref (ad_p E 1)), some (.int x1), some (.int (x2 + (-1 : Int32))), none]) (⟨rfl, rfl, rfl, trivial⟩) ?_
          exact ih (x2 + (-1 : Int32)) G h
        · refine zz_aload_n cx dn_X2_endOf_48 rfl rfl ?_
          refine zz_get cx zi_X2 (v := .ref (ad_p E 24)) (ci := 2) rfl 1 7 rfl (by decide) zk_X2_37 rfl dn_X2_endOf_49 ?_
          refine zz_iload_n cx dn_X2_endOf_52 rfl rfl ?_
          refine zz_iald cx 24 0 rfl rfl h (v := (gs_a G 21 q1)) rfl dn_X2_endOf_53 (fun h => ?_)
          refine zz_aload_n cx dn_X2_endOf_54 rfl rfl ?_
          refine zz_get cx zi_X2 (v := .ref (ad_p E 2)) (ci := 2) rfl 1 0 rfl (by decide) zk_X2_12 rfl dn_X2_endOf_55 ?_
          refine zz_getN cx zi_X1 (v := .ref (ad_p E 6)) (ci := 1) rfl 2 3 rfl (by decide) zk_X2_136 rfl dn_X2_endOf_58 ?_
          refine zz_iload_n cx dn_X2_endOf_61 rfl rfl ?_
          refine zz_iald cx 6 0 rfl rfl h (v := (gs_a G 3 q1)) rfl dn_X2_endOf_62 (fun h => ?_)
          refine zz_icmp_ge cx (tgt := 86) dn_X2_endOf_63 (by decide) h (fun h => ?_) (fun h => ?_)
          · refine zz_aload_n cx dn_X2_endOf_86 rfl rfl ?_
            refine zz_get cx zi_X2 (v := .ref (ad_p E 24)) (ci := 2) rfl 1 7 rfl (by decide) zk_X2_37 rfl dn_X2_endOf_87 ?_
            refine zz_iload_n cx dn_X2_endOf_90 rfl rfl ?_
            refine zz_iconst cx dn_X2_endOf_91 (v := (0 : Int32)) (by decide) ?_
            refine zz_iast cx 24 0 rfl rfl h (ws2 := (wc_c E (gs_sa G 21 q1 (0 : Int32)))) rfl dn_X2_endOf_92 (fun h => ?_)
            refine zz_iinc cx dn_X2_endOf_93 (d := (-1 : Int32)) rfl (by decide) (by decide) rfl ?_
            refine zz_goto cx dn_X2_endOf_96 (tgt := 12) (by decide) ?_
            refine zz_less (L2 := [some (.ref (ad_p E 1)), some (.int x1), some (.int (x2 + (-1 : Int32))), none]) (⟨rfl, rfl, rfl, trivial⟩) ?_
            exact ih (x2 + (-1 : Int32)) (gs_sa G 21 q1 (0 : Int32)) h
          · refine zz_aload_n cx dn_X2_endOf_66 rfl rfl ?_
            refine zz_get cx zi_X2 (v := .ref (ad_p E 24)) (ci := 2) rfl 1 7 rfl (by decide) zk_X2_37 rfl dn_X2_endOf_67 ?_
            refine zz_iload_n cx dn_X2_endOf_70 rfl rfl ?_
            refine zz_dup2 cx dn_X2_endOf_71 rfl rfl ?_
            refine zz_iald cx 24 0 rfl rfl h (v := (gs_a G 21 q1)) rfl dn_X2_endOf_72 (fun h => ?_)
            refine zz_iconst cx dn_X2_endOf_73 (v := (1 : Int32)) (by decide) ?_
            refine zz_iadd cx dn_X2_endOf_74 ?_
            refine zz_iast cx 24 0 rfl rfl h (ws2 := (wc_c E (gs_sa G 21 q1 ((gs_a G 21 q1) + (1 : Int32))))) rfl dn_X2_endOf_75 (fun h => ?_)
            refine zz_aload_n cx dn_X2_endOf_76 rfl rfl ?_
            refine zz_get cx zi_X2 (v := .ref (ad_p E 2)) (ci := 2) rfl 1 0 rfl (by decide) zk_X2_12 rfl dn_X2_endOf_77 ?_
            refine zz_getN cx zi_X1 (v := .ref (ad_p E 4)) (ci := 1) rfl 2 1 rfl (by decide) zk_X2_173 rfl dn_X2_endOf_80 ?_
            refine zz_iload_n cx dn_X2_endOf_83 rfl rfl ?_
            refine zz_iald cx 4 0 rfl rfl h (v := (gs_a G 1 q1)) rfl dn_X2_endOf_84 (fun h => ?_)
            cases h
            exact zz_iret cx cq (by decide) (by decide) dn_X2_endOf_85
      · refine zz_iinc cx dn_X2_endOf_93 (d := (-1 : Int32)) rfl (by decide) (by decide) rfl ?_
        refine zz_goto cx dn_X2_endOf_96 (tgt := 12) (by decide) ?_
        refine zz_less (L2 := [some (.ref (ad_p E 1)), some (.int x1), some (.int (x2 + (-1 : Int32))), none]) (⟨rfl, rfl, rfl, trivial⟩) ?_
        exact ih (x2 + (-1 : Int32)) G h
set_option maxHeartbeats 4000000 in
set_option maxRecDepth 100000 in
theorem z_cW_endOf (E : ze_T) (n : Nat) (G : gs_T) (x1 : Int32) (r : (Int32 × gs_T)) (h : cW_endOf n G x1 = some r) : zc_i (zF E) (wc_c E G) (wc_c E r.2) yn_X2_endOf cn_X2_endOf 4 .int { frames := 1, cells := 0, slots := 0, locals := 22 } [.ref (ad_p E 1), .int x1] r.1 := by
  unfold cW_endOf at h
  refine zc_i_of (by decide) rfl (Nat.le_of_ble_eq_true rfl) (fun X cx cq => ?_)
  refine zz_aload_n cx dn_X2_endOf_0 rfl rfl ?_
  refine zz_get cx zi_X2 (v := .ref (ad_p E 2)) (ci := 2) rfl 1 0 rfl (by decide) zk_X2_12 rfl dn_X2_endOf_1 ?_
  refine zz_getN cx zi_X1 (v := .ref (ad_p E 16)) (ci := 1) rfl 2 13 rfl (by decide) zk_X2_129 rfl dn_X2_endOf_4 ?_
  refine zz_iload_n cx dn_X2_endOf_7 rfl rfl ?_
  refine zz_iald cx 16 0 rfl rfl h (v := (gs_a G 13 x1)) rfl dn_X2_endOf_8 (fun h => ?_)
  refine zz_iconst cx dn_X2_endOf_9 (v := (1 : Int32)) (by decide) ?_
  refine zz_isub cx dn_X2_endOf_10 ?_
  refine zz_istore_n cx dn_X2_endOf_11 rfl (by decide) rfl ?_
  exact z_cW_endOf_12 E n x1 _ X cx cq n ((gs_a G 13 x1) - (1 : Int32)) G h
set_option maxHeartbeats 4000000 in
set_option maxRecDepth 100000 in
theorem z_cW_play_j96 (E : ze_T) (G : gs_T) (x1 s0 s1 : Int32) (r : gs_T) (X : zx_T) (cx : zx (zF E) X cn_X2_play yn_X2_play.cls { frames := 1, cells := 0, slots := 0, locals := 22 } 3) (cq : zq_v (zF E) X (wc_c E r)) (h : cW_play_j96 G x1 s0 s1 = some r) : zj (zF E) X 0 0 (wc_c E G) 96 [some (.ref (ad_p E 1)), some (.int x1), none] [.int s1, .int s0, .ref (ad_p E 21)] := by
  unfold cW_play_j96 at h
  refine zz_iast cx 21 0 rfl rfl h (ws2 := (wc_c E (gs_sa G 18 s0 s1))) rfl dn_X2_play_96 (fun h => ?_)
  refine zz_aload_n cx dn_X2_play_97 rfl rfl ?_
  refine zz_dup cx dn_X2_play_98 rfl ?_
  refine zz_get cx zi_X2 (v := .int (G.1 0)) (ci := 2) rfl 1 9 rfl (by decide) zk_X2_67 rfl dn_X2_play_99 ?_
  refine zz_iconst cx dn_X2_play_102 (v := (1 : Int32)) (by decide) ?_
  refine zz_iadd cx dn_X2_play_103 ?_
  refine zz_put cx (ws2 := (wc_c E (gs_sv (gs_sa G 18 s0 s1) 0 ((G.1 0) + (1 : Int32))))) (ty := .int) (ci := 2) zi_X2 fk_X2 nm_X2 rfl 1 9 rfl (by decide) zk_X2_67 rfl (by decide +kernel) rfl rfl (Nat.le_of_ble_eq_true rfl) rfl dn_X2_play_104 ?_
  refine zz_aload_n cx dn_X2_play_107 rfl rfl ?_
  refine zz_get cx zi_X2 (v := .ref (ad_p E 22)) (ci := 2) rfl 1 5 rfl (by decide) zk_X2_31 rfl dn_X2_play_108 ?_
  refine zz_iload_n cx dn_X2_play_111 rfl rfl ?_
  refine zz_dup2 cx dn_X2_play_112 rfl rfl ?_
  refine zz_iald cx 22 0 rfl rfl h (v := (gs_a G 19 x1)) rfl dn_X2_play_113 (fun h => ?_)
  refine zz_iconst cx dn_X2_play_114 (v := (1 : Int32)) (by decide) ?_
  refine zz_iadd cx dn_X2_play_115 ?_
  refine zz_iast cx 22 0 rfl rfl h (ws2 := (wc_c E (gs_sa (gs_sv (gs_sa G 18 s0 s1) 0 ((G.1 0) + (1 : Int32))) 19 x1 ((gs_a G 19 x1) + (1 : Int32))))) rfl dn_X2_play_116 (fun h => ?_)
  cases h
  exact zz_vret cx cq (by decide) (by decide) dn_X2_play_117
set_option maxHeartbeats 4000000 in
set_option maxRecDepth 100000 in
theorem z_cW_play_j65 (E : ze_T) (G : gs_T) (x1 x2 s0 s1 : Int32) (r : gs_T) (X : zx_T) (cx : zx (zF E) X cn_X2_play yn_X2_play.cls { frames := 1, cells := 0, slots := 0, locals := 22 } 3) (cq : zq_v (zF E) X (wc_c E r)) (h : cW_play_j65 G x1 x2 s0 s1 = some r) : zj (zF E) X 0 0 (wc_c E G) 65 [some (.ref (ad_p E 1)), some (.int x1), some (.int x2)] [.int s1, .int s0, .ref (ad_p E 20)] := by
  unfold cW_play_j65 at h
  refine zz_iast cx 20 0 rfl rfl h (ws2 := (wc_c E (gs_sa G 17 s0 s1))) rfl dn_X2_play_65 (fun h => ?_)
  refine zz_aload_n cx dn_X2_play_66 rfl rfl ?_
  refine zz_get cx zi_X2 (v := .ref (ad_p E 21)) (ci := 2) rfl 1 4 rfl (by decide) zk_X2_28 rfl dn_X2_play_67 ?_
  refine zz_aload_n cx dn_X2_play_70 rfl rfl ?_
  refine zz_get cx zi_X2 (v := .int (G.1 0)) (ci := 2) rfl 1 9 rfl (by decide) zk_X2_67 rfl dn_X2_play_71 ?_
  refine zz_iload_n cx dn_X2_play_74 rfl rfl ?_
  refine zz_if_ne cx (tgt := 82) dn_X2_play_75 (by decide) h (fun h => ?_) (fun h => ?_)
  · refine zz_iconst cx dn_X2_play_78 (v := (0 : Int32)) (by decide) ?_
    refine zz_goto cx dn_X2_play_79 (tgt := 96) (by decide) ?_
    refine zz_less (L2 := [some (.ref (ad_p E 1)), some (.int x1), none]) (⟨rfl, rfl, trivial⟩) ?_
    exact z_cW_play_j96 E (gs_sa G 17 s0 s1) x1 (G.1 0) (0 : Int32) _ X cx cq h
  · refine zz_aload_n cx dn_X2_play_82 rfl rfl ?_
    refine zz_get cx zi_X2 (v := .ref (ad_p E 24)) (ci := 2) rfl 1 7 rfl (by decide) zk_X2_37 rfl dn_X2_play_83 ?_
    refine zz_aload_n cx dn_X2_play_86 rfl rfl ?_
    refine zz_get cx zi_X2 (v := .ref (ad_p E 2)) (ci := 2) rfl 1 0 rfl (by decide) zk_X2_12 rfl dn_X2_play_87 ?_
    refine zz_iload_n cx dn_X2_play_90 rfl rfl ?_
    refine zz_iconst cx dn_X2_play_91 (v := (0 : Int32)) (by decide) ?_
    refine gs_bind h (fun q1 e_q1 h => ?_)
    refine zz_callVNi cx (As := [.int x1, .int (0 : Int32)]) (rest := [.ref (ad_p E 24), .int (G.1 0), .ref (ad_p E 21)]) (c2 := 0) (s2 := 0) (z_cS_repeatAround E (gs_sa G 17 s0 s1) x1 (0 : Int32) _ e_q1) zm_X1_repeatAround zk_X2_132 zv_X1_repeatAround 2 rfl rfl (by decide) rfl (Nat.le_of_ble_eq_true rfl) rfl rfl (by decide) (wc_c_addr E _ _) dn_X2_play_92 ?_
    refine zz_iald cx 24 0 rfl rfl h (v := (gs_a G 21 q1)) rfl dn_X2_play_95 (fun h => ?_)
    refine zz_less (L2 := [some (.ref (ad_p E 1)), some (.int x1), none]) (⟨rfl, rfl, trivial⟩) ?_
    exact z_cW_play_j96 E (gs_sa G 17 s0 s1) x1 (G.1 0) (gs_a G 21 q1) _ X cx cq h
set_option maxHeartbeats 4000000 in
set_option maxRecDepth 100000 in
theorem z_cW_play (E : ze_T) (G : gs_T) (x1 : Int32) (r : gs_T) (h : cW_play G x1 = some r) : zc_v (zF E) (wc_c E G) (wc_c E r) yn_X2_play cn_X2_play 3 { frames := 1, cells := 0, slots := 0, locals := 22 } [.ref (ad_p E 1), .int x1] := by
  unfold cW_play at h
  refine zc_v_of (by decide) rfl (Nat.le_of_ble_eq_true rfl) (fun X cx cq => ?_)
  refine zz_aload_n cx dn_X2_play_0 rfl rfl ?_
  refine zz_get cx zi_X2 (v := .ref (ad_p E 2)) (ci := 2) rfl 1 0 rfl (by decide) zk_X2_12 rfl dn_X2_play_1 ?_
  refine zz_getN cx zi_X1 (v := .ref (ad_p E 16)) (ci := 1) rfl 2 13 rfl (by decide) zk_X2_129 rfl dn_X2_play_4 ?_
  refine zz_iload_n cx dn_X2_play_7 rfl rfl ?_
  refine zz_iald cx 16 0 rfl rfl h (v := (gs_a G 13 x1)) rfl dn_X2_play_8 (fun h => ?_)
  refine zz_istore_n cx dn_X2_play_9 rfl (by decide) rfl ?_
  refine zz_aload_n cx dn_X2_play_10 rfl rfl ?_
  refine zz_get cx zi_X2 (v := .ref (ad_p E 18)) (ci := 2) rfl 1 1 rfl (by decide) zk_X2_18 rfl dn_X2_play_11 ?_
  refine zz_aload_n cx dn_X2_play_14 rfl rfl ?_
  refine zz_get cx zi_X2 (v := .int (G.1 0)) (ci := 2) rfl 1 9 rfl (by decide) zk_X2_67 rfl dn_X2_play_15 ?_
  refine zz_iload_n cx dn_X2_play_18 rfl rfl ?_
  refine zz_iast cx 18 0 rfl rfl h (ws2 := (wc_c E (gs_sa G 15 (G.1 0) x1))) rfl dn_X2_play_19 (fun h => ?_)
  refine zz_aload_n cx dn_X2_play_20 rfl rfl ?_
  refine zz_get cx zi_X2 (v := .ref (ad_p E 19)) (ci := 2) rfl 1 2 rfl (by decide) zk_X2_22 rfl dn_X2_play_21 ?_
  refine zz_aload_n cx dn_X2_play_24 rfl rfl ?_
  refine zz_get cx zi_X2 (v := .int (G.1 0)) (ci := 2) rfl 1 9 rfl (by decide) zk_X2_67 rfl dn_X2_play_25 ?_
  refine zz_aload_n cx dn_X2_play_28 rfl rfl ?_
  refine zz_get cx zi_X2 (v := .int (G.1 1)) (ci := 2) rfl 1 10 rfl (by decide) zk_X2_70 rfl dn_X2_play_29 ?_
  refine zz_iast cx 19 0 rfl rfl h (ws2 := (wc_c E (gs_sa (gs_sa G 15 (G.1 0) x1) 16 (G.1 0) (G.1 1)))) rfl dn_X2_play_32 (fun h => ?_)
  refine zz_aload_n cx dn_X2_play_33 rfl rfl ?_
  refine zz_get cx zi_X2 (v := .ref (ad_p E 20)) (ci := 2) rfl 1 3 rfl (by decide) zk_X2_25 rfl dn_X2_play_34 ?_
  refine zz_aload_n cx dn_X2_play_37 rfl rfl ?_
  refine zz_get cx zi_X2 (v := .int (G.1 0)) (ci := 2) rfl 1 9 rfl (by decide) zk_X2_67 rfl dn_X2_play_38 ?_
  refine zz_iload_n cx dn_X2_play_41 rfl rfl ?_
  refine zz_if_ne cx (tgt := 49) dn_X2_play_42 (by decide) h (fun h => ?_) (fun h => ?_)
  · refine zz_iconst cx dn_X2_play_45 (v := (0 : Int32)) (by decide) ?_
    refine zz_goto cx dn_X2_play_46 (tgt := 65) (by decide) ?_
    exact z_cW_play_j65 E (gs_sa (gs_sa G 15 (G.1 0) x1) 16 (G.1 0) (G.1 1)) x1 (gs_a G 13 x1) (G.1 0) (0 : Int32) _ X cx cq h
  · refine zz_aload_n cx dn_X2_play_49 rfl rfl ?_
    refine zz_get cx zi_X2 (v := .ref (ad_p E 24)) (ci := 2) rfl 1 7 rfl (by decide) zk_X2_37 rfl dn_X2_play_50 ?_
    refine zz_aload_n cx dn_X2_play_53 rfl rfl ?_
    refine zz_get cx zi_X2 (v := .ref (ad_p E 2)) (ci := 2) rfl 1 0 rfl (by decide) zk_X2_12 rfl dn_X2_play_54 ?_
    refine zz_iload_n cx dn_X2_play_57 rfl rfl ?_
    refine zz_iload_n cx dn_X2_play_58 rfl rfl ?_
    refine zz_iconst cx dn_X2_play_59 (v := (1 : Int32)) (by decide) ?_
    refine zz_isub cx dn_X2_play_60 ?_
    refine gs_bind h (fun q1 e_q1 h => ?_)
    refine zz_callVNi cx (As := [.int x1, .int ((gs_a G 13 x1) - (1 : Int32))]) (rest := [.ref (ad_p E 24), .int (G.1 0), .ref (ad_p E 20)]) (c2 := 0) (s2 := 0) (z_cS_repeatAround E (gs_sa (gs_sa G 15 (G.1 0) x1) 16 (G.1 0) (G.1 1)) x1 ((gs_a G 13 x1) - (1 : Int32)) _ e_q1) zm_X1_repeatAround zk_X2_132 zv_X1_repeatAround 2 rfl rfl (by decide) rfl (Nat.le_of_ble_eq_true rfl) rfl rfl (by decide) (wc_c_addr E _ _) dn_X2_play_61 ?_
    refine zz_iald cx 24 0 rfl rfl h (v := (gs_a G 21 q1)) rfl dn_X2_play_64 (fun h => ?_)
    exact z_cW_play_j65 E (gs_sa (gs_sa G 15 (G.1 0) x1) 16 (G.1 0) (G.1 1)) x1 (gs_a G 13 x1) (G.1 0) (gs_a G 21 q1) _ X cx cq h
set_option maxHeartbeats 4000000 in
set_option maxRecDepth 100000 in
theorem z_cW_isInLastPasses_2 (E : ze_T) (n : Nat) (G : gs_T) (x1 : Int32) (r : Int32) (X : zx_T) (cx : zx (zF E) X cn_X2_isInLastPasses yn_X2_isInLastPasses.cls { frames := 1, cells := 0, slots := 0, locals := 22 } 4) (cq : zq_i (zF E) X (wc_c E G) .boolean r) : ∀ (k : Nat) (x2 : Int32), cW_isInLastPasses_2 n G x1 k x2 = some r → zj (zF E) X 0 0 (wc_c E G) 2 [some (.ref (ad_p E 1)), some (.int x1), some (.int x2), none] [] := by
  intro k
  induction k with
  | zero => intro x2 h; cases h
  | succ k ih =>
    intro x2 h
    rw [cW_isInLastPasses_2] at h
    refine zz_iload_n cx dn_X2_isInLastPasses_2 rfl rfl ?_
    refine zz_aload_n cx dn_X2_isInLastPasses_3 rfl rfl ?_
    refine zz_get cx zi_X2 (v := .ref (ad_p E 2)) (ci := 2) rfl 1 0 rfl (by decide) zk_X2_12 rfl dn_X2_isInLastPasses_4 ?_
    refine zz_getN cx zi_X1 (v := .ref (ad_p E 16)) (ci := 1) rfl 2 13 rfl (by decide) zk_X2_129 rfl dn_X2_isInLastPasses_7 ?_
    refine zz_iload_n cx dn_X2_isInLastPasses_10 rfl rfl ?_
    refine zz_iald cx 16 0 rfl rfl h (v := (gs_a G 13 x1)) rfl dn_X2_isInLastPasses_11 (fun h => ?_)
    refine zz_icmp_ge cx (tgt := 51) dn_X2_isInLastPasses_12 (by decide) h (fun h => ?_) (fun h => ?_)
    · refine zz_iconst cx dn_X2_isInLastPasses_51 (v := (1 : Int32)) (by decide) ?_
      cases h
      exact zz_zret cx cq rfl (by decide) (by decide) dn_X2_isInLastPasses_52
    · refine zz_aload_n cx dn_X2_isInLastPasses_15 rfl rfl ?_
      refine zz_get cx zi_X2 (v := .ref (ad_p E 2)) (ci := 2) rfl 1 0 rfl (by decide) zk_X2_12 rfl dn_X2_isInLastPasses_16 ?_
      refine zz_iload_n cx dn_X2_isInLastPasses_19 rfl rfl ?_
      refine zz_iload_n cx dn_X2_isInLastPasses_20 rfl rfl ?_
      refine gs_bind h (fun q1 e_q1 h => ?_)
      refine zz_callVNi cx (As := [.int x1, .int x2]) (rest := []) (c2 := 0) (s2 := 0) (z_cS_repeatAround E G x1 x2 _ e_q1) zm_X1_repeatAround zk_X2_132 zv_X1_repeatAround 2 rfl rfl (by decide) rfl (Nat.le_of_ble_eq_true rfl) rfl rfl (by decide) (wc_c_addr E _ _) dn_X2_isInLastPasses_21 ?_
      refine zz_istore_n cx dn_X2_isInLastPasses_24 rfl (by decide) rfl ?_
      refine zz_aload_n cx dn_X2_isInLastPasses_25 rfl rfl ?_
      refine zz_get cx zi_X2 (v := .ref (ad_p E 24)) (ci := 2) rfl 1 7 rfl (by decide) zk_X2_37 rfl dn_X2_isInLastPasses_26 ?_
      refine zz_iload_n cx dn_X2_isInLastPasses_29 rfl rfl ?_
      refine zz_iald cx 24 0 rfl rfl h (v := (gs_a G 21 q1)) rfl dn_X2_isInLastPasses_30 (fun h => ?_)
      refine zz_aload_n cx dn_X2_isInLastPasses_31 rfl rfl ?_
      refine zz_get cx zi_X2 (v := .ref (ad_p E 2)) (ci := 2) rfl 1 0 rfl (by decide) zk_X2_12 rfl dn_X2_isInLastPasses_32 ?_
      refine zz_getN cx zi_X1 (v := .ref (ad_p E 6)) (ci := 1) rfl 2 3 rfl (by decide) zk_X2_136 rfl dn_X2_isInLastPasses_35 ?_
      refine zz_iload_n cx dn_X2_isInLastPasses_38 rfl rfl ?_
      refine zz_iald cx 6 0 rfl rfl h (v := (gs_a G 3 q1)) rfl dn_X2_isInLastPasses_39 (fun h => ?_)
      refine zz_icmp_ge cx (tgt := 45) dn_X2_isInLastPasses_40 (by decide) h (fun h => ?_) (fun h => ?_)
      · refine zz_iinc cx dn_X2_isInLastPasses_45 (d := (1 : Int32)) rfl (by decide) (by decide) rfl ?_
        refine zz_goto cx dn_X2_isInLastPasses_48 (tgt := 2) (by decide) ?_
        refine zz_less (L2 := [some (.ref (ad_p E 1)), some (.int x1), some (.int (x2 + (1 : Int32))), none]) (⟨rfl, rfl, rfl, trivial⟩) ?_
        exact ih (x2 + (1 : Int32)) h
      · refine zz_iconst cx dn_X2_isInLastPasses_43 (v := (0 : Int32)) (by decide) ?_
        cases h
        exact zz_zret cx cq rfl (by decide) (by decide) dn_X2_isInLastPasses_44
set_option maxHeartbeats 4000000 in
set_option maxRecDepth 100000 in
theorem z_cW_isInLastPasses (E : ze_T) (n : Nat) (G : gs_T) (x1 : Int32) (r : Int32) (h : cW_isInLastPasses n G x1 = some r) : zc_i (zF E) (wc_c E G) (wc_c E G) yn_X2_isInLastPasses cn_X2_isInLastPasses 4 .boolean { frames := 1, cells := 0, slots := 0, locals := 22 } [.ref (ad_p E 1), .int x1] r := by
  unfold cW_isInLastPasses at h
  refine zc_i_of (by decide) rfl (Nat.le_of_ble_eq_true rfl) (fun X cx cq => ?_)
  refine zz_iconst cx dn_X2_isInLastPasses_0 (v := (0 : Int32)) (by decide) ?_
  refine zz_istore_n cx dn_X2_isInLastPasses_1 rfl (by decide) rfl ?_
  exact z_cW_isInLastPasses_2 E n G x1 _ X cx cq n (0 : Int32) h
set_option maxHeartbeats 4000000 in
set_option maxRecDepth 100000 in
theorem z_cW_isLatestJumpTill (E : ze_T) (G : gs_T) (x1 : Int32) (r : Int32) (h : cW_isLatestJumpTill G x1 = some r) : zc_i (zF E) (wc_c E G) (wc_c E G) yn_X2_isLatestJumpTill cn_X2_isLatestJumpTill 2 .boolean { frames := 0, cells := 0, slots := 0, locals := 0 } [.ref (ad_p E 1), .int x1] r := by
  unfold cW_isLatestJumpTill at h
  refine zc_i_of (by decide) rfl (Nat.le_of_ble_eq_true rfl) (fun X cx cq => ?_)
  refine zz_aload_n cx dn_X2_isLatestJumpTill_0 rfl rfl ?_
  refine zz_get cx zi_X2 (v := .int (G.1 2)) (ci := 2) rfl 1 11 rfl (by decide) zk_X2_44 rfl dn_X2_isLatestJumpTill_1 ?_
  refine zz_iconst cx dn_X2_isLatestJumpTill_4 (v := (-1 : Int32)) (by decide) ?_
  refine zz_icmp_eq cx (tgt := 28) dn_X2_isLatestJumpTill_5 (by decide) h (fun h => ?_) (fun h => ?_)
  · refine zz_iconst cx dn_X2_isLatestJumpTill_28 (v := (0 : Int32)) (by decide) ?_
    cases h
    exact zz_zret cx cq rfl (by decide) (by decide) dn_X2_isLatestJumpTill_29
  · refine zz_aload_n cx dn_X2_isLatestJumpTill_8 rfl rfl ?_
    refine zz_get cx zi_X2 (v := .ref (ad_p E 2)) (ci := 2) rfl 1 0 rfl (by decide) zk_X2_12 rfl dn_X2_isLatestJumpTill_9 ?_
    refine zz_getN cx zi_X1 (v := .ref (ad_p E 13)) (ci := 1) rfl 2 10 rfl (by decide) zk_X2_164 rfl dn_X2_isLatestJumpTill_12 ?_
    refine zz_aload_n cx dn_X2_isLatestJumpTill_15 rfl rfl ?_
    refine zz_get cx zi_X2 (v := .int (G.1 2)) (ci := 2) rfl 1 11 rfl (by decide) zk_X2_44 rfl dn_X2_isLatestJumpTill_16 ?_
    refine zz_iald cx 13 0 rfl rfl h (v := (gs_a G 10 (G.1 2))) rfl dn_X2_isLatestJumpTill_19 (fun h => ?_)
    refine zz_iload_n cx dn_X2_isLatestJumpTill_20 rfl rfl ?_
    refine zz_icmp_ne cx (tgt := 28) dn_X2_isLatestJumpTill_21 (by decide) h (fun h => ?_) (fun h => ?_)
    · refine zz_iconst cx dn_X2_isLatestJumpTill_24 (v := (1 : Int32)) (by decide) ?_
      refine zz_goto cx dn_X2_isLatestJumpTill_25 (tgt := 29) (by decide) ?_
      cases h
      exact zz_zret cx cq rfl (by decide) (by decide) dn_X2_isLatestJumpTill_29
    · refine zz_iconst cx dn_X2_isLatestJumpTill_28 (v := (0 : Int32)) (by decide) ?_
      cases h
      exact zz_zret cx cq rfl (by decide) (by decide) dn_X2_isLatestJumpTill_29
set_option maxHeartbeats 4000000 in
set_option maxRecDepth 100000 in
theorem z_cW_act (E : ze_T) (G : gs_T) (x1 : Int32) (r : (Int32 × gs_T)) (h : cW_act G x1 = some r) : zc_i (zF E) (wc_c E G) (wc_c E r.2) yn_X2_act cn_X2_act 2 .int { frames := 2, cells := 0, slots := 0, locals := 43 } [.ref (ad_p E 1), .int x1] r.1 := by
  unfold cW_act at h
  refine zc_i_of (by decide) rfl (Nat.le_of_ble_eq_true rfl) (fun X cx cq => ?_)
  refine zz_aload_n cx dn_X2_act_0 rfl rfl ?_
  refine zz_get cx zi_X2 (v := .ref (ad_p E 25)) (ci := 2) rfl 1 8 rfl (by decide) zk_X2_40 rfl dn_X2_act_1 ?_
  refine zz_iload_n cx dn_X2_act_4 rfl rfl ?_
  refine zz_iconst cx dn_X2_act_5 (v := (1 : Int32)) (by decide) ?_
  refine zz_zast cx 25 1 rfl rfl h (ws2 := (wc_c E (gs_sa G 22 x1 (vp_nar .boolean (1 : Int32))))) rfl dn_X2_act_6 (fun h => ?_)
  refine zz_aload_n cx dn_X2_act_7 rfl rfl ?_
  refine zz_iload_n cx dn_X2_act_8 rfl rfl ?_
  refine zz_put cx (ws2 := (wc_c E (gs_sv (gs_sa G 22 x1 (vp_nar .boolean (1 : Int32))) 2 x1))) (ty := .int) (ci := 2) zi_X2 fk_X2 nm_X2 rfl 1 11 rfl (by decide) zk_X2_44 rfl (by decide +kernel) rfl rfl (Nat.le_of_ble_eq_true rfl) rfl dn_X2_act_9 ?_
  refine zz_aload_n cx dn_X2_act_12 rfl rfl ?_
  refine zz_iconst cx dn_X2_act_13 (v := (0 : Int32)) (by decide) ?_
  refine zz_put cx (ws2 := (wc_c E (gs_sv (gs_sv (gs_sa G 22 x1 (vp_nar .boolean (1 : Int32))) 2 x1) 3 (0 : Int32)))) (ty := .boolean) (ci := 2) zi_X2 fk_X2 nm_X2 rfl 1 12 rfl (by decide) zk_X2_73 rfl (by decide +kernel) rfl rfl (Nat.le_of_ble_eq_true rfl) rfl dn_X2_act_14 ?_
  refine zz_aload_n cx dn_X2_act_17 rfl rfl ?_
  refine zz_dup cx dn_X2_act_18 rfl ?_
  refine zz_get cx zi_X2 (v := .int (G.1 1)) (ci := 2) rfl 1 10 rfl (by decide) zk_X2_70 rfl dn_X2_act_19 ?_
  refine zz_iconst cx dn_X2_act_22 (v := (1 : Int32)) (by decide) ?_
  refine zz_iadd cx dn_X2_act_23 ?_
  refine zz_put cx (ws2 := (wc_c E (gs_sv (gs_sv (gs_sv (gs_sa G 22 x1 (vp_nar .boolean (1 : Int32))) 2 x1) 3 (0 : Int32)) 1 ((G.1 1) + (1 : Int32))))) (ty := .int) (ci := 2) zi_X2 fk_X2 nm_X2 rfl 1 10 rfl (by decide) zk_X2_70 rfl (by decide +kernel) rfl rfl (Nat.le_of_ble_eq_true rfl) rfl dn_X2_act_24 ?_
  refine zz_aload_n cx dn_X2_act_27 rfl rfl ?_
  refine gs_bind h (fun q1 e_q1 h => ?_)
  refine zz_callVv cx (As := []) (rest := []) (c2 := 0) (s2 := 0) (z_cW_leaveAll E (gs_sv (gs_sv (gs_sv (gs_sa G 22 x1 (vp_nar .boolean (1 : Int32))) 2 x1) 3 (0 : Int32)) 1 ((G.1 1) + (1 : Int32))) _ e_q1) zm_X2_leaveAll zk_X2_83 zv_X2_leaveAll 1 rfl rfl (by decide) rfl (Nat.le_of_ble_eq_true rfl) rfl rfl (by decide) (wc_c_addr E _ _) dn_X2_act_28 ?_
  refine zz_aload_n cx dn_X2_act_31 rfl rfl ?_
  refine zz_get cx zi_X2 (v := .ref (ad_p E 2)) (ci := 2) rfl 1 0 rfl (by decide) zk_X2_12 rfl dn_X2_act_32 ?_
  refine zz_getN cx zi_X1 (v := .ref (ad_p E 12)) (ci := 1) rfl 2 9 rfl (by decide) zk_X2_167 rfl dn_X2_act_35 ?_
  refine zz_iload_n cx dn_X2_act_38 rfl rfl ?_
  refine zz_iald cx 12 0 rfl rfl h (v := (gs_a q1 9 x1)) rfl dn_X2_act_39 (fun h => ?_)
  refine zz_iconst cx dn_X2_act_40 (v := (1 : Int32)) (by decide) ?_
  refine zz_icmp_ne cx (tgt := 56) dn_X2_act_41 (by decide) h (fun h => ?_) (fun h => ?_)
  · refine zz_aload_n cx dn_X2_act_44 rfl rfl ?_
    refine zz_get cx zi_X2 (v := .ref (ad_p E 2)) (ci := 2) rfl 1 0 rfl (by decide) zk_X2_12 rfl dn_X2_act_45 ?_
    refine zz_getN cx zi_X1 (v := .ref (ad_p E 11)) (ci := 1) rfl 2 8 rfl (by decide) zk_X2_155 rfl dn_X2_act_48 ?_
    refine zz_iconst cx dn_X2_act_51 (v := (0 : Int32)) (by decide) ?_
    refine zz_iald cx 11 0 rfl rfl h (v := (gs_a q1 8 (0 : Int32))) rfl dn_X2_act_52 (fun h => ?_)
    refine zz_goto cx dn_X2_act_53 (tgt := 57) (by decide) ?_
    cases h
    exact zz_iret cx cq (by decide) (by decide) dn_X2_act_57
  · refine zz_iconst cx dn_X2_act_56 (v := (0 : Int32)) (by decide) ?_
    cases h
    exact zz_iret cx cq (by decide) (by decide) dn_X2_act_57
set_option maxHeartbeats 4000000 in
set_option maxRecDepth 100000 in
theorem z_cW_behind_j84 (E : ze_T) (n : Nat) (G : gs_T) (x1 : Int32) (r : (Int32 × gs_T)) (X : zx_T) (cx : zx (zF E) X cn_X2_behind yn_X2_behind.cls { frames := 3, cells := 0, slots := 0, locals := 64 } 2) (cq : zq_i (zF E) X (wc_c E r.2) .int r.1) (h : cW_behind_j84 n G x1 = some r) : zj (zF E) X 0 0 (wc_c E G) 84 [some (.ref (ad_p E 1)), some (.int x1)] [] := by
  unfold cW_behind_j84 at h
  refine zz_aload_n cx dn_X2_behind_84 rfl rfl ?_
  refine zz_get cx zi_X2 (v := .ref (ad_p E 2)) (ci := 2) rfl 1 0 rfl (by decide) zk_X2_12 rfl dn_X2_behind_85 ?_
  refine zz_iload_n cx dn_X2_behind_88 rfl rfl ?_
  refine gs_bind h (fun q1 e_q1 h => ?_)
  refine zz_callVNi cx (As := [.int x1]) (rest := []) (c2 := 0) (s2 := 0) (z_cS_hasJump E G x1 _ e_q1) zm_X1_hasJump zk_X2_89 zv_X1_hasJump 2 rfl rfl (by decide) rfl (Nat.le_of_ble_eq_true rfl) rfl rfl (by decide) (wc_c_addr E _ _) dn_X2_behind_89 ?_
  refine zz_if_eq cx (tgt := 110) dn_X2_behind_92 (by decide) h (fun h => ?_) (fun h => ?_)
  · refine zz_aload_n cx dn_X2_behind_110 rfl rfl ?_
    refine zz_iload_n cx dn_X2_behind_111 rfl rfl ?_
    refine gs_bind h (fun q2 e_q2 h => ?_)
    refine zz_callVi cx (As := [.int x1]) (rest := []) (c2 := 0) (s2 := 0) (z_cW_endOf E n G x1 _ e_q2) zm_X2_endOf zk_X2_117 zv_X2_endOf 1 rfl rfl (by decide) rfl (Nat.le_of_ble_eq_true rfl) rfl rfl (by decide) (wc_c_addr E _ _) dn_X2_behind_112 ?_
    cases h
    exact zz_iret cx cq (by decide) (by decide) dn_X2_behind_115
  · refine zz_aload_n cx dn_X2_behind_95 rfl rfl ?_
    refine zz_get cx zi_X2 (v := .ref (ad_p E 25)) (ci := 2) rfl 1 8 rfl (by decide) zk_X2_40 rfl dn_X2_behind_96 ?_
    refine zz_iload_n cx dn_X2_behind_99 rfl rfl ?_
    refine zz_zald cx 25 1 rfl rfl h (v := (gs_a G 22 x1)) rfl dn_X2_behind_100 (fun h => ?_)
    refine zz_if_ne cx (tgt := 110) dn_X2_behind_101 (by decide) h (fun h => ?_) (fun h => ?_)
    · refine zz_aload_n cx dn_X2_behind_104 rfl rfl ?_
      refine zz_iload_n cx dn_X2_behind_105 rfl rfl ?_
      refine gs_bind h (fun q4 e_q4 h => ?_)
      refine zz_callVi cx (As := [.int x1]) (rest := []) (c2 := 0) (s2 := 0) (z_cW_act E G x1 _ e_q4) zm_X2_act zk_X2_161 zv_X2_act 1 rfl rfl (by decide) rfl (Nat.le_of_ble_eq_true rfl) rfl rfl (by decide) (wc_c_addr E _ _) dn_X2_behind_106 ?_
      cases h
      exact zz_iret cx cq (by decide) (by decide) dn_X2_behind_109
    · refine zz_aload_n cx dn_X2_behind_110 rfl rfl ?_
      refine zz_iload_n cx dn_X2_behind_111 rfl rfl ?_
      refine gs_bind h (fun q3 e_q3 h => ?_)
      refine zz_callVi cx (As := [.int x1]) (rest := []) (c2 := 0) (s2 := 0) (z_cW_endOf E n G x1 _ e_q3) zm_X2_endOf zk_X2_117 zv_X2_endOf 1 rfl rfl (by decide) rfl (Nat.le_of_ble_eq_true rfl) rfl rfl (by decide) (wc_c_addr E _ _) dn_X2_behind_112 ?_
      cases h
      exact zz_iret cx cq (by decide) (by decide) dn_X2_behind_115
set_option maxHeartbeats 4000000 in
set_option maxRecDepth 100000 in
theorem z_cW_behind_j37 (E : ze_T) (n : Nat) (G : gs_T) (x1 : Int32) (r : (Int32 × gs_T)) (X : zx_T) (cx : zx (zF E) X cn_X2_behind yn_X2_behind.cls { frames := 3, cells := 0, slots := 0, locals := 64 } 2) (cq : zq_i (zF E) X (wc_c E r.2) .int r.1) (h : cW_behind_j37 n G x1 = some r) : zj (zF E) X 0 0 (wc_c E G) 37 [some (.ref (ad_p E 1)), some (.int x1)] [] := by
  unfold cW_behind_j37 at h
  refine zz_aload_n cx dn_X2_behind_37 rfl rfl ?_
  refine zz_get cx zi_X2 (v := .ref (ad_p E 2)) (ci := 2) rfl 1 0 rfl (by decide) zk_X2_12 rfl dn_X2_behind_38 ?_
  refine zz_getN cx zi_X1 (v := .ref (ad_p E 11)) (ci := 1) rfl 2 8 rfl (by decide) zk_X2_155 rfl dn_X2_behind_41 ?_
  refine zz_iconst cx dn_X2_behind_44 (v := (2 : Int32)) (by decide) ?_
  refine zz_iald cx 11 0 rfl rfl h (v := (gs_a G 8 (2 : Int32))) rfl dn_X2_behind_45 (fun h => ?_)
  refine zz_iload_n cx dn_X2_behind_46 rfl rfl ?_
  refine zz_icmp_ne cx (tgt := 84) dn_X2_behind_47 (by decide) h (fun h => ?_) (fun h => ?_)
  · refine zz_aload_n cx dn_X2_behind_50 rfl rfl ?_
    refine zz_iconst cx dn_X2_behind_51 (v := (2 : Int32)) (by decide) ?_
    refine gs_bind h (fun q1 e_q1 h => ?_)
    refine zz_callVi cx (As := [.int (2 : Int32)]) (rest := []) (c2 := 0) (s2 := 0) (z_cW_isLatestJumpTill E G (2 : Int32) _ e_q1) zm_X2_isLatestJumpTill zk_X2_158 zv_X2_isLatestJumpTill 1 rfl rfl (by decide) rfl (Nat.le_of_ble_eq_true rfl) rfl rfl (by decide) (wc_c_addr E _ _) dn_X2_behind_52 ?_
    refine zz_if_eq cx (tgt := 84) dn_X2_behind_55 (by decide) h (fun h => ?_) (fun h => ?_)
    · exact z_cW_behind_j84 E n G x1 _ X cx cq h
    · refine zz_aload_n cx dn_X2_behind_58 rfl rfl ?_
      refine zz_get cx zi_X2 (v := .int (G.1 3)) (ci := 2) rfl 1 12 rfl (by decide) zk_X2_73 rfl dn_X2_behind_59 ?_
      refine zz_if_ne cx (tgt := 84) dn_X2_behind_62 (by decide) h (fun h => ?_) (fun h => ?_)
      · refine zz_aload_n cx dn_X2_behind_65 rfl rfl ?_
        refine gs_bind h (fun q2 e_q2 h => ?_)
        refine zz_callVv cx (As := []) (rest := []) (c2 := 0) (s2 := 0) (z_cW_leaveAll E G _ e_q2) zm_X2_leaveAll zk_X2_83 zv_X2_leaveAll 1 rfl rfl (by decide) rfl (Nat.le_of_ble_eq_true rfl) rfl rfl (by decide) (wc_c_addr E _ _) dn_X2_behind_66 ?_
        refine zz_aload_n cx dn_X2_behind_69 rfl rfl ?_
        refine zz_iconst cx dn_X2_behind_70 (v := (1 : Int32)) (by decide) ?_
        refine zz_put cx (ws2 := (wc_c E (gs_sv q2 3 (1 : Int32)))) (ty := .boolean) (ci := 2) zi_X2 fk_X2 nm_X2 rfl 1 12 rfl (by decide) zk_X2_73 rfl (by decide +kernel) rfl rfl (Nat.le_of_ble_eq_true rfl) rfl dn_X2_behind_71 ?_
        refine zz_aload_n cx dn_X2_behind_74 rfl rfl ?_
        refine zz_get cx zi_X2 (v := .ref (ad_p E 2)) (ci := 2) rfl 1 0 rfl (by decide) zk_X2_12 rfl dn_X2_behind_75 ?_
        refine zz_getN cx zi_X1 (v := .ref (ad_p E 11)) (ci := 1) rfl 2 8 rfl (by decide) zk_X2_155 rfl dn_X2_behind_78 ?_
        refine zz_iconst cx dn_X2_behind_81 (v := (1 : Int32)) (by decide) ?_
        refine zz_iald cx 11 0 rfl rfl h (v := (gs_a q2 8 (1 : Int32))) rfl dn_X2_behind_82 (fun h => ?_)
        cases h
        exact zz_iret cx cq (by decide) (by decide) dn_X2_behind_83
      · exact z_cW_behind_j84 E n G x1 _ X cx cq h
  · exact z_cW_behind_j84 E n G x1 _ X cx cq h
set_option maxHeartbeats 4000000 in
set_option maxRecDepth 100000 in
theorem z_cW_behind (E : ze_T) (n : Nat) (G : gs_T) (x1 : Int32) (r : (Int32 × gs_T)) (h : cW_behind n G x1 = some r) : zc_i (zF E) (wc_c E G) (wc_c E r.2) yn_X2_behind cn_X2_behind 2 .int { frames := 3, cells := 0, slots := 0, locals := 64 } [.ref (ad_p E 1), .int x1] r.1 := by
  unfold cW_behind at h
  refine zc_i_of (by decide) rfl (Nat.le_of_ble_eq_true rfl) (fun X cx cq => ?_)
  refine zz_aload_n cx dn_X2_behind_0 rfl rfl ?_
  refine zz_iload_n cx dn_X2_behind_1 rfl rfl ?_
  refine gs_bind h (fun q1 e_q1 h => ?_)
  refine zz_callVi cx (As := [.int x1]) (rest := []) (c2 := 0) (s2 := 0) (z_cW_isInLastPasses E n G x1 _ e_q1) zm_X2_isInLastPasses zk_X2_152 zv_X2_isInLastPasses 1 rfl rfl (by decide) rfl (Nat.le_of_ble_eq_true rfl) rfl rfl (by decide) (wc_c_addr E _ _) dn_X2_behind_2 ?_
  refine zz_if_ne cx (tgt := 14) dn_X2_behind_5 (by decide) h (fun h => ?_) (fun h => ?_)
  · refine zz_aload_n cx dn_X2_behind_8 rfl rfl ?_
    refine zz_iload_n cx dn_X2_behind_9 rfl rfl ?_
    refine gs_bind h (fun q3 e_q3 h => ?_)
    refine zz_callVi cx (As := [.int x1]) (rest := []) (c2 := 0) (s2 := 0) (z_cW_endOf E n G x1 _ e_q3) zm_X2_endOf zk_X2_117 zv_X2_endOf 1 rfl rfl (by decide) rfl (Nat.le_of_ble_eq_true rfl) rfl rfl (by decide) (wc_c_addr E _ _) dn_X2_behind_10 ?_
    cases h
    exact zz_iret cx cq (by decide) (by decide) dn_X2_behind_13
  · refine zz_aload_n cx dn_X2_behind_14 rfl rfl ?_
    refine zz_get cx zi_X2 (v := .ref (ad_p E 2)) (ci := 2) rfl 1 0 rfl (by decide) zk_X2_12 rfl dn_X2_behind_15 ?_
    refine zz_getN cx zi_X1 (v := .ref (ad_p E 11)) (ci := 1) rfl 2 8 rfl (by decide) zk_X2_155 rfl dn_X2_behind_18 ?_
    refine zz_iconst cx dn_X2_behind_21 (v := (3 : Int32)) (by decide) ?_
    refine zz_iald cx 11 0 rfl rfl h (v := (gs_a G 8 (3 : Int32))) rfl dn_X2_behind_22 (fun h => ?_)
    refine zz_iload_n cx dn_X2_behind_23 rfl rfl ?_
    refine zz_icmp_ne cx (tgt := 37) dn_X2_behind_24 (by decide) h (fun h => ?_) (fun h => ?_)
    · refine zz_aload_n cx dn_X2_behind_27 rfl rfl ?_
      refine zz_iconst cx dn_X2_behind_28 (v := (1 : Int32)) (by decide) ?_
      refine gs_bind h (fun q2 e_q2 h => ?_)
      refine zz_callVi cx (As := [.int (1 : Int32)]) (rest := []) (c2 := 0) (s2 := 0) (z_cW_isLatestJumpTill E G (1 : Int32) _ e_q2) zm_X2_isLatestJumpTill zk_X2_158 zv_X2_isLatestJumpTill 1 rfl rfl (by decide) rfl (Nat.le_of_ble_eq_true rfl) rfl rfl (by decide) (wc_c_addr E _ _) dn_X2_behind_29 ?_
      refine zz_if_eq cx (tgt := 37) dn_X2_behind_32 (by decide) h (fun h => ?_) (fun h => ?_)
      · exact z_cW_behind_j37 E n G x1 _ X cx cq h
      · refine zz_iconst cx dn_X2_behind_35 (v := (-1 : Int32)) (by decide) ?_
        cases h
        exact zz_iret cx cq (by decide) (by decide) dn_X2_behind_36
    · exact z_cW_behind_j37 E n G x1 _ X cx cq h
set_option maxHeartbeats 4000000 in
set_option maxRecDepth 100000 in
theorem z_cW_comeTo_j57 (E : ze_T) (n : Nat) (G : gs_T) (x1 : Int32) (r : (Int32 × gs_T)) (X : zx_T) (cx : zx (zF E) X cn_X2_comeTo yn_X2_comeTo.cls { frames := 4, cells := 0, slots := 0, locals := 85 } 3) (cq : zq_i (zF E) X (wc_c E r.2) .int r.1) (h : cW_comeTo_j57 n G x1 = some r) : zj (zF E) X 0 0 (wc_c E G) 57 [some (.ref (ad_p E 1)), some (.int x1), none] [] := by
  unfold cW_comeTo_j57 at h
  refine zz_aload_n cx dn_X2_comeTo_57 rfl rfl ?_
  refine zz_get cx zi_X2 (v := .int (G.1 0)) (ci := 2) rfl 1 9 rfl (by decide) zk_X2_67 rfl dn_X2_comeTo_58 ?_
  refine zz_sipush cx dn_X2_comeTo_61 (v := (1000 : Int32)) (by decide) ?_
  refine zz_icmp_lt cx (tgt := 75) dn_X2_comeTo_64 (by decide) h (fun h => ?_) (fun h => ?_)
  · refine zz_aload_n cx dn_X2_comeTo_75 rfl rfl ?_
    refine zz_iload_n cx dn_X2_comeTo_76 rfl rfl ?_
    refine gs_bind h (fun q1 e_q1 h => ?_)
    refine zz_callVv cx (As := [.int x1]) (rest := []) (c2 := 0) (s2 := 0) (z_cW_play E G x1 _ e_q1) zm_X2_play zk_X2_120 zv_X2_play 1 rfl rfl (by decide) rfl (Nat.le_of_ble_eq_true rfl) rfl rfl (by decide) (wc_c_addr E _ _) dn_X2_comeTo_77 ?_
    refine zz_aload_n cx dn_X2_comeTo_80 rfl rfl ?_
    refine zz_iload_n cx dn_X2_comeTo_81 rfl rfl ?_
    refine gs_bind h (fun q2 e_q2 h => ?_)
    refine zz_callVi cx (As := [.int x1]) (rest := []) (c2 := 0) (s2 := 0) (z_cW_behind E n q1 x1 _ e_q2) zm_X2_behind zk_X2_123 zv_X2_behind 1 rfl rfl (by decide) rfl (Nat.le_of_ble_eq_true rfl) rfl rfl (by decide) (wc_c_addr E _ _) dn_X2_comeTo_82 ?_
    cases h
    exact zz_iret cx cq (by decide) (by decide) dn_X2_comeTo_85
  · refine zz_aload_n cx dn_X2_comeTo_67 rfl rfl ?_
    refine zz_iconst cx dn_X2_comeTo_68 (v := (4 : Int32)) (by decide) ?_
    refine zz_iload_n cx dn_X2_comeTo_69 rfl rfl ?_
    refine gs_bind h (fun q3 e_q3 h => ?_)
    refine zz_callVv cx (As := [.int (4 : Int32), .int x1]) (rest := []) (c2 := 0) (s2 := 0) (z_cW_setFault E G (4 : Int32) x1 _ e_q3) zm_X2_setFault zk_X2_57 zv_X2_setFault 1 rfl rfl (by decide) rfl (Nat.le_of_ble_eq_true rfl) rfl rfl (by decide) (wc_c_addr E _ _) dn_X2_comeTo_70 ?_
    refine zz_iconst cx dn_X2_comeTo_73 (v := (-1 : Int32)) (by decide) ?_
    cases h
    exact zz_iret cx cq (by decide) (by decide) dn_X2_comeTo_74
set_option maxHeartbeats 4000000 in
set_option maxRecDepth 100000 in
theorem z_cW_comeTo (E : ze_T) (n : Nat) (G : gs_T) (x1 : Int32) (r : (Int32 × gs_T)) (h : cW_comeTo n G x1 = some r) : zc_i (zF E) (wc_c E G) (wc_c E r.2) yn_X2_comeTo cn_X2_comeTo 3 .int { frames := 4, cells := 0, slots := 0, locals := 85 } [.ref (ad_p E 1), .int x1] r.1 := by
  unfold cW_comeTo at h
  refine zc_i_of (by decide) rfl (Nat.le_of_ble_eq_true rfl) (fun X cx cq => ?_)
  refine zz_aload_n cx dn_X2_comeTo_0 rfl rfl ?_
  refine zz_get cx zi_X2 (v := .ref (ad_p E 23)) (ci := 2) rfl 1 6 rfl (by decide) zk_X2_34 rfl dn_X2_comeTo_1 ?_
  refine zz_iload_n cx dn_X2_comeTo_4 rfl rfl ?_
  refine zz_dup2 cx dn_X2_comeTo_5 rfl rfl ?_
  refine zz_iald cx 23 0 rfl rfl h (v := (gs_a G 20 x1)) rfl dn_X2_comeTo_6 (fun h => ?_)
  refine zz_iconst cx dn_X2_comeTo_7 (v := (1 : Int32)) (by decide) ?_
  refine zz_iadd cx dn_X2_comeTo_8 ?_
  refine zz_iast cx 23 0 rfl rfl h (ws2 := (wc_c E (gs_sa G 20 x1 ((gs_a G 20 x1) + (1 : Int32))))) rfl dn_X2_comeTo_9 (fun h => ?_)
  refine zz_aload_n cx dn_X2_comeTo_10 rfl rfl ?_
  refine zz_iload_n cx dn_X2_comeTo_11 rfl rfl ?_
  refine gs_bind h (fun q1 e_q1 h => ?_)
  refine zz_callVv cx (As := [.int x1]) (rest := []) (c2 := 0) (s2 := 0) (z_cW_openAround E n (gs_sa G 20 x1 ((gs_a G 20 x1) + (1 : Int32))) x1 _ e_q1) zm_X2_openAround zk_X2_101 zv_X2_openAround 1 rfl rfl (by decide) rfl (Nat.le_of_ble_eq_true rfl) rfl rfl (by decide) (wc_c_addr E _ _) dn_X2_comeTo_12 ?_
  refine zz_aload_n cx dn_X2_comeTo_15 rfl rfl ?_
  refine zz_get cx zi_X2 (v := .ref (ad_p E 2)) (ci := 2) rfl 1 0 rfl (by decide) zk_X2_12 rfl dn_X2_comeTo_16 ?_
  refine zz_getN cx zi_X1 (v := .ref (ad_p E 17)) (ci := 1) rfl 2 14 rfl (by decide) zk_X2_105 rfl dn_X2_comeTo_19 ?_
  refine zz_iload_n cx dn_X2_comeTo_22 rfl rfl ?_
  refine zz_iald cx 17 0 rfl rfl h (v := (gs_a q1 14 x1)) rfl dn_X2_comeTo_23 (fun h => ?_)
  refine zz_istore_n cx dn_X2_comeTo_24 rfl (by decide) rfl ?_
  refine zz_iload_n cx dn_X2_comeTo_25 rfl rfl ?_
  refine zz_iconst cx dn_X2_comeTo_26 (v := (-1 : Int32)) (by decide) ?_
  refine zz_icmp_eq cx (tgt := 57) dn_X2_comeTo_27 (by decide) h (fun h => ?_) (fun h => ?_)
  · refine zz_less (L2 := [some (.ref (ad_p E 1)), some (.int x1), none]) (⟨rfl, rfl, trivial⟩) ?_
    exact z_cW_comeTo_j57 E n q1 x1 _ X cx cq h
  · refine zz_aload_n cx dn_X2_comeTo_30 rfl rfl ?_
    refine zz_iload_n cx dn_X2_comeTo_31 rfl rfl ?_
    refine gs_bind h (fun q2 e_q2 h => ?_)
    refine zz_callVi cx (As := [.int (gs_a q1 14 x1)]) (rest := []) (c2 := 0) (s2 := 0) (z_cW_isLeftOut E q1 (gs_a q1 14 x1) _ e_q2) zm_X2_isLeftOut zk_X2_108 zv_X2_isLeftOut 1 rfl rfl (by decide) rfl (Nat.le_of_ble_eq_true rfl) rfl rfl (by decide) (wc_c_addr E _ _) dn_X2_comeTo_32 ?_
    refine zz_if_eq cx (tgt := 57) dn_X2_comeTo_35 (by decide) h (fun h => ?_) (fun h => ?_)
    · refine zz_less (L2 := [some (.ref (ad_p E 1)), some (.int x1), none]) (⟨rfl, rfl, trivial⟩) ?_
      exact z_cW_comeTo_j57 E n q1 x1 _ X cx cq h
    · refine zz_aload_n cx dn_X2_comeTo_38 rfl rfl ?_
      refine zz_iload_n cx dn_X2_comeTo_39 rfl rfl ?_
      refine gs_bind h (fun q3 e_q3 h => ?_)
      refine zz_callVv cx (As := [.int (gs_a q1 14 x1)]) (rest := []) (c2 := 0) (s2 := 0) (z_cW_leaveWithin E n q1 (gs_a q1 14 x1) _ e_q3) zm_X2_leaveWithin zk_X2_111 zv_X2_leaveWithin 1 rfl rfl (by decide) rfl (Nat.le_of_ble_eq_true rfl) rfl rfl (by decide) (wc_c_addr E _ _) dn_X2_comeTo_40 ?_
      refine zz_aload_n cx dn_X2_comeTo_43 rfl rfl ?_
      refine zz_aload_n cx dn_X2_comeTo_44 rfl rfl ?_
      refine zz_get cx zi_X2 (v := .ref (ad_p E 2)) (ci := 2) rfl 1 0 rfl (by decide) zk_X2_12 rfl dn_X2_comeTo_45 ?_
      refine zz_getN cx zi_X1 (v := .ref (ad_p E 9)) (ci := 1) rfl 2 6 rfl (by decide) zk_X2_114 rfl dn_X2_comeTo_48 ?_
      refine zz_iload_n cx dn_X2_comeTo_51 rfl rfl ?_
      refine zz_iald cx 9 0 rfl rfl h (v := (gs_a q3 6 (gs_a q1 14 x1))) rfl dn_X2_comeTo_52 (fun h => ?_)
      refine gs_bind h (fun q4 e_q4 h => ?_)
      refine zz_callVi cx (As := [.int (gs_a q3 6 (gs_a q1 14 x1))]) (rest := []) (c2 := 0) (s2 := 0) (z_cW_endOf E n q3 (gs_a q3 6 (gs_a q1 14 x1)) _ e_q4) zm_X2_endOf zk_X2_117 zv_X2_endOf 1 rfl rfl (by decide) rfl (Nat.le_of_ble_eq_true rfl) rfl rfl (by decide) (wc_c_addr E _ _) dn_X2_comeTo_53 ?_
      cases h
      exact zz_iret cx cq (by decide) (by decide) dn_X2_comeTo_56
set_option maxHeartbeats 4000000 in
set_option maxRecDepth 100000 in
theorem z_cW_playFromFirstBar_18 (E : ze_T) (n : Nat) (r : gs_T) (X : zx_T) (cx : zx (zF E) X cn_X2_playFromFirstBar yn_X2_playFromFirstBar.cls { frames := 5, cells := 0, slots := 0, locals := 107 } 3) (cq : zq_v (zF E) X (wc_c E r)) : ∀ (k : Nat) (x1 : Int32) (x2 : Int32) (G : gs_T), cW_playFromFirstBar_18 n k x1 x2 G = some r → zj (zF E) X 0 0 (wc_c E G) 18 [some (.ref (ad_p E 1)), some (.int x1), some (.int x2)] [] := by
  intro k
  induction k with
  | zero => intro x1 x2 G h; cases h
  | succ k ih =>
    intro x1 x2 G h
    rw [cW_playFromFirstBar_18] at h
    refine zz_iload_n cx dn_X2_playFromFirstBar_18 rfl rfl ?_
    refine zz_ldc cx zk_X2_97 dn_X2_playFromFirstBar_19 ?_
    refine zz_icmp_ge cx (tgt := 41) dn_X2_playFromFirstBar_21 (by decide) h (fun h => ?_) (fun h => ?_)
    · cases h
      exact zz_vret cx cq (by decide) (by decide) dn_X2_playFromFirstBar_41
    · refine zz_iload_n cx dn_X2_playFromFirstBar_24 rfl rfl ?_
      refine zz_iconst cx dn_X2_playFromFirstBar_25 (v := (-1 : Int32)) (by decide) ?_
      refine zz_icmp_eq cx (tgt := 41) dn_X2_playFromFirstBar_26 (by decide) h (fun h => ?_) (fun h => ?_)
      · cases h
        exact zz_vret cx cq (by decide) (by decide) dn_X2_playFromFirstBar_41
      · refine zz_aload_n cx dn_X2_playFromFirstBar_29 rfl rfl ?_
        refine zz_iload_n cx dn_X2_playFromFirstBar_30 rfl rfl ?_
        refine gs_bind h (fun q1 e_q1 h => ?_)
        refine zz_callVi cx (As := [.int x1]) (rest := []) (c2 := 0) (s2 := 0) (z_cW_comeTo E n G x1 _ e_q1) zm_X2_comeTo zk_X2_98 zv_X2_comeTo 1 rfl rfl (by decide) rfl (Nat.le_of_ble_eq_true rfl) rfl rfl (by decide) (wc_c_addr E _ _) dn_X2_playFromFirstBar_31 ?_
        refine zz_istore_n cx dn_X2_playFromFirstBar_34 rfl (by decide) rfl ?_
        refine zz_iinc cx dn_X2_playFromFirstBar_35 (d := (1 : Int32)) rfl (by decide) (by decide) rfl ?_
        refine zz_goto cx dn_X2_playFromFirstBar_38 (tgt := 18) (by decide) ?_
        exact ih q1.1 (x2 + (1 : Int32)) q1.2 h
set_option maxHeartbeats 4000000 in
set_option maxRecDepth 100000 in
theorem z_cW_playFromFirstBar_j15 (E : ze_T) (n : Nat) (G : gs_T) (s0 : Int32) (r : gs_T) (X : zx_T) (cx : zx (zF E) X cn_X2_playFromFirstBar yn_X2_playFromFirstBar.cls { frames := 5, cells := 0, slots := 0, locals := 107 } 3) (cq : zq_v (zF E) X (wc_c E r)) (h : cW_playFromFirstBar_j15 n G s0 = some r) : zj (zF E) X 0 0 (wc_c E G) 15 [some (.ref (ad_p E 1)), none, none] [.int s0] := by
  unfold cW_playFromFirstBar_j15 at h
  refine zz_istore_n cx dn_X2_playFromFirstBar_15 rfl (by decide) rfl ?_
  refine zz_iconst cx dn_X2_playFromFirstBar_16 (v := (0 : Int32)) (by decide) ?_
  refine zz_istore_n cx dn_X2_playFromFirstBar_17 rfl (by decide) rfl ?_
  exact z_cW_playFromFirstBar_18 E n _ X cx cq n s0 (0 : Int32) G h
set_option maxHeartbeats 4000000 in
set_option maxRecDepth 100000 in
theorem z_cW_playFromFirstBar (E : ze_T) (n : Nat) (G : gs_T) (r : gs_T) (h : cW_playFromFirstBar n G = some r) : zc_v (zF E) (wc_c E G) (wc_c E r) yn_X2_playFromFirstBar cn_X2_playFromFirstBar 3 { frames := 5, cells := 0, slots := 0, locals := 107 } [.ref (ad_p E 1)] := by
  unfold cW_playFromFirstBar at h
  refine zc_v_of (by decide) rfl (Nat.le_of_ble_eq_true rfl) (fun X cx cq => ?_)
  refine zz_aload_n cx dn_X2_playFromFirstBar_0 rfl rfl ?_
  refine zz_get cx zi_X2 (v := .ref (ad_p E 2)) (ci := 2) rfl 1 0 rfl (by decide) zk_X2_12 rfl dn_X2_playFromFirstBar_1 ?_
  refine zz_getN cx zi_X1 (v := .int (G.1 6)) (ci := 1) rfl 2 15 rfl (by decide) zk_X2_86 rfl dn_X2_playFromFirstBar_4 ?_
  refine zz_if_le cx (tgt := 14) dn_X2_playFromFirstBar_7 (by decide) h (fun h => ?_) (fun h => ?_)
  · refine zz_iconst cx dn_X2_playFromFirstBar_14 (v := (-1 : Int32)) (by decide) ?_
    exact z_cW_playFromFirstBar_j15 E n G (-1 : Int32) _ X cx cq h
  · refine zz_iconst cx dn_X2_playFromFirstBar_10 (v := (0 : Int32)) (by decide) ?_
    refine zz_goto cx dn_X2_playFromFirstBar_11 (tgt := 15) (by decide) ?_
    exact z_cW_playFromFirstBar_j15 E n G (0 : Int32) _ X cx cq h
set_option maxHeartbeats 4000000 in
set_option maxRecDepth 100000 in
theorem z_cW_go_j25 (E : ze_T) (n : Nat) (G : gs_T) (r : (Int32 × gs_T)) (X : zx_T) (cx : zx (zF E) X cn_X2_go yn_X2_go.cls { frames := 6, cells := 0, slots := 0, locals := 129 } 1) (cq : zq_i (zF E) X (wc_c E r.2) .int r.1) (h : cW_go_j25 n G = some r) : zj (zF E) X 0 0 (wc_c E G) 25 [some (.ref (ad_p E 1))] [] := by
  unfold cW_go_j25 at h
  refine zz_aload_n cx dn_X2_go_25 rfl rfl ?_
  refine zz_get cx zi_X2 (v := .int (G.1 4)) (ci := 2) rfl 1 13 rfl (by decide) zk_X2_48 rfl dn_X2_go_26 ?_
  refine zz_if_eq cx (tgt := 43) dn_X2_go_29 (by decide) h (fun h => ?_) (fun h => ?_)
  · refine zz_aload_n cx dn_X2_go_43 rfl rfl ?_
    refine zz_get cx zi_X2 (v := .int (G.1 0)) (ci := 2) rfl 1 9 rfl (by decide) zk_X2_67 rfl dn_X2_go_44 ?_
    cases h
    exact zz_iret cx cq (by decide) (by decide) dn_X2_go_47
  · refine zz_aload_n cx dn_X2_go_32 rfl rfl ?_
    refine gs_bind h (fun q1 e_q1 h => ?_)
    refine zz_callVv cx (As := []) (rest := []) (c2 := 0) (s2 := 0) (z_cW_forget E n G _ e_q1) zm_X2_forget zk_X2_54 zv_X2_forget 1 rfl rfl (by decide) rfl (Nat.le_of_ble_eq_true rfl) rfl rfl (by decide) (wc_c_addr E _ _) dn_X2_go_33 ?_
    refine zz_iconst cx dn_X2_go_36 (v := (-1 : Int32)) (by decide) ?_
    refine zz_aload_n cx dn_X2_go_37 rfl rfl ?_
    refine zz_get cx zi_X2 (v := .int (q1.1 4)) (ci := 2) rfl 1 13 rfl (by decide) zk_X2_48 rfl dn_X2_go_38 ?_
    refine zz_isub cx dn_X2_go_41 ?_
    cases h
    exact zz_iret cx cq (by decide) (by decide) dn_X2_go_42
set_option maxHeartbeats 4000000 in
set_option maxRecDepth 100000 in
theorem z_cW_go (E : ze_T) (n : Nat) (G : gs_T) (r : (Int32 × gs_T)) (h : cW_go n G = some r) : zc_i (zF E) (wc_c E G) (wc_c E r.2) yn_X2_go cn_X2_go 1 .int { frames := 6, cells := 0, slots := 0, locals := 129 } [.ref (ad_p E 1)] r.1 := by
  unfold cW_go at h
  refine zc_i_of (by decide) rfl (Nat.le_of_ble_eq_true rfl) (fun X cx cq => ?_)
  refine zz_aload_n cx dn_X2_go_0 rfl rfl ?_
  refine gs_bind h (fun q1 e_q1 h => ?_)
  refine zz_callVv cx (As := []) (rest := []) (c2 := 0) (s2 := 0) (z_cW_forget E n G _ e_q1) zm_X2_forget zk_X2_54 zv_X2_forget 1 rfl rfl (by decide) rfl (Nat.le_of_ble_eq_true rfl) rfl rfl (by decide) (wc_c_addr E _ _) dn_X2_go_1 ?_
  refine zz_aload_n cx dn_X2_go_4 rfl rfl ?_
  refine zz_iconst cx dn_X2_go_5 (v := (0 : Int32)) (by decide) ?_
  refine zz_iconst cx dn_X2_go_6 (v := (-1 : Int32)) (by decide) ?_
  refine gs_bind h (fun q2 e_q2 h => ?_)
  refine zz_callVv cx (As := [.int (0 : Int32), .int (-1 : Int32)]) (rest := []) (c2 := 0) (s2 := 0) (z_cW_setFault E q1 (0 : Int32) (-1 : Int32) _ e_q2) zm_X2_setFault zk_X2_57 zv_X2_setFault 1 rfl rfl (by decide) rfl (Nat.le_of_ble_eq_true rfl) rfl rfl (by decide) (wc_c_addr E _ _) dn_X2_go_7 ?_
  refine zz_aload_n cx dn_X2_go_10 rfl rfl ?_
  refine gs_bind h (fun q3 e_q3 h => ?_)
  refine zz_callVv cx (As := []) (rest := []) (c2 := 0) (s2 := 0) (z_cW_findFaultOfJumps E n q2 _ e_q3) zm_X2_findFaultOfJumps zk_X2_61 zv_X2_findFaultOfJumps 1 rfl rfl (by decide) rfl (Nat.le_of_ble_eq_true rfl) rfl rfl (by decide) (wc_c_addr E _ _) dn_X2_go_11 ?_
  refine zz_aload_n cx dn_X2_go_14 rfl rfl ?_
  refine zz_get cx zi_X2 (v := .int (q3.1 4)) (ci := 2) rfl 1 13 rfl (by decide) zk_X2_48 rfl dn_X2_go_15 ?_
  refine zz_if_ne cx (tgt := 25) dn_X2_go_18 (by decide) h (fun h => ?_) (fun h => ?_)
  · refine zz_aload_n cx dn_X2_go_21 rfl rfl ?_
    refine gs_bind h (fun q4 e_q4 h => ?_)
    refine zz_callVv cx (As := []) (rest := []) (c2 := 0) (s2 := 0) (z_cW_playFromFirstBar E n q3 _ e_q4) zm_X2_playFromFirstBar zk_X2_64 zv_X2_playFromFirstBar 1 rfl rfl (by decide) rfl (Nat.le_of_ble_eq_true rfl) rfl rfl (by decide) (wc_c_addr E _ _) dn_X2_go_22 ?_
    exact z_cW_go_j25 E n q4 _ X cx cq h
  · exact z_cW_go_j25 E n q3 _ X cx cq h
end
section
set_option maxHeartbeats 4000000 in
set_option maxRecDepth 100000 in
theorem z_cT_cell (E : ze_T) (G : gs_T) (x0 x1 : Int32) (r : Int32) (h : cT_cell G x0 x1 = some r) : zc_i (zF E) (wc_c E G) (wc_c E G) yn_X3_cell cn_X3_cell 2 .int { frames := 0, cells := 0, slots := 0, locals := 0 } [.int x0, .int x1] r := by
  unfold cT_cell at h
  refine zc_i_of (by decide) rfl (Nat.le_of_ble_eq_true rfl) (fun X cx cq => ?_)
  refine zz_iload_n cx dn_X3_cell_0 rfl rfl ?_
  refine zz_bipush cx dn_X3_cell_1 (v := (41 : Int32)) (by decide) ?_
  refine zz_imul cx dn_X3_cell_3 ?_
  refine zz_iload_n cx dn_X3_cell_4 rfl rfl ?_
  refine zz_iadd cx dn_X3_cell_5 ?_
  cases h
  exact zz_iret cx cq (by decide) (by decide) dn_X3_cell_6
set_option maxHeartbeats 4000000 in
set_option maxRecDepth 100000 in
theorem z_cT_compareContents_12 (E : ze_T) (n : Nat) (x1 x2 : Int32) (K : gs_T → Option gs_T) (r : gs_T) (X : zx_T) (cx : zx (zF E) X cn_X3_compareContents yn_X3_compareContents.cls { frames := 1, cells := 0, slots := 0, locals := 21 } 5) (cq : zq_v (zF E) X (wc_c E r)) (hK : ∀ (G1 : gs_T), K G1 = some r → zj (zF E) X 0 0 (wc_c E G1) 83 [some (.ref (ad_p E 26)), some (.int x1), some (.int x2), none, none] []) : ∀ (k : Nat) (x3 : Int32) (G : gs_T), cT_compareContents_12 n x1 x2 K k x3 G = some r → zj (zF E) X 0 0 (wc_c E G) 12 [some (.ref (ad_p E 26)), some (.int x1), some (.int x2), some (.int x3), none] [] := by
  intro k
  induction k with
  | zero => intro x3 G h; cases h
  | succ k ih =>
    intro x3 G h
    rw [cT_compareContents_12] at h
    refine zz_iload_n cx dn_X3_compareContents_12 rfl rfl ?_
    refine zz_iload_n cx dn_X3_compareContents_13 rfl rfl ?_
    refine zz_icmp_le cx (tgt := 83) dn_X3_compareContents_14 (by decide) h (fun h => ?_) (fun h => ?_)
    · refine zz_less (L2 := [some (.ref (ad_p E 26)), some (.int x1), some (.int x2), none, none]) (⟨rfl, rfl, rfl, trivial⟩) ?_
      exact hK G h
    · refine zz_iload_n cx dn_X3_compareContents_17 rfl rfl ?_
      refine zz_iconst cx dn_X3_compareContents_18 (v := (1 : Int32)) (by decide) ?_
      refine zz_iadd cx dn_X3_compareContents_19 ?_
      refine zz_iload_n cx dn_X3_compareContents_20 rfl rfl ?_
      refine zz_icmp_ge cx (tgt := 41) dn_X3_compareContents_21 (by decide) h (fun h => ?_) (fun h => ?_)
      · refine zz_iconst cx dn_X3_compareContents_41 (v := (0 : Int32)) (by decide) ?_
        refine zz_istore cx dn_X3_compareContents_42 (by decide) rfl ?_
        refine zz_aload_n cx dn_X3_compareContents_44 rfl rfl ?_
        refine zz_get cx zi_X3 (v := .ref (ad_p E 28)) (ci := 3) rfl 26 1 rfl (by decide) zk_X3_15 rfl dn_X3_compareContents_45 ?_
        refine zz_iload_n cx dn_X3_compareContents_48 rfl rfl ?_
        refine zz_iload_n cx dn_X3_compareContents_49 rfl rfl ?_
        refine gs_bind h (fun q1 e_q1 h => ?_)
        refine zz_callSi cx (As := [.int x2, .int x3]) (rest := [.ref (ad_p E 28)]) (c2 := 0) (s2 := 0) (z_cT_cell E G x2 x3 _ e_q1) zm_X3_cell zk_X3_51 zs_X3_cell (by decide) rfl (Nat.le_of_ble_eq_true rfl) rfl rfl (by decide) (wc_c_addr E _ _) dn_X3_compareContents_50 ?_
        refine zz_aload_n cx dn_X3_compareContents_53 rfl rfl ?_
        refine zz_get cx zi_X3 (v := .ref (ad_p E 27)) (ci := 3) rfl 26 0 rfl (by decide) zk_X3_9 rfl dn_X3_compareContents_54 ?_
        refine zz_iload_n cx dn_X3_compareContents_57 rfl rfl ?_
        refine zz_iald cx 27 0 rfl rfl h (v := (gs_a G 23 x2)) rfl dn_X3_compareContents_58 (fun h => ?_)
        refine zz_aload_n cx dn_X3_compareContents_59 rfl rfl ?_
        refine zz_get cx zi_X3 (v := .ref (ad_p E 27)) (ci := 3) rfl 26 0 rfl (by decide) zk_X3_9 rfl dn_X3_compareContents_60 ?_
        refine zz_iload_n cx dn_X3_compareContents_63 rfl rfl ?_
        refine zz_iald cx 27 0 rfl rfl h (v := (gs_a G 23 x3)) rfl dn_X3_compareContents_64 (fun h => ?_)
        refine zz_icmp_ne cx (tgt := 75) dn_X3_compareContents_65 (by decide) h (fun h => ?_) (fun h => ?_)
        · refine zz_iload cx dn_X3_compareContents_68 rfl ?_
          refine zz_iconst cx dn_X3_compareContents_70 (v := (1 : Int32)) (by decide) ?_
          refine zz_iadd cx dn_X3_compareContents_71 ?_
          refine zz_goto cx dn_X3_compareContents_72 (tgt := 76) (by decide) ?_
          refine zz_iast cx 28 0 rfl rfl h (ws2 := (wc_c E (gs_sa G 24 q1 ((0 : Int32) + (1 : Int32))))) rfl dn_X3_compareContents_76 (fun h => ?_)
          refine zz_iinc cx dn_X3_compareContents_77 (d := (-1 : Int32)) rfl (by decide) (by decide) rfl ?_
          refine zz_goto cx dn_X3_compareContents_80 (tgt := 12) (by decide) ?_
          refine zz_less (L2 := [some (.ref (ad_p E 26)), some (.int x1), some (.int x2), some (.int (x3 + (-1 : Int32))), none]) (⟨rfl, rfl, rfl, rfl, trivial⟩) ?_
          exact ih (x3 + (-1 : Int32)) (gs_sa G 24 q1 ((0 : Int32) + (1 : Int32))) h
        · refine zz_iconst cx dn_X3_compareContents_75 (v := (0 : Int32)) (by decide) ?_
          refine zz_iast cx 28 0 rfl rfl h (ws2 := (wc_c E (gs_sa G 24 q1 (0 : Int32)))) rfl dn_X3_compareContents_76 (fun h => ?_)
          refine zz_iinc cx dn_X3_compareContents_77 (d := (-1 : Int32)) rfl (by decide) (by decide) rfl ?_
          refine zz_goto cx dn_X3_compareContents_80 (tgt := 12) (by decide) ?_
          refine zz_less (L2 := [some (.ref (ad_p E 26)), some (.int x1), some (.int x2), some (.int (x3 + (-1 : Int32))), none]) (⟨rfl, rfl, rfl, rfl, trivial⟩) ?_
          exact ih (x3 + (-1 : Int32)) (gs_sa G 24 q1 (0 : Int32)) h
      · refine zz_aload_n cx dn_X3_compareContents_24 rfl rfl ?_
        refine zz_get cx zi_X3 (v := .ref (ad_p E 28)) (ci := 3) rfl 26 1 rfl (by decide) zk_X3_15 rfl dn_X3_compareContents_25 ?_
        refine zz_iload_n cx dn_X3_compareContents_28 rfl rfl ?_
        refine zz_iconst cx dn_X3_compareContents_29 (v := (1 : Int32)) (by decide) ?_
        refine zz_iadd cx dn_X3_compareContents_30 ?_
        refine zz_iload_n cx dn_X3_compareContents_31 rfl rfl ?_
        refine zz_iconst cx dn_X3_compareContents_32 (v := (1 : Int32)) (by decide) ?_
        refine zz_iadd cx dn_X3_compareContents_33 ?_
        refine gs_bind h (fun q2 e_q2 h => ?_)
        refine zz_callSi cx (As := [.int (x2 + (1 : Int32)), .int (x3 + (1 : Int32))]) (rest := [.ref (ad_p E 28)]) (c2 := 0) (s2 := 0) (z_cT_cell E G (x2 + (1 : Int32)) (x3 + (1 : Int32)) _ e_q2) zm_X3_cell zk_X3_51 zs_X3_cell (by decide) rfl (Nat.le_of_ble_eq_true rfl) rfl rfl (by decide) (wc_c_addr E _ _) dn_X3_compareContents_34 ?_
        refine zz_iald cx 28 0 rfl rfl h (v := (gs_a G 24 q2)) rfl dn_X3_compareContents_37 (fun h => ?_)
        refine zz_goto cx dn_X3_compareContents_38 (tgt := 42) (by decide) ?_
        refine zz_istore cx dn_X3_compareContents_42 (by decide) rfl ?_
        refine zz_aload_n cx dn_X3_compareContents_44 rfl rfl ?_
        refine zz_get cx zi_X3 (v := .ref (ad_p E 28)) (ci := 3) rfl 26 1 rfl (by decide) zk_X3_15 rfl dn_X3_compareContents_45 ?_
        refine zz_iload_n cx dn_X3_compareContents_48 rfl rfl ?_
        refine zz_iload_n cx dn_X3_compareContents_49 rfl rfl ?_
        refine gs_bind h (fun q3 e_q3 h => ?_)
        refine zz_callSi cx (As := [.int x2, .int x3]) (rest := [.ref (ad_p E 28)]) (c2 := 0) (s2 := 0) (z_cT_cell E G x2 x3 _ e_q3) zm_X3_cell zk_X3_51 zs_X3_cell (by decide) rfl (Nat.le_of_ble_eq_true rfl) rfl rfl (by decide) (wc_c_addr E _ _) dn_X3_compareContents_50 ?_
        refine zz_aload_n cx dn_X3_compareContents_53 rfl rfl ?_
        refine zz_get cx zi_X3 (v := .ref (ad_p E 27)) (ci := 3) rfl 26 0 rfl (by decide) zk_X3_9 rfl dn_X3_compareContents_54 ?_
        refine zz_iload_n cx dn_X3_compareContents_57 rfl rfl ?_
        refine zz_iald cx 27 0 rfl rfl h (v := (gs_a G 23 x2)) rfl dn_X3_compareContents_58 (fun h => ?_)
        refine zz_aload_n cx dn_X3_compareContents_59 rfl rfl ?_
        refine zz_get cx zi_X3 (v := .ref (ad_p E 27)) (ci := 3) rfl 26 0 rfl (by decide) zk_X3_9 rfl dn_X3_compareContents_60 ?_
        refine zz_iload_n cx dn_X3_compareContents_63 rfl rfl ?_
        refine zz_iald cx 27 0 rfl rfl h (v := (gs_a G 23 x3)) rfl dn_X3_compareContents_64 (fun h => ?_)
        refine zz_icmp_ne cx (tgt := 75) dn_X3_compareContents_65 (by decide) h (fun h => ?_) (fun h => ?_)
        · refine zz_iload cx dn_X3_compareContents_68 rfl ?_
          refine zz_iconst cx dn_X3_compareContents_70 (v := (1 : Int32)) (by decide) ?_
          refine zz_iadd cx dn_X3_compareContents_71 ?_
          refine zz_goto cx dn_X3_compareContents_72 (tgt := 76) (by decide) ?_
          refine zz_iast cx 28 0 rfl rfl h (ws2 := (wc_c E (gs_sa G 24 q3 ((gs_a G 24 q2) + (1 : Int32))))) rfl dn_X3_compareContents_76 (fun h => ?_)
          refine zz_iinc cx dn_X3_compareContents_77 (d := (-1 : Int32)) rfl (by decide) (by decide) rfl ?_
          refine zz_goto cx dn_X3_compareContents_80 (tgt := 12) (by decide) ?_
          refine zz_less (L2 := [some (.ref (ad_p E 26)), some (.int x1), some (.int x2), some (.int (x3 + (-1 : Int32))), none]) (⟨rfl, rfl, rfl, rfl, trivial⟩) ?_
          exact ih (x3 + (-1 : Int32)) (gs_sa G 24 q3 ((gs_a G 24 q2) + (1 : Int32))) h
        · refine zz_iconst cx dn_X3_compareContents_75 (v := (0 : Int32)) (by decide) ?_
          refine zz_iast cx 28 0 rfl rfl h (ws2 := (wc_c E (gs_sa G 24 q3 (0 : Int32)))) rfl dn_X3_compareContents_76 (fun h => ?_)
          refine zz_iinc cx dn_X3_compareContents_77 (d := (-1 : Int32)) rfl (by decide) (by decide) rfl ?_
          refine zz_goto cx dn_X3_compareContents_80 (tgt := 12) (by decide) ?_
          refine zz_less (L2 := [some (.ref (ad_p E 26)), some (.int x1), some (.int x2), some (.int (x3 + (-1 : Int32))), none]) (⟨rfl, rfl, rfl, rfl, trivial⟩) ?_
          exact ih (x3 + (-1 : Int32)) (gs_sa G 24 q3 (0 : Int32)) h
set_option maxHeartbeats 4000000 in
set_option maxRecDepth 100000 in
theorem z_cT_compareContents_4 (E : ze_T) (n : Nat) (x1 : Int32) (r : gs_T) (X : zx_T) (cx : zx (zF E) X cn_X3_compareContents yn_X3_compareContents.cls { frames := 1, cells := 0, slots := 0, locals := 21 } 5) (cq : zq_v (zF E) X (wc_c E r)) : ∀ (k : Nat) (x2 : Int32) (G : gs_T), cT_compareContents_4 n x1 k x2 G = some r → zj (zF E) X 0 0 (wc_c E G) 4 [some (.ref (ad_p E 26)), some (.int x1), some (.int x2), none, none] [] := by
  intro k
  induction k with
  | zero => intro x2 G h; cases h
  | succ k ih =>
    intro x2 G h
    rw [cT_compareContents_4] at h
    refine zz_iload_n cx dn_X3_compareContents_4 rfl rfl ?_
    refine zz_if_lt cx (tgt := 89) dn_X3_compareContents_5 (by decide) h (fun h => ?_) (fun h => ?_)
    · cases h
      exact zz_vret cx cq (by decide) (by decide) dn_X3_compareContents_89
    · refine zz_iload_n cx dn_X3_compareContents_8 rfl rfl ?_
      refine zz_iconst cx dn_X3_compareContents_9 (v := (1 : Int32)) (by decide) ?_
      refine zz_isub cx dn_X3_compareContents_10 ?_
      refine zz_istore_n cx dn_X3_compareContents_11 rfl (by decide) rfl ?_
      refine z_cT_compareContents_12 E n x1 x2 _ _ X cx cq ?_ n (x1 - (1 : Int32)) G h
      intro G0 h
      refine zz_iinc cx dn_X3_compareContents_83 (d := (-1 : Int32)) rfl (by decide) (by decide) rfl ?_
      refine zz_goto cx dn_X3_compareContents_86 (tgt := 4) (by decide) ?_
      exact ih (x2 + (-1 : Int32)) G0 h
set_option maxHeartbeats 4000000 in
set_option maxRecDepth 100000 in
theorem z_cT_compareContents (E : ze_T) (n : Nat) (G : gs_T) (x1 : Int32) (r : gs_T) (h : cT_compareContents n G x1 = some r) : zc_v (zF E) (wc_c E G) (wc_c E r) yn_X3_compareContents cn_X3_compareContents 5 { frames := 1, cells := 0, slots := 0, locals := 21 } [.ref (ad_p E 26), .int x1] := by
  unfold cT_compareContents at h
  refine zc_v_of (by decide) rfl (Nat.le_of_ble_eq_true rfl) (fun X cx cq => ?_)
  refine zz_iload_n cx dn_X3_compareContents_0 rfl rfl ?_
  refine zz_iconst cx dn_X3_compareContents_1 (v := (1 : Int32)) (by decide) ?_
  refine zz_isub cx dn_X3_compareContents_2 ?_
  refine zz_istore_n cx dn_X3_compareContents_3 rfl (by decide) rfl ?_
  exact z_cT_compareContents_4 E n x1 _ X cx cq n (x1 - (1 : Int32)) G h
set_option maxHeartbeats 4000000 in
set_option maxRecDepth 100000 in
theorem z_cT_chooseBlock_9 (E : ze_T) (n : Nat) (x1 x2 x3 : Int32) (r : gs_T) (X : zx_T) (cx : zx (zF E) X cn_X3_chooseBlock yn_X3_chooseBlock.cls { frames := 1, cells := 0, slots := 0, locals := 21 } 5) (cq : zq_v (zF E) X (wc_c E r)) : ∀ (k : Nat) (x4 : Int32) (G : gs_T), cT_chooseBlock_9 n x1 x2 x3 k x4 G = some r → zj (zF E) X 0 0 (wc_c E G) 9 [some (.ref (ad_p E 26)), some (.int x1), some (.int x2), some (.int x3), some (.int x4)] [] := by
  intro k
  induction k with
  | zero => intro x4 G h; cases h
  | succ k ih =>
    intro x4 G h
    rw [cT_chooseBlock_9] at h
    refine zz_iconst cx dn_X3_chooseBlock_9 (v := (2 : Int32)) (by decide) ?_
    refine zz_iload cx dn_X3_chooseBlock_10 rfl ?_
    refine zz_imul cx dn_X3_chooseBlock_12 ?_
    refine zz_iload_n cx dn_X3_chooseBlock_13 rfl rfl ?_
    refine zz_icmp_gt cx (tgt := 95) dn_X3_chooseBlock_14 (by decide) h (fun h => ?_) (fun h => ?_)
    · cases h
      exact zz_vret cx cq (by decide) (by decide) dn_X3_chooseBlock_95
    · refine zz_iload_n cx dn_X3_chooseBlock_17 rfl rfl ?_
      refine zz_iload cx dn_X3_chooseBlock_18 rfl ?_
      refine zz_irem cx dn_X3_chooseBlock_20 h (fun h => ?_)
      refine zz_if_ne cx (tgt := 89) dn_X3_chooseBlock_21 (by decide) h (fun h => ?_) (fun h => ?_)
      · refine zz_aload_n cx dn_X3_chooseBlock_24 rfl rfl ?_
        refine zz_get cx zi_X3 (v := .ref (ad_p E 28)) (ci := 3) rfl 26 1 rfl (by decide) zk_X3_15 rfl dn_X3_chooseBlock_25 ?_
        refine zz_iload_n cx dn_X3_chooseBlock_28 rfl rfl ?_
        refine zz_iload_n cx dn_X3_chooseBlock_29 rfl rfl ?_
        refine zz_iload cx dn_X3_chooseBlock_30 rfl ?_
        refine zz_iadd cx dn_X3_chooseBlock_32 ?_
        refine gs_bind h (fun q1 e_q1 h => ?_)
        refine zz_callSi cx (As := [.int x1, .int (x1 + x4)]) (rest := [.ref (ad_p E 28)]) (c2 := 0) (s2 := 0) (z_cT_cell E G x1 (x1 + x4) _ e_q1) zm_X3_cell zk_X3_51 zs_X3_cell (by decide) rfl (Nat.le_of_ble_eq_true rfl) rfl rfl (by decide) (wc_c_addr E _ _) dn_X3_chooseBlock_33 ?_
        refine zz_iald cx 28 0 rfl rfl h (v := (gs_a G 24 q1)) rfl dn_X3_chooseBlock_36 (fun h => ?_)
        refine zz_iload_n cx dn_X3_chooseBlock_37 rfl rfl ?_
        refine zz_iload cx dn_X3_chooseBlock_38 rfl ?_
        refine zz_isub cx dn_X3_chooseBlock_40 ?_
        refine zz_icmp_lt cx (tgt := 89) dn_X3_chooseBlock_41 (by decide) h (fun h => ?_) (fun h => ?_)
        · refine zz_iinc cx dn_X3_chooseBlock_89 (d := (1 : Int32)) rfl (by decide) (by decide) rfl ?_
          refine zz_goto cx dn_X3_chooseBlock_92 (tgt := 9) (by decide) ?_
          exact ih (x4 + (1 : Int32)) G h
        · refine zz_aload_n cx dn_X3_chooseBlock_44 rfl rfl ?_
          refine zz_get cx zi_X3 (v := .ref (ad_p E 29)) (ci := 3) rfl 26 2 rfl (by decide) zk_X3_18 rfl dn_X3_chooseBlock_45 ?_
          refine zz_iload_n cx dn_X3_chooseBlock_48 rfl rfl ?_
          refine zz_iload cx dn_X3_chooseBlock_49 rfl ?_
          refine gs_bind h (fun q2 e_q2 h => ?_)
          refine zz_callSi cx (As := [.int x1, .int x4]) (rest := [.ref (ad_p E 29)]) (c2 := 0) (s2 := 0) (z_cT_cell E G x1 x4 _ e_q2) zm_X3_cell zk_X3_51 zs_X3_cell (by decide) rfl (Nat.le_of_ble_eq_true rfl) rfl rfl (by decide) (wc_c_addr E _ _) dn_X3_chooseBlock_51 ?_
          refine zz_iald cx 29 0 rfl rfl h (v := (gs_a G 25 q2)) rfl dn_X3_chooseBlock_54 (fun h => ?_)
          refine zz_aload_n cx dn_X3_chooseBlock_55 rfl rfl ?_
          refine zz_get cx zi_X3 (v := .ref (ad_p E 29)) (ci := 3) rfl 26 2 rfl (by decide) zk_X3_18 rfl dn_X3_chooseBlock_56 ?_
          refine zz_iload_n cx dn_X3_chooseBlock_59 rfl rfl ?_
          refine zz_iald cx 29 0 rfl rfl h (v := (gs_a G 25 x3)) rfl dn_X3_chooseBlock_60 (fun h => ?_)
          refine zz_icmp_ge cx (tgt := 89) dn_X3_chooseBlock_61 (by decide) h (fun h => ?_) (fun h => ?_)
          · refine zz_iinc cx dn_X3_chooseBlock_89 (d := (1 : Int32)) rfl (by decide) (by decide) rfl ?_
            refine zz_goto cx dn_X3_chooseBlock_92 (tgt := 9) (by decide) ?_
            exact ih (x4 + (1 : Int32)) G h
          · refine zz_aload_n cx dn_X3_chooseBlock_64 rfl rfl ?_
            refine zz_get cx zi_X3 (v := .ref (ad_p E 29)) (ci := 3) rfl 26 2 rfl (by decide) zk_X3_18 rfl dn_X3_chooseBlock_65 ?_
            refine zz_iload_n cx dn_X3_chooseBlock_68 rfl rfl ?_
            refine zz_aload_n cx dn_X3_chooseBlock_69 rfl rfl ?_
            refine zz_get cx zi_X3 (v := .ref (ad_p E 29)) (ci := 3) rfl 26 2 rfl (by decide) zk_X3_18 rfl dn_X3_chooseBlock_70 ?_
            refine zz_iload_n cx dn_X3_chooseBlock_73 rfl rfl ?_
            refine zz_iload cx dn_X3_chooseBlock_74 rfl ?_
            refine gs_bind h (fun q3 e_q3 h => ?_)
            refine zz_callSi cx (As := [.int x1, .int x4]) (rest := [.ref (ad_p E 29), .int x3, .ref (ad_p E 29)]) (c2 := 0) (s2 := 0) (z_cT_cell E G x1 x4 _ e_q3) zm_X3_cell zk_X3_51 zs_X3_cell (by decide) rfl (Nat.le_of_ble_eq_true rfl) rfl rfl (by decide) (wc_c_addr E _ _) dn_X3_chooseBlock_76 ?_
            refine zz_iald cx 29 0 rfl rfl h (v := (gs_a G 25 q3)) rfl dn_X3_chooseBlock_79 (fun h => ?_)
            refine zz_iast cx 29 0 rfl rfl h (ws2 := (wc_c E (gs_sa G 25 x3 (gs_a G 25 q3)))) rfl dn_X3_chooseBlock_80 (fun h => ?_)
            refine zz_aload_n cx dn_X3_chooseBlock_81 rfl rfl ?_
            refine zz_get cx zi_X3 (v := .ref (ad_p E 30)) (ci := 3) rfl 26 3 rfl (by decide) zk_X3_21 rfl dn_X3_chooseBlock_82 ?_
            refine zz_iload_n cx dn_X3_chooseBlock_85 rfl rfl ?_
            refine zz_iload cx dn_X3_chooseBlock_86 rfl ?_
            refine zz_iast cx 30 0 rfl rfl h (ws2 := (wc_c E (gs_sa (gs_sa G 25 x3 (gs_a G 25 q3)) 26 x3 x4))) rfl dn_X3_chooseBlock_88 (fun h => ?_)
            refine zz_iinc cx dn_X3_chooseBlock_89 (d := (1 : Int32)) rfl (by decide) (by decide) rfl ?_
            refine zz_goto cx dn_X3_chooseBlock_92 (tgt := 9) (by decide) ?_
            exact ih (x4 + (1 : Int32)) (gs_sa (gs_sa G 25 x3 (gs_a G 25 q3)) 26 x3 x4) h
      · refine zz_iinc cx dn_X3_chooseBlock_89 (d := (1 : Int32)) rfl (by decide) (by decide) rfl ?_
        refine zz_goto cx dn_X3_chooseBlock_92 (tgt := 9) (by decide) ?_
        exact ih (x4 + (1 : Int32)) G h
set_option maxHeartbeats 4000000 in
set_option maxRecDepth 100000 in
theorem z_cT_chooseBlock (E : ze_T) (n : Nat) (G : gs_T) (x1 x2 : Int32) (r : gs_T) (h : cT_chooseBlock n G x1 x2 = some r) : zc_v (zF E) (wc_c E G) (wc_c E r) yn_X3_chooseBlock cn_X3_chooseBlock 5 { frames := 1, cells := 0, slots := 0, locals := 21 } [.ref (ad_p E 26), .int x1, .int x2] := by
  unfold cT_chooseBlock at h
  refine zc_v_of (by decide) rfl (Nat.le_of_ble_eq_true rfl) (fun X cx cq => ?_)
  refine zz_iload_n cx dn_X3_chooseBlock_0 rfl rfl ?_
  refine zz_iload_n cx dn_X3_chooseBlock_1 rfl rfl ?_
  refine gs_bind h (fun q1 e_q1 h => ?_)
  refine zz_callSi cx (As := [.int x1, .int x2]) (rest := []) (c2 := 0) (s2 := 0) (z_cT_cell E G x1 x2 _ e_q1) zm_X3_cell zk_X3_51 zs_X3_cell (by decide) rfl (Nat.le_of_ble_eq_true rfl) rfl rfl (by decide) (wc_c_addr E _ _) dn_X3_chooseBlock_2 ?_
  refine zz_istore_n cx dn_X3_chooseBlock_5 rfl (by decide) rfl ?_
  refine zz_iconst cx dn_X3_chooseBlock_6 (v := (1 : Int32)) (by decide) ?_
  refine zz_istore cx dn_X3_chooseBlock_7 (by decide) rfl ?_
  exact z_cT_chooseBlock_9 E n x1 x2 q1 _ X cx cq n (1 : Int32) G h
set_option maxHeartbeats 4000000 in
set_option maxRecDepth 100000 in
theorem z_cT_chooseParts_17 (E : ze_T) (n : Nat) (x1 x2 x3 : Int32) (r : gs_T) (X : zx_T) (cx : zx (zF E) X cn_X3_chooseParts yn_X3_chooseParts.cls { frames := 1, cells := 0, slots := 0, locals := 21 } 7) (cq : zq_v (zF E) X (wc_c E r)) : ∀ (k : Nat) (x4 : Int32) (x5 : Int32) (G : gs_T), cT_chooseParts_17 n x1 x2 x3 k x4 x5 G = some r → zj (zF E) X 0 0 (wc_c E G) 17 [some (.ref (ad_p E 26)), some (.int x1), some (.int x2), some (.int x3), some (.int x4), some (.int x5), none] [] := by
  intro k
  induction k with
  | zero => intro x4 x5 G h; cases h
  | succ k ih =>
    intro x4 x5 G h
    rw [cT_chooseParts_17] at h
    refine zz_iload cx dn_X3_chooseParts_17 rfl ?_
    refine zz_iload_n cx dn_X3_chooseParts_19 rfl rfl ?_
    refine zz_icmp_ge cx (tgt := 85) dn_X3_chooseParts_20 (by decide) h (fun h => ?_) (fun h => ?_)
    · refine zz_aload_n cx dn_X3_chooseParts_85 rfl rfl ?_
      refine zz_get cx zi_X3 (v := .ref (ad_p E 29)) (ci := 3) rfl 26 2 rfl (by decide) zk_X3_18 rfl dn_X3_chooseParts_86 ?_
      refine zz_iload_n cx dn_X3_chooseParts_89 rfl rfl ?_
      refine zz_iload cx dn_X3_chooseParts_90 rfl ?_
      refine zz_iast cx 29 0 rfl rfl h (ws2 := (wc_c E (gs_sa G 25 x3 x4))) rfl dn_X3_chooseParts_92 (fun h => ?_)
      cases h
      exact zz_vret cx cq (by decide) (by decide) dn_X3_chooseParts_93
    · refine zz_iload cx dn_X3_chooseParts_23 rfl ?_
      refine zz_iconst cx dn_X3_chooseParts_25 (v := (2 : Int32)) (by decide) ?_
      refine zz_icmp_le cx (tgt := 85) dn_X3_chooseParts_26 (by decide) h (fun h => ?_) (fun h => ?_)
      · refine zz_aload_n cx dn_X3_chooseParts_85 rfl rfl ?_
        refine zz_get cx zi_X3 (v := .ref (ad_p E 29)) (ci := 3) rfl 26 2 rfl (by decide) zk_X3_18 rfl dn_X3_chooseParts_86 ?_
        refine zz_iload_n cx dn_X3_chooseParts_89 rfl rfl ?_
        refine zz_iload cx dn_X3_chooseParts_90 rfl ?_
        refine zz_iast cx 29 0 rfl rfl h (ws2 := (wc_c E (gs_sa G 25 x3 x4))) rfl dn_X3_chooseParts_92 (fun h => ?_)
        cases h
        exact zz_vret cx cq (by decide) (by decide) dn_X3_chooseParts_93
      · refine zz_aload_n cx dn_X3_chooseParts_29 rfl rfl ?_
        refine zz_get cx zi_X3 (v := .ref (ad_p E 29)) (ci := 3) rfl 26 2 rfl (by decide) zk_X3_18 rfl dn_X3_chooseParts_30 ?_
        refine zz_iload_n cx dn_X3_chooseParts_33 rfl rfl ?_
        refine zz_iload cx dn_X3_chooseParts_34 rfl ?_
        refine gs_bind h (fun q1 e_q1 h => ?_)
        refine zz_callSi cx (As := [.int x1, .int x5]) (rest := [.ref (ad_p E 29)]) (c2 := 0) (s2 := 0) (z_cT_cell E G x1 x5 _ e_q1) zm_X3_cell zk_X3_51 zs_X3_cell (by decide) rfl (Nat.le_of_ble_eq_true rfl) rfl rfl (by decide) (wc_c_addr E _ _) dn_X3_chooseParts_36 ?_
        refine zz_iald cx 29 0 rfl rfl h (v := (gs_a G 25 q1)) rfl dn_X3_chooseParts_39 (fun h => ?_)
        refine zz_aload_n cx dn_X3_chooseParts_40 rfl rfl ?_
        refine zz_get cx zi_X3 (v := .ref (ad_p E 29)) (ci := 3) rfl 26 2 rfl (by decide) zk_X3_18 rfl dn_X3_chooseParts_41 ?_
        refine zz_iload_n cx dn_X3_chooseParts_44 rfl rfl ?_
        refine zz_iload cx dn_X3_chooseParts_45 rfl ?_
        refine zz_iadd cx dn_X3_chooseParts_47 ?_
        refine zz_iload_n cx dn_X3_chooseParts_48 rfl rfl ?_
        refine zz_iload cx dn_X3_chooseParts_49 rfl ?_
        refine zz_isub cx dn_X3_chooseParts_51 ?_
        refine gs_bind h (fun q2 e_q2 h => ?_)
        refine zz_callSi cx (As := [.int (x1 + x5), .int (x2 - x5)]) (rest := [.ref (ad_p E 29), .int (gs_a G 25 q1)]) (c2 := 0) (s2 := 0) (z_cT_cell E G (x1 + x5) (x2 - x5) _ e_q2) zm_X3_cell zk_X3_51 zs_X3_cell (by decide) rfl (Nat.le_of_ble_eq_true rfl) rfl rfl (by decide) (wc_c_addr E _ _) dn_X3_chooseParts_52 ?_
        refine zz_iald cx 29 0 rfl rfl h (v := (gs_a G 25 q2)) rfl dn_X3_chooseParts_55 (fun h => ?_)
        refine zz_iadd cx dn_X3_chooseParts_56 ?_
        refine zz_istore cx dn_X3_chooseParts_57 (by decide) rfl ?_
        refine zz_iload cx dn_X3_chooseParts_59 rfl ?_
        refine zz_iload cx dn_X3_chooseParts_61 rfl ?_
        refine zz_icmp_ge cx (tgt := 79) dn_X3_chooseParts_63 (by decide) h (fun h => ?_) (fun h => ?_)
        · refine zz_iinc cx dn_X3_chooseParts_79 (d := (1 : Int32)) rfl (by decide) (by decide) rfl ?_
          refine zz_goto cx dn_X3_chooseParts_82 (tgt := 17) (by decide) ?_
          refine zz_less (L2 := [some (.ref (ad_p E 26)), some (.int x1), some (.int x2), some (.int x3), some (.int x4), some (.int (x5 + (1 : Int32))), none]) (⟨rfl, rfl, rfl, rfl, rfl, rfl, trivial⟩) ?_
          exact ih x4 (x5 + (1 : Int32)) G h
        · refine zz_iload cx dn_X3_chooseParts_66 rfl ?_
          refine zz_istore cx dn_X3_chooseParts_68 (by decide) rfl ?_
          refine zz_aload_n cx dn_X3_chooseParts_70 rfl rfl ?_
          refine zz_get cx zi_X3 (v := .ref (ad_p E 30)) (ci := 3) rfl 26 3 rfl (by decide) zk_X3_21 rfl dn_X3_chooseParts_71 ?_
          refine zz_iload_n cx dn_X3_chooseParts_74 rfl rfl ?_
          refine zz_iload cx dn_X3_chooseParts_75 rfl ?_
          refine zz_ineg cx dn_X3_chooseParts_77 ?_
          refine zz_iast cx 30 0 rfl rfl h (ws2 := (wc_c E (gs_sa G 26 x3 (-x5)))) rfl dn_X3_chooseParts_78 (fun h => ?_)
          refine zz_iinc cx dn_X3_chooseParts_79 (d := (1 : Int32)) rfl (by decide) (by decide) rfl ?_
          refine zz_goto cx dn_X3_chooseParts_82 (tgt := 17) (by decide) ?_
          refine zz_less (L2 := [some (.ref (ad_p E 26)), some (.int x1), some (.int x2), some (.int x3), some (.int ((gs_a G 25 q1) + (gs_a G 25 q2))), some (.int (x5 + (1 : Int32))), none]) (⟨rfl, rfl, rfl, rfl, rfl, rfl, trivial⟩) ?_
          exact ih ((gs_a G 25 q1) + (gs_a G 25 q2)) (x5 + (1 : Int32)) (gs_sa G 26 x3 (-x5)) h
set_option maxHeartbeats 4000000 in
set_option maxRecDepth 100000 in
theorem z_cT_chooseParts (E : ze_T) (n : Nat) (G : gs_T) (x1 x2 : Int32) (r : gs_T) (h : cT_chooseParts n G x1 x2 = some r) : zc_v (zF E) (wc_c E G) (wc_c E r) yn_X3_chooseParts cn_X3_chooseParts 7 { frames := 1, cells := 0, slots := 0, locals := 21 } [.ref (ad_p E 26), .int x1, .int x2] := by
  unfold cT_chooseParts at h
  refine zc_v_of (by decide) rfl (Nat.le_of_ble_eq_true rfl) (fun X cx cq => ?_)
  refine zz_iload_n cx dn_X3_chooseParts_0 rfl rfl ?_
  refine zz_iload_n cx dn_X3_chooseParts_1 rfl rfl ?_
  refine gs_bind h (fun q1 e_q1 h => ?_)
  refine zz_callSi cx (As := [.int x1, .int x2]) (rest := []) (c2 := 0) (s2 := 0) (z_cT_cell E G x1 x2 _ e_q1) zm_X3_cell zk_X3_51 zs_X3_cell (by decide) rfl (Nat.le_of_ble_eq_true rfl) rfl rfl (by decide) (wc_c_addr E _ _) dn_X3_chooseParts_2 ?_
  refine zz_istore_n cx dn_X3_chooseParts_5 rfl (by decide) rfl ?_
  refine zz_aload_n cx dn_X3_chooseParts_6 rfl rfl ?_
  refine zz_get cx zi_X3 (v := .ref (ad_p E 29)) (ci := 3) rfl 26 2 rfl (by decide) zk_X3_18 rfl dn_X3_chooseParts_7 ?_
  refine zz_iload_n cx dn_X3_chooseParts_10 rfl rfl ?_
  refine zz_iald cx 29 0 rfl rfl h (v := (gs_a G 25 q1)) rfl dn_X3_chooseParts_11 (fun h => ?_)
  refine zz_istore cx dn_X3_chooseParts_12 (by decide) rfl ?_
  refine zz_iconst cx dn_X3_chooseParts_14 (v := (1 : Int32)) (by decide) ?_
  refine zz_istore cx dn_X3_chooseParts_15 (by decide) rfl ?_
  exact z_cT_chooseParts_17 E n x1 x2 q1 _ X cx cq n (gs_a G 25 q1) (1 : Int32) G h
set_option maxHeartbeats 4000000 in
set_option maxRecDepth 100000 in
theorem z_cT_choose (E : ze_T) (n : Nat) (G : gs_T) (x1 x2 : Int32) (r : gs_T) (h : cT_choose n G x1 x2 = some r) : zc_v (zF E) (wc_c E G) (wc_c E r) yn_X3_choose cn_X3_choose 4 { frames := 2, cells := 0, slots := 0, locals := 47 } [.ref (ad_p E 26), .int x1, .int x2] := by
  unfold cT_choose at h
  refine zc_v_of (by decide) rfl (Nat.le_of_ble_eq_true rfl) (fun X cx cq => ?_)
  refine zz_iload_n cx dn_X3_choose_0 rfl rfl ?_
  refine zz_iload_n cx dn_X3_choose_1 rfl rfl ?_
  refine gs_bind h (fun q1 e_q1 h => ?_)
  refine zz_callSi cx (As := [.int x1, .int x2]) (rest := []) (c2 := 0) (s2 := 0) (z_cT_cell E G x1 x2 _ e_q1) zm_X3_cell zk_X3_51 zs_X3_cell (by decide) rfl (Nat.le_of_ble_eq_true rfl) rfl rfl (by decide) (wc_c_addr E _ _) dn_X3_choose_2 ?_
  refine zz_istore_n cx dn_X3_choose_5 rfl (by decide) rfl ?_
  refine zz_iload_n cx dn_X3_choose_6 rfl rfl ?_
  refine zz_iconst cx dn_X3_choose_7 (v := (1 : Int32)) (by decide) ?_
  refine zz_icmp_ne cx (tgt := 26) dn_X3_choose_8 (by decide) h (fun h => ?_) (fun h => ?_)
  · refine zz_aload_n cx dn_X3_choose_11 rfl rfl ?_
    refine zz_get cx zi_X3 (v := .ref (ad_p E 29)) (ci := 3) rfl 26 2 rfl (by decide) zk_X3_18 rfl dn_X3_choose_12 ?_
    refine zz_iload_n cx dn_X3_choose_15 rfl rfl ?_
    refine zz_iconst cx dn_X3_choose_16 (v := (1 : Int32)) (by decide) ?_
    refine zz_iast cx 29 0 rfl rfl h (ws2 := (wc_c E (gs_sa G 25 q1 (1 : Int32)))) rfl dn_X3_choose_17 (fun h => ?_)
    refine zz_aload_n cx dn_X3_choose_18 rfl rfl ?_
    refine zz_get cx zi_X3 (v := .ref (ad_p E 30)) (ci := 3) rfl 26 3 rfl (by decide) zk_X3_21 rfl dn_X3_choose_19 ?_
    refine zz_iload_n cx dn_X3_choose_22 rfl rfl ?_
    refine zz_iconst cx dn_X3_choose_23 (v := (0 : Int32)) (by decide) ?_
    refine zz_iast cx 30 0 rfl rfl h (ws2 := (wc_c E (gs_sa (gs_sa G 25 q1 (1 : Int32)) 26 q1 (0 : Int32)))) rfl dn_X3_choose_24 (fun h => ?_)
    cases h
    exact zz_vret cx cq (by decide) (by decide) dn_X3_choose_25
  · refine zz_aload_n cx dn_X3_choose_26 rfl rfl ?_
    refine zz_get cx zi_X3 (v := .ref (ad_p E 29)) (ci := 3) rfl 26 2 rfl (by decide) zk_X3_18 rfl dn_X3_choose_27 ?_
    refine zz_iload_n cx dn_X3_choose_30 rfl rfl ?_
    refine zz_iload_n cx dn_X3_choose_31 rfl rfl ?_
    refine zz_iconst cx dn_X3_choose_32 (v := (1 : Int32)) (by decide) ?_
    refine zz_iadd cx dn_X3_choose_33 ?_
    refine zz_iast cx 29 0 rfl rfl h (ws2 := (wc_c E (gs_sa G 25 q1 (x2 + (1 : Int32))))) rfl dn_X3_choose_34 (fun h => ?_)
    refine zz_aload_n cx dn_X3_choose_35 rfl rfl ?_
    refine zz_iload_n cx dn_X3_choose_36 rfl rfl ?_
    refine zz_iload_n cx dn_X3_choose_37 rfl rfl ?_
    refine gs_bind h (fun q2 e_q2 h => ?_)
    refine zz_callVv cx (As := [.int x1, .int x2]) (rest := []) (c2 := 0) (s2 := 0) (z_cT_chooseBlock E n (gs_sa G 25 q1 (x2 + (1 : Int32))) x1 x2 _ e_q2) zm_X3_chooseBlock zk_X3_55 zv_X3_chooseBlock 26 rfl rfl (by decide) rfl (Nat.le_of_ble_eq_true rfl) rfl rfl (by decide) (wc_c_addr E _ _) dn_X3_choose_38 ?_
    refine zz_aload_n cx dn_X3_choose_41 rfl rfl ?_
    refine zz_iload_n cx dn_X3_choose_42 rfl rfl ?_
    refine zz_iload_n cx dn_X3_choose_43 rfl rfl ?_
    refine gs_bind h (fun q3 e_q3 h => ?_)
    refine zz_callVv cx (As := [.int x1, .int x2]) (rest := []) (c2 := 0) (s2 := 0) (z_cT_chooseParts E n q2 x1 x2 _ e_q3) zm_X3_chooseParts zk_X3_58 zv_X3_chooseParts 26 rfl rfl (by decide) rfl (Nat.le_of_ble_eq_true rfl) rfl rfl (by decide) (wc_c_addr E _ _) dn_X3_choose_44 ?_
    cases h
    exact zz_vret cx cq (by decide) (by decide) dn_X3_choose_47
set_option maxHeartbeats 4000000 in
set_option maxRecDepth 100000 in
theorem z_cT_putAside (E : ze_T) (G : gs_T) (x1 x2 : Int32) (r : gs_T) (h : cT_putAside G x1 x2 = some r) : zc_v (zF E) (wc_c E G) (wc_c E r) yn_X3_putAside cn_X3_putAside 3 { frames := 0, cells := 0, slots := 0, locals := 0 } [.ref (ad_p E 26), .int x1, .int x2] := by
  unfold cT_putAside at h
  refine zc_v_of (by decide) rfl (Nat.le_of_ble_eq_true rfl) (fun X cx cq => ?_)
  refine zz_aload_n cx dn_X3_putAside_0 rfl rfl ?_
  refine zz_get cx zi_X3 (v := .int (G.1 10)) (ci := 3) rfl 26 8 rfl (by decide) zk_X3_64 rfl dn_X3_putAside_1 ?_
  refine zz_sipush cx dn_X3_putAside_4 (v := (160 : Int32)) (by decide) ?_
  refine zz_icmp_ge cx (tgt := 40) dn_X3_putAside_7 (by decide) h (fun h => ?_) (fun h => ?_)
  · cases h
    exact zz_vret cx cq (by decide) (by decide) dn_X3_putAside_40
  · refine zz_aload_n cx dn_X3_putAside_10 rfl rfl ?_
    refine zz_get cx zi_X3 (v := .ref (ad_p E 31)) (ci := 3) rfl 26 4 rfl (by decide) zk_X3_24 rfl dn_X3_putAside_11 ?_
    refine zz_aload_n cx dn_X3_putAside_14 rfl rfl ?_
    refine zz_get cx zi_X3 (v := .int (G.1 10)) (ci := 3) rfl 26 8 rfl (by decide) zk_X3_64 rfl dn_X3_putAside_15 ?_
    refine zz_iload_n cx dn_X3_putAside_18 rfl rfl ?_
    refine zz_iast cx 31 0 rfl rfl h (ws2 := (wc_c E (gs_sa G 27 (G.1 10) x1))) rfl dn_X3_putAside_19 (fun h => ?_)
    refine zz_aload_n cx dn_X3_putAside_20 rfl rfl ?_
    refine zz_get cx zi_X3 (v := .ref (ad_p E 32)) (ci := 3) rfl 26 5 rfl (by decide) zk_X3_27 rfl dn_X3_putAside_21 ?_
    refine zz_aload_n cx dn_X3_putAside_24 rfl rfl ?_
    refine zz_get cx zi_X3 (v := .int (G.1 10)) (ci := 3) rfl 26 8 rfl (by decide) zk_X3_64 rfl dn_X3_putAside_25 ?_
    refine zz_iload_n cx dn_X3_putAside_28 rfl rfl ?_
    refine zz_iast cx 32 0 rfl rfl h (ws2 := (wc_c E (gs_sa (gs_sa G 27 (G.1 10) x1) 28 (G.1 10) x2))) rfl dn_X3_putAside_29 (fun h => ?_)
    refine zz_aload_n cx dn_X3_putAside_30 rfl rfl ?_
    refine zz_dup cx dn_X3_putAside_31 rfl ?_
    refine zz_get cx zi_X3 (v := .int (G.1 10)) (ci := 3) rfl 26 8 rfl (by decide) zk_X3_64 rfl dn_X3_putAside_32 ?_
    refine zz_iconst cx dn_X3_putAside_35 (v := (1 : Int32)) (by decide) ?_
    refine zz_iadd cx dn_X3_putAside_36 ?_
    refine zz_put cx (ws2 := (wc_c E (gs_sv (gs_sa (gs_sa G 27 (G.1 10) x1) 28 (G.1 10) x2) 10 ((G.1 10) + (1 : Int32))))) (ty := .int) (ci := 3) zi_X3 fk_X3 nm_X3 rfl 26 8 rfl (by decide) zk_X3_64 rfl (by decide +kernel) rfl rfl (Nat.le_of_ble_eq_true rfl) rfl dn_X3_putAside_37 ?_
    cases h
    exact zz_vret cx cq (by decide) (by decide) dn_X3_putAside_40
set_option maxHeartbeats 4000000 in
set_option maxRecDepth 100000 in
theorem z_cT_addItem (E : ze_T) (G : gs_T) (x1 x2 : Int32) (r : gs_T) (h : cT_addItem G x1 x2 = some r) : zc_v (zF E) (wc_c E G) (wc_c E r) yn_X3_addItem cn_X3_addItem 3 { frames := 0, cells := 0, slots := 0, locals := 0 } [.ref (ad_p E 26), .int x1, .int x2] := by
  unfold cT_addItem at h
  refine zc_v_of (by decide) rfl (Nat.le_of_ble_eq_true rfl) (fun X cx cq => ?_)
  refine zz_aload_n cx dn_X3_addItem_0 rfl rfl ?_
  refine zz_get cx zi_X3 (v := .int (G.1 11)) (ci := 3) rfl 26 9 rfl (by decide) zk_X3_61 rfl dn_X3_addItem_1 ?_
  refine zz_bipush cx dn_X3_addItem_4 (v := (80 : Int32)) (by decide) ?_
  refine zz_icmp_ge cx (tgt := 39) dn_X3_addItem_6 (by decide) h (fun h => ?_) (fun h => ?_)
  · cases h
    exact zz_vret cx cq (by decide) (by decide) dn_X3_addItem_39
  · refine zz_aload_n cx dn_X3_addItem_9 rfl rfl ?_
    refine zz_get cx zi_X3 (v := .ref (ad_p E 33)) (ci := 3) rfl 26 6 rfl (by decide) zk_X3_30 rfl dn_X3_addItem_10 ?_
    refine zz_aload_n cx dn_X3_addItem_13 rfl rfl ?_
    refine zz_get cx zi_X3 (v := .int (G.1 11)) (ci := 3) rfl 26 9 rfl (by decide) zk_X3_61 rfl dn_X3_addItem_14 ?_
    refine zz_iload_n cx dn_X3_addItem_17 rfl rfl ?_
    refine zz_iast cx 33 0 rfl rfl h (ws2 := (wc_c E (gs_sa G 29 (G.1 11) x1))) rfl dn_X3_addItem_18 (fun h => ?_)
    refine zz_aload_n cx dn_X3_addItem_19 rfl rfl ?_
    refine zz_get cx zi_X3 (v := .ref (ad_p E 34)) (ci := 3) rfl 26 7 rfl (by decide) zk_X3_33 rfl dn_X3_addItem_20 ?_
    refine zz_aload_n cx dn_X3_addItem_23 rfl rfl ?_
    refine zz_get cx zi_X3 (v := .int (G.1 11)) (ci := 3) rfl 26 9 rfl (by decide) zk_X3_61 rfl dn_X3_addItem_24 ?_
    refine zz_iload_n cx dn_X3_addItem_27 rfl rfl ?_
    refine zz_iast cx 34 0 rfl rfl h (ws2 := (wc_c E (gs_sa (gs_sa G 29 (G.1 11) x1) 30 (G.1 11) x2))) rfl dn_X3_addItem_28 (fun h => ?_)
    refine zz_aload_n cx dn_X3_addItem_29 rfl rfl ?_
    refine zz_dup cx dn_X3_addItem_30 rfl ?_
    refine zz_get cx zi_X3 (v := .int (G.1 11)) (ci := 3) rfl 26 9 rfl (by decide) zk_X3_61 rfl dn_X3_addItem_31 ?_
    refine zz_iconst cx dn_X3_addItem_34 (v := (1 : Int32)) (by decide) ?_
    refine zz_iadd cx dn_X3_addItem_35 ?_
    refine zz_put cx (ws2 := (wc_c E (gs_sv (gs_sa (gs_sa G 29 (G.1 11) x1) 30 (G.1 11) x2) 11 ((G.1 11) + (1 : Int32))))) (ty := .int) (ci := 3) zi_X3 fk_X3 nm_X3 rfl 26 9 rfl (by decide) zk_X3_61 rfl (by decide +kernel) rfl rfl (Nat.le_of_ble_eq_true rfl) rfl dn_X3_addItem_36 ?_
    cases h
    exact zz_vret cx cq (by decide) (by decide) dn_X3_addItem_39
set_option maxHeartbeats 4000000 in
set_option maxRecDepth 100000 in
theorem z_cT_writePart (E : ze_T) (G : gs_T) (x1 x2 : Int32) (r : gs_T) (h : cT_writePart G x1 x2 = some r) : zc_v (zF E) (wc_c E G) (wc_c E r) yn_X3_writePart cn_X3_writePart 4 { frames := 1, cells := 0, slots := 0, locals := 22 } [.ref (ad_p E 26), .int x1, .int x2] := by
  unfold cT_writePart at h
  refine zc_v_of (by decide) rfl (Nat.le_of_ble_eq_true rfl) (fun X cx cq => ?_)
  refine zz_iload_n cx dn_X3_writePart_0 rfl rfl ?_
  refine zz_if_ne cx (tgt := 11) dn_X3_writePart_1 (by decide) h (fun h => ?_) (fun h => ?_)
  · refine zz_aload_n cx dn_X3_writePart_4 rfl rfl ?_
    refine zz_iconst cx dn_X3_writePart_5 (v := (2 : Int32)) (by decide) ?_
    refine zz_iconst cx dn_X3_writePart_6 (v := (0 : Int32)) (by decide) ?_
    refine gs_bind h (fun q8 e_q8 h => ?_)
    refine zz_callVv cx (As := [.int (2 : Int32), .int (0 : Int32)]) (rest := []) (c2 := 0) (s2 := 0) (z_cT_addItem E G (2 : Int32) (0 : Int32) _ e_q8) zm_X3_addItem zk_X3_73 zv_X3_addItem 26 rfl rfl (by decide) rfl (Nat.le_of_ble_eq_true rfl) rfl rfl (by decide) (wc_c_addr E _ _) dn_X3_writePart_7 ?_
    cases h
    exact zz_vret cx cq (by decide) (by decide) dn_X3_writePart_10
  · refine zz_aload_n cx dn_X3_writePart_11 rfl rfl ?_
    refine zz_get cx zi_X3 (v := .ref (ad_p E 30)) (ci := 3) rfl 26 3 rfl (by decide) zk_X3_21 rfl dn_X3_writePart_12 ?_
    refine zz_iload_n cx dn_X3_writePart_15 rfl rfl ?_
    refine zz_iload_n cx dn_X3_writePart_16 rfl rfl ?_
    refine gs_bind h (fun q1 e_q1 h => ?_)
    refine zz_callSi cx (As := [.int x1, .int x2]) (rest := [.ref (ad_p E 30)]) (c2 := 0) (s2 := 0) (z_cT_cell E G x1 x2 _ e_q1) zm_X3_cell zk_X3_51 zs_X3_cell (by decide) rfl (Nat.le_of_ble_eq_true rfl) rfl rfl (by decide) (wc_c_addr E _ _) dn_X3_writePart_17 ?_
    refine zz_iald cx 30 0 rfl rfl h (v := (gs_a G 26 q1)) rfl dn_X3_writePart_20 (fun h => ?_)
    refine zz_istore_n cx dn_X3_writePart_21 rfl (by decide) rfl ?_
    refine zz_iload_n cx dn_X3_writePart_22 rfl rfl ?_
    refine zz_if_le cx (tgt := 49) dn_X3_writePart_23 (by decide) h (fun h => ?_) (fun h => ?_)
    · refine zz_iload_n cx dn_X3_writePart_49 rfl rfl ?_
      refine zz_if_ge cx (tgt := 73) dn_X3_writePart_50 (by decide) h (fun h => ?_) (fun h => ?_)
      · refine zz_aload_n cx dn_X3_writePart_73 rfl rfl ?_
        refine zz_iconst cx dn_X3_writePart_74 (v := (0 : Int32)) (by decide) ?_
        refine zz_aload_n cx dn_X3_writePart_75 rfl rfl ?_
        refine zz_get cx zi_X3 (v := .ref (ad_p E 27)) (ci := 3) rfl 26 0 rfl (by decide) zk_X3_9 rfl dn_X3_writePart_76 ?_
        refine zz_iload_n cx dn_X3_writePart_79 rfl rfl ?_
        refine zz_iald cx 27 0 rfl rfl h (v := (gs_a G 23 x1)) rfl dn_X3_writePart_80 (fun h => ?_)
        refine gs_bind h (fun q2 e_q2 h => ?_)
        refine zz_callVv cx (As := [.int (0 : Int32), .int (gs_a G 23 x1)]) (rest := []) (c2 := 0) (s2 := 0) (z_cT_addItem E G (0 : Int32) (gs_a G 23 x1) _ e_q2) zm_X3_addItem zk_X3_73 zv_X3_addItem 26 rfl rfl (by decide) rfl (Nat.le_of_ble_eq_true rfl) rfl rfl (by decide) (wc_c_addr E _ _) dn_X3_writePart_81 ?_
        refine zz_aload_n cx dn_X3_writePart_84 rfl rfl ?_
        refine zz_dup cx dn_X3_writePart_85 rfl ?_
        refine zz_get cx zi_X3 (v := .int (q2.1 12)) (ci := 3) rfl 26 10 rfl (by decide) zk_X3_47 rfl dn_X3_writePart_86 ?_
        refine zz_iconst cx dn_X3_writePart_89 (v := (1 : Int32)) (by decide) ?_
        refine zz_iadd cx dn_X3_writePart_90 ?_
        refine zz_put cx (ws2 := (wc_c E (gs_sv q2 12 ((q2.1 12) + (1 : Int32))))) (ty := .int) (ci := 3) zi_X3 fk_X3 nm_X3 rfl 26 10 rfl (by decide) zk_X3_47 rfl (by decide +kernel) rfl rfl (Nat.le_of_ble_eq_true rfl) rfl dn_X3_writePart_91 ?_
        cases h
        exact zz_vret cx cq (by decide) (by decide) dn_X3_writePart_94
      · refine zz_aload_n cx dn_X3_writePart_53 rfl rfl ?_
        refine zz_iload_n cx dn_X3_writePart_54 rfl rfl ?_
        refine zz_iload_n cx dn_X3_writePart_55 rfl rfl ?_
        refine zz_isub cx dn_X3_writePart_56 ?_
        refine zz_iload_n cx dn_X3_writePart_57 rfl rfl ?_
        refine zz_iload_n cx dn_X3_writePart_58 rfl rfl ?_
        refine zz_iadd cx dn_X3_writePart_59 ?_
        refine gs_bind h (fun q3 e_q3 h => ?_)
        refine zz_callVv cx (As := [.int (x1 - (gs_a G 26 q1)), .int (x2 + (gs_a G 26 q1))]) (rest := []) (c2 := 0) (s2 := 0) (z_cT_putAside E G (x1 - (gs_a G 26 q1)) (x2 + (gs_a G 26 q1)) _ e_q3) zm_X3_putAside zk_X3_67 zv_X3_putAside 26 rfl rfl (by decide) rfl (Nat.le_of_ble_eq_true rfl) rfl rfl (by decide) (wc_c_addr E _ _) dn_X3_writePart_60 ?_
        refine zz_aload_n cx dn_X3_writePart_63 rfl rfl ?_
        refine zz_iload_n cx dn_X3_writePart_64 rfl rfl ?_
        refine zz_iload_n cx dn_X3_writePart_65 rfl rfl ?_
        refine zz_ineg cx dn_X3_writePart_66 ?_
        refine gs_bind h (fun q4 e_q4 h => ?_)
        refine zz_callVv cx (As := [.int x1, .int (-(gs_a G 26 q1))]) (rest := []) (c2 := 0) (s2 := 0) (z_cT_putAside E q3 x1 (-(gs_a G 26 q1)) _ e_q4) zm_X3_putAside zk_X3_67 zv_X3_putAside 26 rfl rfl (by decide) rfl (Nat.le_of_ble_eq_true rfl) rfl rfl (by decide) (wc_c_addr E _ _) dn_X3_writePart_67 ?_
        refine zz_goto cx dn_X3_writePart_70 (tgt := 94) (by decide) ?_
        cases h
        exact zz_vret cx cq (by decide) (by decide) dn_X3_writePart_94
    · refine zz_aload_n cx dn_X3_writePart_26 rfl rfl ?_
      refine zz_iconst cx dn_X3_writePart_27 (v := (1 : Int32)) (by decide) ?_
      refine zz_iload_n cx dn_X3_writePart_28 rfl rfl ?_
      refine zz_iload_n cx dn_X3_writePart_29 rfl rfl ?_
      refine zz_idiv cx dn_X3_writePart_30 h (fun h => ?_)
      refine gs_bind h (fun q5 e_q5 h => ?_)
      refine zz_callVv cx (As := [.int (1 : Int32), .int (x2 / (gs_a G 26 q1))]) (rest := []) (c2 := 0) (s2 := 0) (z_cT_addItem E G (1 : Int32) (x2 / (gs_a G 26 q1)) _ e_q5) zm_X3_addItem zk_X3_73 zv_X3_addItem 26 rfl rfl (by decide) rfl (Nat.le_of_ble_eq_true rfl) rfl rfl (by decide) (wc_c_addr E _ _) dn_X3_writePart_31 ?_
      refine zz_aload_n cx dn_X3_writePart_34 rfl rfl ?_
      refine zz_iload_n cx dn_X3_writePart_35 rfl rfl ?_
      refine zz_iconst cx dn_X3_writePart_36 (v := (0 : Int32)) (by decide) ?_
      refine gs_bind h (fun q6 e_q6 h => ?_)
      refine zz_callVv cx (As := [.int x1, .int (0 : Int32)]) (rest := []) (c2 := 0) (s2 := 0) (z_cT_putAside E q5 x1 (0 : Int32) _ e_q6) zm_X3_putAside zk_X3_67 zv_X3_putAside 26 rfl rfl (by decide) rfl (Nat.le_of_ble_eq_true rfl) rfl rfl (by decide) (wc_c_addr E _ _) dn_X3_writePart_37 ?_
      refine zz_aload_n cx dn_X3_writePart_40 rfl rfl ?_
      refine zz_iload_n cx dn_X3_writePart_41 rfl rfl ?_
      refine zz_iload_n cx dn_X3_writePart_42 rfl rfl ?_
      refine gs_bind h (fun q7 e_q7 h => ?_)
      refine zz_callVv cx (As := [.int x1, .int (gs_a G 26 q1)]) (rest := []) (c2 := 0) (s2 := 0) (z_cT_putAside E q6 x1 (gs_a G 26 q1) _ e_q7) zm_X3_putAside zk_X3_67 zv_X3_putAside 26 rfl rfl (by decide) rfl (Nat.le_of_ble_eq_true rfl) rfl rfl (by decide) (wc_c_addr E _ _) dn_X3_writePart_43 ?_
      refine zz_goto cx dn_X3_writePart_46 (tgt := 94) (by decide) ?_
      cases h
      exact zz_vret cx cq (by decide) (by decide) dn_X3_writePart_94
set_option maxHeartbeats 4000000 in
set_option maxRecDepth 100000 in
theorem z_cT_writeItems_23 (E : ze_T) (n : Nat) (r : gs_T) (X : zx_T) (cx : zx (zF E) X cn_X3_writeItems yn_X3_writeItems.cls { frames := 2, cells := 0, slots := 0, locals := 45 } 3) (cq : zq_v (zF E) X (wc_c E r)) : ∀ (k : Nat) (x2 : Int32) (G : gs_T), cT_writeItems_23 n k x2 G = some r → zj (zF E) X 0 0 (wc_c E G) 23 [some (.ref (ad_p E 26)), none, some (.int x2)] [] := by
  intro k
  induction k with
  | zero => intro x2 G h; cases h
  | succ k ih =>
    intro x2 G h
    rw [cT_writeItems_23] at h
    refine zz_iload_n cx dn_X3_writeItems_23 rfl rfl ?_
    refine zz_sipush cx dn_X3_writeItems_24 (v := (160 : Int32)) (by decide) ?_
    refine zz_icmp_ge cx (tgt := 75) dn_X3_writeItems_27 (by decide) h (fun h => ?_) (fun h => ?_)
    · cases h
      exact zz_vret cx cq (by decide) (by decide) dn_X3_writeItems_75
    · refine zz_aload_n cx dn_X3_writeItems_30 rfl rfl ?_
      refine zz_get cx zi_X3 (v := .int (G.1 10)) (ci := 3) rfl 26 8 rfl (by decide) zk_X3_64 rfl dn_X3_writeItems_31 ?_
      refine zz_if_le cx (tgt := 75) dn_X3_writeItems_34 (by decide) h (fun h => ?_) (fun h => ?_)
      · cases h
        exact zz_vret cx cq (by decide) (by decide) dn_X3_writeItems_75
      · refine zz_aload_n cx dn_X3_writeItems_37 rfl rfl ?_
        refine zz_dup cx dn_X3_writeItems_38 rfl ?_
        refine zz_get cx zi_X3 (v := .int (G.1 10)) (ci := 3) rfl 26 8 rfl (by decide) zk_X3_64 rfl dn_X3_writeItems_39 ?_
        refine zz_iconst cx dn_X3_writeItems_42 (v := (1 : Int32)) (by decide) ?_
        refine zz_isub cx dn_X3_writeItems_43 ?_
        refine zz_put cx (ws2 := (wc_c E (gs_sv G 10 ((G.1 10) - (1 : Int32))))) (ty := .int) (ci := 3) zi_X3 fk_X3 nm_X3 rfl 26 8 rfl (by decide) zk_X3_64 rfl (by decide +kernel) rfl rfl (Nat.le_of_ble_eq_true rfl) rfl dn_X3_writeItems_44 ?_
        refine zz_aload_n cx dn_X3_writeItems_47 rfl rfl ?_
        refine zz_aload_n cx dn_X3_writeItems_48 rfl rfl ?_
        refine zz_get cx zi_X3 (v := .ref (ad_p E 31)) (ci := 3) rfl 26 4 rfl (by decide) zk_X3_24 rfl dn_X3_writeItems_49 ?_
        refine zz_aload_n cx dn_X3_writeItems_52 rfl rfl ?_
        refine zz_get cx zi_X3 (v := .int ((G.1 10) - (1 : Int32))) (ci := 3) rfl 26 8 rfl (by decide) zk_X3_64 rfl dn_X3_writeItems_53 ?_
        refine zz_iald cx 31 0 rfl rfl h (v := (gs_a G 27 ((G.1 10) - (1 : Int32)))) rfl dn_X3_writeItems_56 (fun h => ?_)
        refine zz_aload_n cx dn_X3_writeItems_57 rfl rfl ?_
        refine zz_get cx zi_X3 (v := .ref (ad_p E 32)) (ci := 3) rfl 26 5 rfl (by decide) zk_X3_27 rfl dn_X3_writeItems_58 ?_
        refine zz_aload_n cx dn_X3_writeItems_61 rfl rfl ?_
        refine zz_get cx zi_X3 (v := .int ((G.1 10) - (1 : Int32))) (ci := 3) rfl 26 8 rfl (by decide) zk_X3_64 rfl dn_X3_writeItems_62 ?_
        refine zz_iald cx 32 0 rfl rfl h (v := (gs_a G 28 ((G.1 10) - (1 : Int32)))) rfl dn_X3_writeItems_65 (fun h => ?_)
        refine gs_bind h (fun q1 e_q1 h => ?_)
        refine zz_callVv cx (As := [.int (gs_a G 27 ((G.1 10) - (1 : Int32))), .int (gs_a G 28 ((G.1 10) - (1 : Int32)))]) (rest := []) (c2 := 0) (s2 := 0) (z_cT_writePart E (gs_sv G 10 ((G.1 10) - (1 : Int32))) (gs_a G 27 ((G.1 10) - (1 : Int32))) (gs_a G 28 ((G.1 10) - (1 : Int32))) _ e_q1) zm_X3_writePart zk_X3_70 zv_X3_writePart 26 rfl rfl (by decide) rfl (Nat.le_of_ble_eq_true rfl) rfl rfl (by decide) (wc_c_addr E _ _) dn_X3_writeItems_66 ?_
        refine zz_iinc cx dn_X3_writeItems_69 (d := (1 : Int32)) rfl (by decide) (by decide) rfl ?_
        refine zz_goto cx dn_X3_writeItems_72 (tgt := 23) (by decide) ?_
        exact ih (x2 + (1 : Int32)) q1 h
set_option maxHeartbeats 4000000 in
set_option maxRecDepth 100000 in
theorem z_cT_writeItems (E : ze_T) (n : Nat) (G : gs_T) (x1 : Int32) (r : gs_T) (h : cT_writeItems n G x1 = some r) : zc_v (zF E) (wc_c E G) (wc_c E r) yn_X3_writeItems cn_X3_writeItems 3 { frames := 2, cells := 0, slots := 0, locals := 45 } [.ref (ad_p E 26), .int x1] := by
  unfold cT_writeItems at h
  refine zc_v_of (by decide) rfl (Nat.le_of_ble_eq_true rfl) (fun X cx cq => ?_)
  refine zz_aload_n cx dn_X3_writeItems_0 rfl rfl ?_
  refine zz_iconst cx dn_X3_writeItems_1 (v := (0 : Int32)) (by decide) ?_
  refine zz_put cx (ws2 := (wc_c E (gs_sv G 11 (0 : Int32)))) (ty := .int) (ci := 3) zi_X3 fk_X3 nm_X3 rfl 26 9 rfl (by decide) zk_X3_61 rfl (by decide +kernel) rfl rfl (Nat.le_of_ble_eq_true rfl) rfl dn_X3_writeItems_2 ?_
  refine zz_aload_n cx dn_X3_writeItems_5 rfl rfl ?_
  refine zz_iconst cx dn_X3_writeItems_6 (v := (0 : Int32)) (by decide) ?_
  refine zz_put cx (ws2 := (wc_c E (gs_sv (gs_sv G 11 (0 : Int32)) 12 (0 : Int32)))) (ty := .int) (ci := 3) zi_X3 fk_X3 nm_X3 rfl 26 10 rfl (by decide) zk_X3_47 rfl (by decide +kernel) rfl rfl (Nat.le_of_ble_eq_true rfl) rfl dn_X3_writeItems_7 ?_
  refine zz_aload_n cx dn_X3_writeItems_10 rfl rfl ?_
  refine zz_iconst cx dn_X3_writeItems_11 (v := (0 : Int32)) (by decide) ?_
  refine zz_put cx (ws2 := (wc_c E (gs_sv (gs_sv (gs_sv G 11 (0 : Int32)) 12 (0 : Int32)) 10 (0 : Int32)))) (ty := .int) (ci := 3) zi_X3 fk_X3 nm_X3 rfl 26 8 rfl (by decide) zk_X3_64 rfl (by decide +kernel) rfl rfl (Nat.le_of_ble_eq_true rfl) rfl dn_X3_writeItems_12 ?_
  refine zz_aload_n cx dn_X3_writeItems_15 rfl rfl ?_
  refine zz_iconst cx dn_X3_writeItems_16 (v := (0 : Int32)) (by decide) ?_
  refine zz_iload_n cx dn_X3_writeItems_17 rfl rfl ?_
  refine gs_bind h (fun q1 e_q1 h => ?_)
  refine zz_callVv cx (As := [.int (0 : Int32), .int x1]) (rest := []) (c2 := 0) (s2 := 0) (z_cT_putAside E (gs_sv (gs_sv (gs_sv G 11 (0 : Int32)) 12 (0 : Int32)) 10 (0 : Int32)) (0 : Int32) x1 _ e_q1) zm_X3_putAside zk_X3_67 zv_X3_putAside 26 rfl rfl (by decide) rfl (Nat.le_of_ble_eq_true rfl) rfl rfl (by decide) (wc_c_addr E _ _) dn_X3_writeItems_18 ?_
  refine zz_iconst cx dn_X3_writeItems_21 (v := (0 : Int32)) (by decide) ?_
  refine zz_istore_n cx dn_X3_writeItems_22 rfl (by decide) rfl ?_
  refine zz_less (L2 := [some (.ref (ad_p E 26)), none, some (.int (0 : Int32))]) (⟨rfl, rfl, trivial⟩) ?_
  exact z_cT_writeItems_23 E n _ X cx cq n (0 : Int32) q1 h
set_option maxHeartbeats 4000000 in
set_option maxRecDepth 100000 in
theorem z_cT_writeRow_14 (E : ze_T) (n : Nat) (x1 x2 : Int32) (K : gs_T → Option (Int32 × gs_T)) (r : (Int32 × gs_T)) (X : zx_T) (cx : zx (zF E) X cn_X3_writeRow yn_X3_writeRow.cls { frames := 3, cells := 0, slots := 0, locals := 70 } 4) (cq : zq_i (zF E) X (wc_c E r.2) .int r.1) (hK : ∀ (G1 : gs_T), K G1 = some r → zj (zF E) X 0 0 (wc_c E G1) 33 [some (.ref (ad_p E 26)), some (.int x1), some (.int x2), none] []) : ∀ (k : Nat) (x3 : Int32) (G : gs_T), cT_writeRow_14 n x1 x2 K k x3 G = some r → zj (zF E) X 0 0 (wc_c E G) 14 [some (.ref (ad_p E 26)), some (.int x1), some (.int x2), some (.int x3)] [] := by
  intro k
  induction k with
  | zero => intro x3 G h; cases h
  | succ k ih =>
    intro x3 G h
    rw [cT_writeRow_14] at h
    refine zz_iload_n cx dn_X3_writeRow_14 rfl rfl ?_
    refine zz_iload_n cx dn_X3_writeRow_15 rfl rfl ?_
    refine zz_iadd cx dn_X3_writeRow_16 ?_
    refine zz_iload_n cx dn_X3_writeRow_17 rfl rfl ?_
    refine zz_icmp_gt cx (tgt := 33) dn_X3_writeRow_18 (by decide) h (fun h => ?_) (fun h => ?_)
    · refine zz_less (L2 := [some (.ref (ad_p E 26)), some (.int x1), some (.int x2), none]) (⟨rfl, rfl, rfl, trivial⟩) ?_
      exact hK G h
    · refine zz_aload_n cx dn_X3_writeRow_21 rfl rfl ?_
      refine zz_iload_n cx dn_X3_writeRow_22 rfl rfl ?_
      refine zz_iload_n cx dn_X3_writeRow_23 rfl rfl ?_
      refine gs_bind h (fun q1 e_q1 h => ?_)
      refine zz_callVv cx (As := [.int x3, .int x2]) (rest := []) (c2 := 0) (s2 := 0) (z_cT_choose E n G x3 x2 _ e_q1) zm_X3_choose zk_X3_40 zv_X3_choose 26 rfl rfl (by decide) rfl (Nat.le_of_ble_eq_true rfl) rfl rfl (by decide) (wc_c_addr E _ _) dn_X3_writeRow_24 ?_
      refine zz_iinc cx dn_X3_writeRow_27 (d := (1 : Int32)) rfl (by decide) (by decide) rfl ?_
      refine zz_goto cx dn_X3_writeRow_30 (tgt := 14) (by decide) ?_
      exact ih (x3 + (1 : Int32)) q1 h
set_option maxHeartbeats 4000000 in
set_option maxRecDepth 100000 in
theorem z_cT_writeRow_7 (E : ze_T) (n : Nat) (x1 : Int32) (r : (Int32 × gs_T)) (X : zx_T) (cx : zx (zF E) X cn_X3_writeRow yn_X3_writeRow.cls { frames := 3, cells := 0, slots := 0, locals := 70 } 4) (cq : zq_i (zF E) X (wc_c E r.2) .int r.1) : ∀ (k : Nat) (x2 : Int32) (G : gs_T), cT_writeRow_7 n x1 k x2 G = some r → zj (zF E) X 0 0 (wc_c E G) 7 [some (.ref (ad_p E 26)), some (.int x1), some (.int x2), none] [] := by
  intro k
  induction k with
  | zero => intro x2 G h; cases h
  | succ k ih =>
    intro x2 G h
    rw [cT_writeRow_7] at h
    refine zz_iload_n cx dn_X3_writeRow_7 rfl rfl ?_
    refine zz_iload_n cx dn_X3_writeRow_8 rfl rfl ?_
    refine zz_icmp_gt cx (tgt := 39) dn_X3_writeRow_9 (by decide) h (fun h => ?_) (fun h => ?_)
    · refine zz_aload_n cx dn_X3_writeRow_39 rfl rfl ?_
      refine zz_iload_n cx dn_X3_writeRow_40 rfl rfl ?_
      refine gs_bind h (fun q1 e_q1 h => ?_)
      refine zz_callVv cx (As := [.int x1]) (rest := []) (c2 := 0) (s2 := 0) (z_cT_writeItems E n G x1 _ e_q1) zm_X3_writeItems zk_X3_44 zv_X3_writeItems 26 rfl rfl (by decide) rfl (Nat.le_of_ble_eq_true rfl) rfl rfl (by decide) (wc_c_addr E _ _) dn_X3_writeRow_41 ?_
      refine zz_aload_n cx dn_X3_writeRow_44 rfl rfl ?_
      refine zz_get cx zi_X3 (v := .int (q1.1 12)) (ci := 3) rfl 26 10 rfl (by decide) zk_X3_47 rfl dn_X3_writeRow_45 ?_
      cases h
      exact zz_iret cx cq (by decide) (by decide) dn_X3_writeRow_48
    · refine zz_iconst cx dn_X3_writeRow_12 (v := (0 : Int32)) (by decide) ?_
      refine zz_istore_n cx dn_X3_writeRow_13 rfl (by decide) rfl ?_
      refine z_cT_writeRow_14 E n x1 x2 _ _ X cx cq ?_ n (0 : Int32) G h
      intro G1 h
      refine zz_iinc cx dn_X3_writeRow_33 (d := (1 : Int32)) rfl (by decide) (by decide) rfl ?_
      refine zz_goto cx dn_X3_writeRow_36 (tgt := 7) (by decide) ?_
      exact ih (x2 + (1 : Int32)) G1 h
set_option maxHeartbeats 4000000 in
set_option maxRecDepth 100000 in
theorem z_cT_writeRow (E : ze_T) (n : Nat) (G : gs_T) (x1 : Int32) (r : (Int32 × gs_T)) (h : cT_writeRow n G x1 = some r) : zc_i (zF E) (wc_c E G) (wc_c E r.2) yn_X3_writeRow cn_X3_writeRow 4 .int { frames := 3, cells := 0, slots := 0, locals := 70 } [.ref (ad_p E 26), .int x1] r.1 := by
  unfold cT_writeRow at h
  refine zc_i_of (by decide) rfl (Nat.le_of_ble_eq_true rfl) (fun X cx cq => ?_)
  refine zz_aload_n cx dn_X3_writeRow_0 rfl rfl ?_
  refine zz_iload_n cx dn_X3_writeRow_1 rfl rfl ?_
  refine gs_bind h (fun q1 e_q1 h => ?_)
  refine zz_callVv cx (As := [.int x1]) (rest := []) (c2 := 0) (s2 := 0) (z_cT_compareContents E n G x1 _ e_q1) zm_X3_compareContents zk_X3_36 zv_X3_compareContents 26 rfl rfl (by decide) rfl (Nat.le_of_ble_eq_true rfl) rfl rfl (by decide) (wc_c_addr E _ _) dn_X3_writeRow_2 ?_
  refine zz_iconst cx dn_X3_writeRow_5 (v := (1 : Int32)) (by decide) ?_
  refine zz_istore_n cx dn_X3_writeRow_6 rfl (by decide) rfl ?_
  exact z_cT_writeRow_7 E n x1 _ X cx cq n (1 : Int32) q1 h
end
