section
-- ===== PART A: goes FIRST, ahead of the names: the tables' words, and 'selects' of the private methods out of them =====
/-- a private method of a class that the tables say can be made, by its rows of tables_1 -/
def lw_okq (q : MethodName × Nat) : Prop := (q.1.cls ≠ "java/lang/invoke/MethodHandle" ∧ q.1.cls ≠ "java/lang/invoke/VarHandle") ∧ Cond.instantiable q.1.cls q.2 ∈ tables_1 ∧ Cond.privateMethod q.1 ∈ tables_1 ∧ Cond.instanceMethod q.1 ∈ tables_1
theorem lw_p0 : lw_okq (⟨"ChangingStars", "starNumbered", "(I)LChangingStars$Star;"⟩, 17) := ⟨⟨by decide +kernel, by decide +kernel⟩, List.mem_of_getElem? (i := 14) (by decide +kernel), List.mem_of_getElem? (i := 226) (by decide +kernel), List.mem_of_getElem? (i := 227) (by decide +kernel)⟩
theorem lw_p1 : lw_okq (⟨"ChangingStars$Star", "isOfKind", "(I)Z"⟩, 4) := ⟨⟨by decide +kernel, by decide +kernel⟩, List.mem_of_getElem? (i := 195) (by decide +kernel), List.mem_of_getElem? (i := 230) (by decide +kernel), List.mem_of_getElem? (i := 231) (by decide +kernel)⟩
theorem lw_p2 : lw_okq (⟨"ChangingStars", "found", "(I)I"⟩, 17) := ⟨⟨by decide +kernel, by decide +kernel⟩, List.mem_of_getElem? (i := 14) (by decide +kernel), List.mem_of_getElem? (i := 238) (by decide +kernel), List.mem_of_getElem? (i := 239) (by decide +kernel)⟩
theorem lw_p3 : lw_okq (⟨"ChangingStars", "gatherRow", "(I)I"⟩, 17) := ⟨⟨by decide +kernel, by decide +kernel⟩, List.mem_of_getElem? (i := 14) (by decide +kernel), List.mem_of_getElem? (i := 242) (by decide +kernel), List.mem_of_getElem? (i := 243) (by decide +kernel)⟩
theorem lw_p4 : lw_okq (⟨"ChangingStars", "lookAtRow", "(I)I"⟩, 17) := ⟨⟨by decide +kernel, by decide +kernel⟩, List.mem_of_getElem? (i := 14) (by decide +kernel), List.mem_of_getElem? (i := 246) (by decide +kernel), List.mem_of_getElem? (i := 247) (by decide +kernel)⟩
theorem lw_p5 : lw_okq (⟨"ChangingStars$Curve", "gather", "(LChangingStars$Star;[I)V"⟩, 3) := ⟨⟨by decide +kernel, by decide +kernel⟩, List.mem_of_getElem? (i := 26) (by decide +kernel), List.mem_of_getElem? (i := 250) (by decide +kernel), List.mem_of_getElem? (i := 251) (by decide +kernel)⟩
theorem lw_p6 : lw_okq (⟨"ChangingStars", "markOfCurve", "(I)I"⟩, 17) := ⟨⟨by decide +kernel, by decide +kernel⟩, List.mem_of_getElem? (i := 14) (by decide +kernel), List.mem_of_getElem? (i := 254) (by decide +kernel), List.mem_of_getElem? (i := 255) (by decide +kernel)⟩
theorem lw_p7 : lw_okq (⟨"ChangingStars", "measureCurve", "()V"⟩, 17) := ⟨⟨by decide +kernel, by decide +kernel⟩, List.mem_of_getElem? (i := 14) (by decide +kernel), List.mem_of_getElem? (i := 258) (by decide +kernel), List.mem_of_getElem? (i := 259) (by decide +kernel)⟩
theorem lw_p8 : lw_okq (⟨"ChangingStars", "levelOfCurve", "()I"⟩, 17) := ⟨⟨by decide +kernel, by decide +kernel⟩, List.mem_of_getElem? (i := 14) (by decide +kernel), List.mem_of_getElem? (i := 262) (by decide +kernel), List.mem_of_getElem? (i := 263) (by decide +kernel)⟩
theorem lw_p9 : lw_okq (⟨"ChangingStars$BySize", "clear", "()V"⟩, 2) := ⟨⟨by decide +kernel, by decide +kernel⟩, List.mem_of_getElem? (i := 55) (by decide +kernel), List.mem_of_getElem? (i := 266) (by decide +kernel), List.mem_of_getElem? (i := 267) (by decide +kernel)⟩
theorem lw_p10 : lw_okq (⟨"ChangingStars$BySize", "put", "(I)V"⟩, 2) := ⟨⟨by decide +kernel, by decide +kernel⟩, List.mem_of_getElem? (i := 55) (by decide +kernel), List.mem_of_getElem? (i := 270) (by decide +kernel), List.mem_of_getElem? (i := 271) (by decide +kernel)⟩
theorem lw_p11 : lw_okq (⟨"ChangingStars$BySize", "middle", "()I"⟩, 2) := ⟨⟨by decide +kernel, by decide +kernel⟩, List.mem_of_getElem? (i := 55) (by decide +kernel), List.mem_of_getElem? (i := 274) (by decide +kernel), List.mem_of_getElem? (i := 275) (by decide +kernel)⟩
theorem lw_p12 : lw_okq (⟨"ChangingStars$BySize", "spread", "()I"⟩, 2) := ⟨⟨by decide +kernel, by decide +kernel⟩, List.mem_of_getElem? (i := 55) (by decide +kernel), List.mem_of_getElem? (i := 278) (by decide +kernel), List.mem_of_getElem? (i := 279) (by decide +kernel)⟩
theorem lw_p13 : lw_okq (⟨"ChangingStars$LowTimes", "gather", "(LChangingStars$Curve;I)V"⟩, 2) := ⟨⟨by decide +kernel, by decide +kernel⟩, List.mem_of_getElem? (i := 85) (by decide +kernel), List.mem_of_getElem? (i := 282) (by decide +kernel), List.mem_of_getElem? (i := 283) (by decide +kernel)⟩
theorem lw_p14 : lw_okq (⟨"ChangingStars$Star", "emptyRow", "(Z)V"⟩, 4) := ⟨⟨by decide +kernel, by decide +kernel⟩, List.mem_of_getElem? (i := 195) (by decide +kernel), List.mem_of_getElem? (i := 290) (by decide +kernel), List.mem_of_getElem? (i := 291) (by decide +kernel)⟩
theorem lw_p15 : lw_okq (⟨"ChangingStars", "lookAtNight", "(II)I"⟩, 17) := ⟨⟨by decide +kernel, by decide +kernel⟩, List.mem_of_getElem? (i := 14) (by decide +kernel), List.mem_of_getElem? (i := 298) (by decide +kernel), List.mem_of_getElem? (i := 299) (by decide +kernel)⟩
def lw_privs_1 : List (MethodName × Nat) := [(⟨"ChangingStars", "starNumbered", "(I)LChangingStars$Star;"⟩, 17), (⟨"ChangingStars$Star", "isOfKind", "(I)Z"⟩, 4), (⟨"ChangingStars", "found", "(I)I"⟩, 17), (⟨"ChangingStars", "gatherRow", "(I)I"⟩, 17), (⟨"ChangingStars", "lookAtRow", "(I)I"⟩, 17), (⟨"ChangingStars$Curve", "gather", "(LChangingStars$Star;[I)V"⟩, 3), (⟨"ChangingStars", "markOfCurve", "(I)I"⟩, 17), (⟨"ChangingStars", "measureCurve", "()V"⟩, 17), (⟨"ChangingStars", "levelOfCurve", "()I"⟩, 17), (⟨"ChangingStars$BySize", "clear", "()V"⟩, 2), (⟨"ChangingStars$BySize", "put", "(I)V"⟩, 2), (⟨"ChangingStars$BySize", "middle", "()I"⟩, 2), (⟨"ChangingStars$BySize", "spread", "()I"⟩, 2), (⟨"ChangingStars$LowTimes", "gather", "(LChangingStars$Curve;I)V"⟩, 2), (⟨"ChangingStars$Star", "emptyRow", "(Z)V"⟩, 4), (⟨"ChangingStars", "lookAtNight", "(II)I"⟩, 17)]
theorem lw_r1 : ∀ q ∈ lw_privs_1, lw_okq q := List.forall_mem_cons.mpr ⟨lw_p0, List.forall_mem_cons.mpr ⟨lw_p1, List.forall_mem_cons.mpr ⟨lw_p2, List.forall_mem_cons.mpr ⟨lw_p3, List.forall_mem_cons.mpr ⟨lw_p4, List.forall_mem_cons.mpr ⟨lw_p5, List.forall_mem_cons.mpr ⟨lw_p6, List.forall_mem_cons.mpr ⟨lw_p7, List.forall_mem_cons.mpr ⟨lw_p8, List.forall_mem_cons.mpr ⟨lw_p9, List.forall_mem_cons.mpr ⟨lw_p10, List.forall_mem_cons.mpr ⟨lw_p11, List.forall_mem_cons.mpr ⟨lw_p12, List.forall_mem_cons.mpr ⟨lw_p13, List.forall_mem_cons.mpr ⟨lw_p14, List.forall_mem_cons.mpr ⟨lw_p15, fun _ h => absurd h List.not_mem_nil⟩⟩⟩⟩⟩⟩⟩⟩⟩⟩⟩⟩⟩⟩⟩⟩
theorem lw_p16 : lw_okq (⟨"ChangingStars", "tell", "(J)I"⟩, 17) := ⟨⟨by decide +kernel, by decide +kernel⟩, List.mem_of_getElem? (i := 14) (by decide +kernel), List.mem_of_getElem? (i := 313) (by decide +kernel), List.mem_of_getElem? (i := 314) (by decide +kernel)⟩
theorem lw_p17 : lw_okq (⟨"ChangingStars", "levelWithoutFootings", "(LChangingStars$Star;)I"⟩, 17) := ⟨⟨by decide +kernel, by decide +kernel⟩, List.mem_of_getElem? (i := 14) (by decide +kernel), List.mem_of_getElem? (i := 343) (by decide +kernel), List.mem_of_getElem? (i := 344) (by decide +kernel)⟩
theorem lw_p18 : lw_okq (⟨"ChangingStars", "middleDifference", "(I)I"⟩, 17) := ⟨⟨by decide +kernel, by decide +kernel⟩, List.mem_of_getElem? (i := 14) (by decide +kernel), List.mem_of_getElem? (i := 347) (by decide +kernel), List.mem_of_getElem? (i := 348) (by decide +kernel)⟩
theorem lw_p19 : lw_okq (⟨"ChangingStars", "gatherLights", "(I)I"⟩, 17) := ⟨⟨by decide +kernel, by decide +kernel⟩, List.mem_of_getElem? (i := 14) (by decide +kernel), List.mem_of_getElem? (i := 355) (by decide +kernel), List.mem_of_getElem? (i := 356) (by decide +kernel)⟩
theorem lw_p20 : lw_okq (⟨"ChangingStars$Curve", "average", "()J"⟩, 3) := ⟨⟨by decide +kernel, by decide +kernel⟩, List.mem_of_getElem? (i := 26) (by decide +kernel), List.mem_of_getElem? (i := 363) (by decide +kernel), List.mem_of_getElem? (i := 364) (by decide +kernel)⟩
theorem lw_p21 : lw_okq (⟨"ChangingStars$Curve", "sum", "()J"⟩, 3) := ⟨⟨by decide +kernel, by decide +kernel⟩, List.mem_of_getElem? (i := 26) (by decide +kernel), List.mem_of_getElem? (i := 367) (by decide +kernel), List.mem_of_getElem? (i := 368) (by decide +kernel)⟩
theorem lw_p22 : lw_okq (⟨"ChangingStars$Fold", "stringOf", "(LChangingStars$Curve;II)I"⟩, 3) := ⟨⟨by decide +kernel, by decide +kernel⟩, List.mem_of_getElem? (i := 68) (by decide +kernel), List.mem_of_getElem? (i := 385) (by decide +kernel), List.mem_of_getElem? (i := 386) (by decide +kernel)⟩
theorem lw_p23 : lw_okq (⟨"ChangingStars$Fold", "put", "(III)V"⟩, 3) := ⟨⟨by decide +kernel, by decide +kernel⟩, List.mem_of_getElem? (i := 68) (by decide +kernel), List.mem_of_getElem? (i := 390) (by decide +kernel), List.mem_of_getElem? (i := 391) (by decide +kernel)⟩
theorem lw_p24 : lw_okq (⟨"ChangingStars", "foldFromTo", "(IIII)I"⟩, 17) := ⟨⟨by decide +kernel, by decide +kernel⟩, List.mem_of_getElem? (i := 14) (by decide +kernel), List.mem_of_getElem? (i := 401) (by decide +kernel), List.mem_of_getElem? (i := 402) (by decide +kernel)⟩
theorem lw_p25 : lw_okq (⟨"ChangingStars$Fold", "stringsFromTo", "(LChangingStars$Curve;III)V"⟩, 3) := ⟨⟨by decide +kernel, by decide +kernel⟩, List.mem_of_getElem? (i := 68) (by decide +kernel), List.mem_of_getElem? (i := 405) (by decide +kernel), List.mem_of_getElem? (i := 406) (by decide +kernel)⟩
theorem lw_p26 : lw_okq (⟨"ChangingStars$Fold", "leastFromTo", "(II)I"⟩, 3) := ⟨⟨by decide +kernel, by decide +kernel⟩, List.mem_of_getElem? (i := 68) (by decide +kernel), List.mem_of_getElem? (i := 410) (by decide +kernel), List.mem_of_getElem? (i := 411) (by decide +kernel)⟩
theorem lw_p27 : lw_okq (⟨"ChangingStars$DipSearch", "search", "(LChangingStars$Curve;II)Z"⟩, 9) := ⟨⟨by decide +kernel, by decide +kernel⟩, List.mem_of_getElem? (i := 100) (by decide +kernel), List.mem_of_getElem? (i := 431) (by decide +kernel), List.mem_of_getElem? (i := 432) (by decide +kernel)⟩
theorem lw_p28 : lw_okq (⟨"ChangingStars$DipSearch", "share", "(LChangingStars$Curve;I)V"⟩, 9) := ⟨⟨by decide +kernel, by decide +kernel⟩, List.mem_of_getElem? (i := 100) (by decide +kernel), List.mem_of_getElem? (i := 435) (by decide +kernel), List.mem_of_getElem? (i := 436) (by decide +kernel)⟩
theorem lw_p29 : lw_okq (⟨"ChangingStars$DipSearch", "widen", "(II)V"⟩, 9) := ⟨⟨by decide +kernel, by decide +kernel⟩, List.mem_of_getElem? (i := 100) (by decide +kernel), List.mem_of_getElem? (i := 444) (by decide +kernel), List.mem_of_getElem? (i := 445) (by decide +kernel)⟩
theorem lw_p30 : lw_okq (⟨"ChangingStars$DipSearch", "countsHere", "(I)Z"⟩, 9) := ⟨⟨by decide +kernel, by decide +kernel⟩, List.mem_of_getElem? (i := 100) (by decide +kernel), List.mem_of_getElem? (i := 448) (by decide +kernel), List.mem_of_getElem? (i := 449) (by decide +kernel)⟩
theorem lw_p31 : lw_okq (⟨"ChangingStars$DipSearch", "depthFrom", "(I)J"⟩, 9) := ⟨⟨by decide +kernel, by decide +kernel⟩, List.mem_of_getElem? (i := 100) (by decide +kernel), List.mem_of_getElem? (i := 452) (by decide +kernel), List.mem_of_getElem? (i := 453) (by decide +kernel)⟩
def lw_privs_2 : List (MethodName × Nat) := [(⟨"ChangingStars", "tell", "(J)I"⟩, 17), (⟨"ChangingStars", "levelWithoutFootings", "(LChangingStars$Star;)I"⟩, 17), (⟨"ChangingStars", "middleDifference", "(I)I"⟩, 17), (⟨"ChangingStars", "gatherLights", "(I)I"⟩, 17), (⟨"ChangingStars$Curve", "average", "()J"⟩, 3), (⟨"ChangingStars$Curve", "sum", "()J"⟩, 3), (⟨"ChangingStars$Fold", "stringOf", "(LChangingStars$Curve;II)I"⟩, 3), (⟨"ChangingStars$Fold", "put", "(III)V"⟩, 3), (⟨"ChangingStars", "foldFromTo", "(IIII)I"⟩, 17), (⟨"ChangingStars$Fold", "stringsFromTo", "(LChangingStars$Curve;III)V"⟩, 3), (⟨"ChangingStars$Fold", "leastFromTo", "(II)I"⟩, 3), (⟨"ChangingStars$DipSearch", "search", "(LChangingStars$Curve;II)Z"⟩, 9), (⟨"ChangingStars$DipSearch", "share", "(LChangingStars$Curve;I)V"⟩, 9), (⟨"ChangingStars$DipSearch", "widen", "(II)V"⟩, 9), (⟨"ChangingStars$DipSearch", "countsHere", "(I)Z"⟩, 9), (⟨"ChangingStars$DipSearch", "depthFrom", "(I)J"⟩, 9)]
theorem lw_r2 : ∀ q ∈ lw_privs_2, lw_okq q := List.forall_mem_cons.mpr ⟨lw_p16, List.forall_mem_cons.mpr ⟨lw_p17, List.forall_mem_cons.mpr ⟨lw_p18, List.forall_mem_cons.mpr ⟨lw_p19, List.forall_mem_cons.mpr ⟨lw_p20, List.forall_mem_cons.mpr ⟨lw_p21, List.forall_mem_cons.mpr ⟨lw_p22, List.forall_mem_cons.mpr ⟨lw_p23, List.forall_mem_cons.mpr ⟨lw_p24, List.forall_mem_cons.mpr ⟨lw_p25, List.forall_mem_cons.mpr ⟨lw_p26, List.forall_mem_cons.mpr ⟨lw_p27, List.forall_mem_cons.mpr ⟨lw_p28, List.forall_mem_cons.mpr ⟨lw_p29, List.forall_mem_cons.mpr ⟨lw_p30, List.forall_mem_cons.mpr ⟨lw_p31, fun _ h => absurd h List.not_mem_nil⟩⟩⟩⟩⟩⟩⟩⟩⟩⟩⟩⟩⟩⟩⟩⟩
theorem lw_p32 : lw_okq (⟨"ChangingStars$DipSearch", "keep", "(II)V"⟩, 9) := ⟨⟨by decide +kernel, by decide +kernel⟩, List.mem_of_getElem? (i := 100) (by decide +kernel), List.mem_of_getElem? (i := 456) (by decide +kernel), List.mem_of_getElem? (i := 457) (by decide +kernel)⟩
theorem lw_p33 : lw_okq (⟨"ChangingStars", "gatherLows", "(II)I"⟩, 17) := ⟨⟨by decide +kernel, by decide +kernel⟩, List.mem_of_getElem? (i := 14) (by decide +kernel), List.mem_of_getElem? (i := 468) (by decide +kernel), List.mem_of_getElem? (i := 469) (by decide +kernel)⟩
theorem lw_p34 : lw_okq (⟨"ChangingStars$LowTimes", "has", "(I)Z"⟩, 2) := ⟨⟨by decide +kernel, by decide +kernel⟩, List.mem_of_getElem? (i := 85) (by decide +kernel), List.mem_of_getElem? (i := 476) (by decide +kernel), List.mem_of_getElem? (i := 477) (by decide +kernel)⟩
theorem lw_p35 : lw_okq (⟨"ChangingStars", "gatherLowsOnClock", "(IIIII)I"⟩, 17) := ⟨⟨by decide +kernel, by decide +kernel⟩, List.mem_of_getElem? (i := 14) (by decide +kernel), List.mem_of_getElem? (i := 484) (by decide +kernel), List.mem_of_getElem? (i := 485) (by decide +kernel)⟩
theorem lw_p36 : lw_okq (⟨"ChangingStars", "classOfCurve", "()I"⟩, 17) := ⟨⟨by decide +kernel, by decide +kernel⟩, List.mem_of_getElem? (i := 14) (by decide +kernel), List.mem_of_getElem? (i := 532) (by decide +kernel), List.mem_of_getElem? (i := 533) (by decide +kernel)⟩
theorem lw_p37 : lw_okq (⟨"ChangingStars$Rule", "fits", "([I)Z"⟩, 4) := ⟨⟨by decide +kernel, by decide +kernel⟩, List.mem_of_getElem? (i := 508) (by decide +kernel), List.mem_of_getElem? (i := 536) (by decide +kernel), List.mem_of_getElem? (i := 537) (by decide +kernel)⟩
theorem lw_p38 : lw_okq (⟨"ChangingStars", "countOfRows", "()I"⟩, 17) := ⟨⟨by decide +kernel, by decide +kernel⟩, List.mem_of_getElem? (i := 14) (by decide +kernel), List.mem_of_getElem? (i := 556) (by decide +kernel), List.mem_of_getElem? (i := 557) (by decide +kernel)⟩
theorem lw_p39 : lw_okq (⟨"ChangingStars", "countOfLights", "()I"⟩, 17) := ⟨⟨by decide +kernel, by decide +kernel⟩, List.mem_of_getElem? (i := 14) (by decide +kernel), List.mem_of_getElem? (i := 560) (by decide +kernel), List.mem_of_getElem? (i := 561) (by decide +kernel)⟩
theorem lw_p40 : lw_okq (⟨"ChangingStars$Star", "digestOnto", "(J)J"⟩, 4) := ⟨⟨by decide +kernel, by decide +kernel⟩, List.mem_of_getElem? (i := 195) (by decide +kernel), List.mem_of_getElem? (i := 577) (by decide +kernel), List.mem_of_getElem? (i := 578) (by decide +kernel)⟩
theorem lw_p41 : lw_okq (⟨"ChangingStarsModel", "isStar", "(I)Z"⟩, 26) := ⟨⟨by decide +kernel, by decide +kernel⟩, List.mem_of_getElem? (i := 583) (by decide +kernel), List.mem_of_getElem? (i := 680) (by decide +kernel), List.mem_of_getElem? (i := 681) (by decide +kernel)⟩
theorem lw_p42 : lw_okq (⟨"ChangingStarsModel", "fits", "(II)Z"⟩, 26) := ⟨⟨by decide +kernel, by decide +kernel⟩, List.mem_of_getElem? (i := 583) (by decide +kernel), List.mem_of_getElem? (i := 684) (by decide +kernel), List.mem_of_getElem? (i := 685) (by decide +kernel)⟩
theorem lw_p43 : lw_okq (⟨"ChangingStarsModel", "meets", "(I)I"⟩, 26) := ⟨⟨by decide +kernel, by decide +kernel⟩, List.mem_of_getElem? (i := 583) (by decide +kernel), List.mem_of_getElem? (i := 692) (by decide +kernel), List.mem_of_getElem? (i := 693) (by decide +kernel)⟩
theorem lw_p44 : lw_okq (⟨"ChangingStarsModel", "many", "(I)I"⟩, 26) := ⟨⟨by decide +kernel, by decide +kernel⟩, List.mem_of_getElem? (i := 583) (by decide +kernel), List.mem_of_getElem? (i := 696) (by decide +kernel), List.mem_of_getElem? (i := 697) (by decide +kernel)⟩
theorem lw_p45 : lw_okq (⟨"ChangingStarsModel", "has", "(II)Z"⟩, 26) := ⟨⟨by decide +kernel, by decide +kernel⟩, List.mem_of_getElem? (i := 583) (by decide +kernel), List.mem_of_getElem? (i := 700) (by decide +kernel), List.mem_of_getElem? (i := 701) (by decide +kernel)⟩
theorem lw_p46 : lw_okq (⟨"ChangingStarsModel", "swing", "(I)I"⟩, 26) := ⟨⟨by decide +kernel, by decide +kernel⟩, List.mem_of_getElem? (i := 583) (by decide +kernel), List.mem_of_getElem? (i := 704) (by decide +kernel), List.mem_of_getElem? (i := 705) (by decide +kernel)⟩
theorem lw_p47 : lw_okq (⟨"ChangingStarsModel", "lightOf", "(II)I"⟩, 26) := ⟨⟨by decide +kernel, by decide +kernel⟩, List.mem_of_getElem? (i := 583) (by decide +kernel), List.mem_of_getElem? (i := 708) (by decide +kernel), List.mem_of_getElem? (i := 709) (by decide +kernel)⟩
def lw_privs_3 : List (MethodName × Nat) := [(⟨"ChangingStars$DipSearch", "keep", "(II)V"⟩, 9), (⟨"ChangingStars", "gatherLows", "(II)I"⟩, 17), (⟨"ChangingStars$LowTimes", "has", "(I)Z"⟩, 2), (⟨"ChangingStars", "gatherLowsOnClock", "(IIIII)I"⟩, 17), (⟨"ChangingStars", "classOfCurve", "()I"⟩, 17), (⟨"ChangingStars$Rule", "fits", "([I)Z"⟩, 4), (⟨"ChangingStars", "countOfRows", "()I"⟩, 17), (⟨"ChangingStars", "countOfLights", "()I"⟩, 17), (⟨"ChangingStars$Star", "digestOnto", "(J)J"⟩, 4), (⟨"ChangingStarsModel", "isStar", "(I)Z"⟩, 26), (⟨"ChangingStarsModel", "fits", "(II)Z"⟩, 26), (⟨"ChangingStarsModel", "meets", "(I)I"⟩, 26), (⟨"ChangingStarsModel", "many", "(I)I"⟩, 26), (⟨"ChangingStarsModel", "has", "(II)Z"⟩, 26), (⟨"ChangingStarsModel", "swing", "(I)I"⟩, 26), (⟨"ChangingStarsModel", "lightOf", "(II)I"⟩, 26)]
theorem lw_r3 : ∀ q ∈ lw_privs_3, lw_okq q := List.forall_mem_cons.mpr ⟨lw_p32, List.forall_mem_cons.mpr ⟨lw_p33, List.forall_mem_cons.mpr ⟨lw_p34, List.forall_mem_cons.mpr ⟨lw_p35, List.forall_mem_cons.mpr ⟨lw_p36, List.forall_mem_cons.mpr ⟨lw_p37, List.forall_mem_cons.mpr ⟨lw_p38, List.forall_mem_cons.mpr ⟨lw_p39, List.forall_mem_cons.mpr ⟨lw_p40, List.forall_mem_cons.mpr ⟨lw_p41, List.forall_mem_cons.mpr ⟨lw_p42, List.forall_mem_cons.mpr ⟨lw_p43, List.forall_mem_cons.mpr ⟨lw_p44, List.forall_mem_cons.mpr ⟨lw_p45, List.forall_mem_cons.mpr ⟨lw_p46, List.forall_mem_cons.mpr ⟨lw_p47, fun _ h => absurd h List.not_mem_nil⟩⟩⟩⟩⟩⟩⟩⟩⟩⟩⟩⟩⟩⟩⟩⟩
theorem lw_p48 : lw_okq (⟨"ChangingStarsModel", "setLows", "(II)I"⟩, 26) := ⟨⟨by decide +kernel, by decide +kernel⟩, List.mem_of_getElem? (i := 583) (by decide +kernel), List.mem_of_getElem? (i := 712) (by decide +kernel), List.mem_of_getElem? (i := 713) (by decide +kernel)⟩
theorem lw_p49 : lw_okq (⟨"ChangingStarsModel", "middle", "(IZ)I"⟩, 26) := ⟨⟨by decide +kernel, by decide +kernel⟩, List.mem_of_getElem? (i := 583) (by decide +kernel), List.mem_of_getElem? (i := 716) (by decide +kernel), List.mem_of_getElem? (i := 717) (by decide +kernel)⟩
theorem lw_p50 : lw_okq (⟨"ChangingStarsModel", "sort", "(II)I"⟩, 26) := ⟨⟨by decide +kernel, by decide +kernel⟩, List.mem_of_getElem? (i := 583) (by decide +kernel), List.mem_of_getElem? (i := 720) (by decide +kernel), List.mem_of_getElem? (i := 721) (by decide +kernel)⟩
theorem lw_p51 : lw_okq (⟨"ChangingStarsModel", "looked", "(I)I"⟩, 26) := ⟨⟨by decide +kernel, by decide +kernel⟩, List.mem_of_getElem? (i := 583) (by decide +kernel), List.mem_of_getElem? (i := 732) (by decide +kernel), List.mem_of_getElem? (i := 733) (by decide +kernel)⟩
theorem lw_p52 : lw_okq (⟨"ChangingStarsModel", "tell", "(J)I"⟩, 26) := ⟨⟨by decide +kernel, by decide +kernel⟩, List.mem_of_getElem? (i := 583) (by decide +kernel), List.mem_of_getElem? (i := 747) (by decide +kernel), List.mem_of_getElem? (i := 748) (by decide +kernel)⟩
theorem lw_p53 : lw_okq (⟨"ChangingStarsModel", "stringOf", "(III)J"⟩, 26) := ⟨⟨by decide +kernel, by decide +kernel⟩, List.mem_of_getElem? (i := 583) (by decide +kernel), List.mem_of_getElem? (i := 794) (by decide +kernel), List.mem_of_getElem? (i := 795) (by decide +kernel)⟩
theorem lw_p54 : lw_okq (⟨"ChangingStarsModel", "bestOf", "(IIII)I"⟩, 26) := ⟨⟨by decide +kernel, by decide +kernel⟩, List.mem_of_getElem? (i := 583) (by decide +kernel), List.mem_of_getElem? (i := 802) (by decide +kernel), List.mem_of_getElem? (i := 803) (by decide +kernel)⟩
theorem lw_p55 : lw_okq (⟨"ChangingStarsModel", "dips", "(IIII)Z"⟩, 26) := ⟨⟨by decide +kernel, by decide +kernel⟩, List.mem_of_getElem? (i := 583) (by decide +kernel), List.mem_of_getElem? (i := 815) (by decide +kernel), List.mem_of_getElem? (i := 816) (by decide +kernel)⟩
theorem lw_p56 : lw_okq (⟨"ChangingStarsModel", "lowsOf", "(II)I"⟩, 26) := ⟨⟨by decide +kernel, by decide +kernel⟩, List.mem_of_getElem? (i := 583) (by decide +kernel), List.mem_of_getElem? (i := 831) (by decide +kernel), List.mem_of_getElem? (i := 832) (by decide +kernel)⟩
theorem lw_p57 : lw_okq (⟨"ChangingStarsModel", "turnOf", "(IIII)J"⟩, 26) := ⟨⟨by decide +kernel, by decide +kernel⟩, List.mem_of_getElem? (i := 583) (by decide +kernel), List.mem_of_getElem? (i := 846) (by decide +kernel), List.mem_of_getElem? (i := 847) (by decide +kernel)⟩
theorem lw_p58 : lw_okq (⟨"ChangingStarsModel", "lateOf", "(IIII)J"⟩, 26) := ⟨⟨by decide +kernel, by decide +kernel⟩, List.mem_of_getElem? (i := 583) (by decide +kernel), List.mem_of_getElem? (i := 857) (by decide +kernel), List.mem_of_getElem? (i := 858) (by decide +kernel)⟩
theorem lw_p59 : lw_okq (⟨"ChangingStarsModel", "classIs", "(I)I"⟩, 26) := ⟨⟨by decide +kernel, by decide +kernel⟩, List.mem_of_getElem? (i := 583) (by decide +kernel), List.mem_of_getElem? (i := 873) (by decide +kernel), List.mem_of_getElem? (i := 874) (by decide +kernel)⟩
theorem lw_p60 : lw_okq (⟨"ChangingStarsModel", "worth", "(II)I"⟩, 26) := ⟨⟨by decide +kernel, by decide +kernel⟩, List.mem_of_getElem? (i := 583) (by decide +kernel), List.mem_of_getElem? (i := 877) (by decide +kernel), List.mem_of_getElem? (i := 878) (by decide +kernel)⟩
def lw_privs_4 : List (MethodName × Nat) := [(⟨"ChangingStarsModel", "setLows", "(II)I"⟩, 26), (⟨"ChangingStarsModel", "middle", "(IZ)I"⟩, 26), (⟨"ChangingStarsModel", "sort", "(II)I"⟩, 26), (⟨"ChangingStarsModel", "looked", "(I)I"⟩, 26), (⟨"ChangingStarsModel", "tell", "(J)I"⟩, 26), (⟨"ChangingStarsModel", "stringOf", "(III)J"⟩, 26), (⟨"ChangingStarsModel", "bestOf", "(IIII)I"⟩, 26), (⟨"ChangingStarsModel", "dips", "(IIII)Z"⟩, 26), (⟨"ChangingStarsModel", "lowsOf", "(II)I"⟩, 26), (⟨"ChangingStarsModel", "turnOf", "(IIII)J"⟩, 26), (⟨"ChangingStarsModel", "lateOf", "(IIII)J"⟩, 26), (⟨"ChangingStarsModel", "classIs", "(I)I"⟩, 26), (⟨"ChangingStarsModel", "worth", "(II)I"⟩, 26)]
theorem lw_r4 : ∀ q ∈ lw_privs_4, lw_okq q := List.forall_mem_cons.mpr ⟨lw_p48, List.forall_mem_cons.mpr ⟨lw_p49, List.forall_mem_cons.mpr ⟨lw_p50, List.forall_mem_cons.mpr ⟨lw_p51, List.forall_mem_cons.mpr ⟨lw_p52, List.forall_mem_cons.mpr ⟨lw_p53, List.forall_mem_cons.mpr ⟨lw_p54, List.forall_mem_cons.mpr ⟨lw_p55, List.forall_mem_cons.mpr ⟨lw_p56, List.forall_mem_cons.mpr ⟨lw_p57, List.forall_mem_cons.mpr ⟨lw_p58, List.forall_mem_cons.mpr ⟨lw_p59, List.forall_mem_cons.mpr ⟨lw_p60, fun _ h => absurd h List.not_mem_nil⟩⟩⟩⟩⟩⟩⟩⟩⟩⟩⟩⟩⟩
def lw_privs : List (MethodName × Nat) := lw_privs_1 ++ (lw_privs_2 ++ (lw_privs_3 ++ (lw_privs_4)))
def lw_tbl : List Cond := k2_sels lw_privs ++ tables_1
theorem lw_privs_ok : ∀ q ∈ lw_privs, lw_okq q := by
  show ∀ q ∈ lw_privs_1 ++ (lw_privs_2 ++ (lw_privs_3 ++ (lw_privs_4))), lw_okq q
  exact List.forall_mem_append.mpr ⟨lw_r1, List.forall_mem_append.mpr ⟨lw_r2, List.forall_mem_append.mpr ⟨lw_r3, lw_r4⟩⟩⟩
end
section
abbrev jd (cc : ByteArray) (pc : Nat) (i : Instr) (n p2 : Nat) : Prop := decode cc pc = .ok (i, n) ∧ pc + n = p2
abbrev jt (cc : ByteArray) (pc : Nat) (i : Instr) (off : Int) (tgt p2 : Nat) : Prop := decode cc pc = .ok (i, 3) ∧ (pc : Int) + off = (tgt : Int) ∧ pc + 3 = p2
abbrev jM : Type := String × ByteArray × Nat × Option FieldType
def RX0 : String := "ChangingStars$BySize"
def TX0 : u_T := fun k => match k with
  | 0 => ("ChangingStars$BySize", "numbers", "[I", true)
  | _ => ("ChangingStars$BySize", "size", "I", false)
def tyX0 : Nat → FieldType := fun k => match k with
  | 0 => .array .int
  | _ => .int
theorem nmX0 : ∀ a, a < 2 → ∀ b, b < 2 → a ≠ b → (TX0 a).2.1 ≠ (TX0 b).2.1 := by decide +kernel
theorem tyX0_ok : ∀ k, k < 2 → parseFieldDescriptor (TX0 k).2.2.1 = some (tyX0 k) := by decide +kernel
abbrev cX0_init : ByteArray := prog_2_method_1_code
def yX0_init : MethodName := ⟨RX0, "<init>", "()V"⟩
abbrev cX0_clear : ByteArray := prog_2_method_2_code
def yX0_clear : MethodName := ⟨RX0, "clear", "()V"⟩
abbrev cX0_put : ByteArray := prog_2_method_3_code
def yX0_put : MethodName := ⟨RX0, "put", "(I)V"⟩
abbrev cX0_middle : ByteArray := prog_2_method_4_code
def yX0_middle : MethodName := ⟨RX0, "middle", "()I"⟩
abbrev cX0_spread : ByteArray := prog_2_method_5_code
def yX0_spread : MethodName := ⟨RX0, "spread", "()I"⟩
def RX1 : String := "ChangingStars$Curve"
def TX1 : u_T := fun k => match k with
  | 0 => ("ChangingStars$Curve", "times", "[I", true)
  | 1 => ("ChangingStars$Curve", "lights", "[I", true)
  | _ => ("ChangingStars$Curve", "size", "I", false)
def tyX1 : Nat → FieldType := fun k => match k with
  | 0 => .array .int
  | 1 => .array .int
  | _ => .int
theorem nmX1 : ∀ a, a < 3 → ∀ b, b < 3 → a ≠ b → (TX1 a).2.1 ≠ (TX1 b).2.1 := by decide +kernel
theorem tyX1_ok : ∀ k, k < 3 → parseFieldDescriptor (TX1 k).2.2.1 = some (tyX1 k) := by decide +kernel
abbrev cX1_init : ByteArray := prog_3_method_1_code
def yX1_init : MethodName := ⟨RX1, "<init>", "()V"⟩
abbrev cX1_gather : ByteArray := prog_3_method_2_code
def yX1_gather : MethodName := ⟨RX1, "gather", "(LChangingStars$Star;[I)V"⟩
abbrev cX1_sum : ByteArray := prog_3_method_3_code
def yX1_sum : MethodName := ⟨RX1, "sum", "()J"⟩
abbrev cX1_average : ByteArray := prog_3_method_4_code
def yX1_average : MethodName := ⟨RX1, "average", "()J"⟩
def RX2 : String := "ChangingStars$DipSearch"
def TX2 : u_T := fun k => match k with
  | 0 => ("ChangingStars$DipSearch", "sums", "[I", true)
  | 1 => ("ChangingStars$DipSearch", "counts", "[I", true)
  | 2 => ("ChangingStars$DipSearch", "sumsIn", "[I", true)
  | 3 => ("ChangingStars$DipSearch", "countsIn", "[I", true)
  | 4 => ("ChangingStars$DipSearch", "sumOfAll", "I", false)
  | 5 => ("ChangingStars$DipSearch", "countOfAll", "I", false)
  | 6 => ("ChangingStars$DipSearch", "length", "I", false)
  | 7 => ("ChangingStars$DipSearch", "firstPhase", "I", false)
  | _ => ("ChangingStars$DipSearch", "countIn", "I", false)
def tyX2 : Nat → FieldType := fun k => match k with
  | 0 => .array .int
  | 1 => .array .int
  | 2 => .array .int
  | 3 => .array .int
  | 4 => .int
  | 5 => .int
  | 6 => .int
  | 7 => .int
  | _ => .int
theorem nmX2 : ∀ a, a < 9 → ∀ b, b < 9 → a ≠ b → (TX2 a).2.1 ≠ (TX2 b).2.1 := by decide +kernel
theorem tyX2_ok : ∀ k, k < 9 → parseFieldDescriptor (TX2 k).2.2.1 = some (tyX2 k) := by decide +kernel
abbrev cX2_init : ByteArray := prog_4_method_1_code
def yX2_init : MethodName := ⟨RX2, "<init>", "()V"⟩
abbrev cX2_search : ByteArray := prog_4_method_2_code
def yX2_search : MethodName := ⟨RX2, "search", "(LChangingStars$Curve;II)Z"⟩
abbrev cX2_share : ByteArray := prog_4_method_3_code
def yX2_share : MethodName := ⟨RX2, "share", "(LChangingStars$Curve;I)V"⟩
abbrev cX2_widen : ByteArray := prog_4_method_4_code
def yX2_widen : MethodName := ⟨RX2, "widen", "(II)V"⟩
abbrev cX2_countsHere : ByteArray := prog_4_method_5_code
def yX2_countsHere : MethodName := ⟨RX2, "countsHere", "(I)Z"⟩
abbrev cX2_depthFrom : ByteArray := prog_4_method_6_code
def yX2_depthFrom : MethodName := ⟨RX2, "depthFrom", "(I)J"⟩
abbrev cX2_keep : ByteArray := prog_4_method_7_code
def yX2_keep : MethodName := ⟨RX2, "keep", "(II)V"⟩
def RX3 : String := "ChangingStars$Fold"
def TX3 : u_T := fun k => match k with
  | 0 => ("ChangingStars$Fold", "phases", "[I", true)
  | 1 => ("ChangingStars$Fold", "lights", "[I", true)
  | _ => ("ChangingStars$Fold", "strings", "[I", true)
def tyX3 : Nat → FieldType := fun k => match k with
  | 0 => .array .int
  | 1 => .array .int
  | _ => .array .int
theorem nmX3 : ∀ a, a < 3 → ∀ b, b < 3 → a ≠ b → (TX3 a).2.1 ≠ (TX3 b).2.1 := by decide +kernel
theorem tyX3_ok : ∀ k, k < 3 → parseFieldDescriptor (TX3 k).2.2.1 = some (tyX3 k) := by decide +kernel
abbrev cX3_init : ByteArray := prog_5_method_1_code
def yX3_init : MethodName := ⟨RX3, "<init>", "()V"⟩
abbrev cX3_stringOf : ByteArray := prog_5_method_2_code
def yX3_stringOf : MethodName := ⟨RX3, "stringOf", "(LChangingStars$Curve;II)I"⟩
abbrev cX3_put : ByteArray := prog_5_method_3_code
def yX3_put : MethodName := ⟨RX3, "put", "(III)V"⟩
abbrev cX3_stringsFromTo : ByteArray := prog_5_method_4_code
def yX3_stringsFromTo : MethodName := ⟨RX3, "stringsFromTo", "(LChangingStars$Curve;III)V"⟩
abbrev cX3_leastFromTo : ByteArray := prog_5_method_5_code
def yX3_leastFromTo : MethodName := ⟨RX3, "leastFromTo", "(II)I"⟩
def RX4 : String := "ChangingStars$LowTimes"
def TX4 : u_T := fun k => match k with
  | 0 => ("ChangingStars$LowTimes", "times", "[I", true)
  | _ => ("ChangingStars$LowTimes", "size", "I", false)
def tyX4 : Nat → FieldType := fun k => match k with
  | 0 => .array .int
  | _ => .int
theorem nmX4 : ∀ a, a < 2 → ∀ b, b < 2 → a ≠ b → (TX4 a).2.1 ≠ (TX4 b).2.1 := by decide +kernel
theorem tyX4_ok : ∀ k, k < 2 → parseFieldDescriptor (TX4 k).2.2.1 = some (tyX4 k) := by decide +kernel
abbrev cX4_init : ByteArray := prog_6_method_1_code
def yX4_init : MethodName := ⟨RX4, "<init>", "()V"⟩
abbrev cX4_has : ByteArray := prog_6_method_2_code
def yX4_has : MethodName := ⟨RX4, "has", "(I)Z"⟩
abbrev cX4_gather : ByteArray := prog_6_method_3_code
def yX4_gather : MethodName := ⟨RX4, "gather", "(LChangingStars$Curve;I)V"⟩
def RX5 : String := "ChangingStars$Rule"
def TX5 : u_T := fun k => match k with
  | 0 => ("ChangingStars$Rule", "what", "I", true)
  | 1 => ("ChangingStars$Rule", "low", "I", true)
  | 2 => ("ChangingStars$Rule", "high", "I", true)
  | _ => ("ChangingStars$Rule", "clas", "I", true)
def tyX5 : Nat → FieldType := fun k => match k with
  | 0 => .int
  | 1 => .int
  | 2 => .int
  | _ => .int
theorem nmX5 : ∀ a, a < 4 → ∀ b, b < 4 → a ≠ b → (TX5 a).2.1 ≠ (TX5 b).2.1 := by decide +kernel
theorem tyX5_ok : ∀ k, k < 4 → parseFieldDescriptor (TX5 k).2.2.1 = some (tyX5 k) := by decide +kernel
abbrev cX5_init : ByteArray := prog_7_method_1_code
def yX5_init : MethodName := ⟨RX5, "<init>", "(IIII)V"⟩
abbrev cX5_fits : ByteArray := prog_7_method_2_code
def yX5_fits : MethodName := ⟨RX5, "fits", "([I)Z"⟩
def RX6 : String := "ChangingStars$Star"
def TX6 : u_T := fun k => match k with
  | 0 => ("ChangingStars$Star", "kind", "I", true)
  | 1 => ("ChangingStars$Star", "lights", "[I", true)
  | 2 => ("ChangingStars$Star", "hasRow", "Z", false)
  | _ => ("ChangingStars$Star", "watchedClass", "I", false)
def tyX6 : Nat → FieldType := fun k => match k with
  | 0 => .int
  | 1 => .array .int
  | 2 => .boolean
  | _ => .int
theorem nmX6 : ∀ a, a < 4 → ∀ b, b < 4 → a ≠ b → (TX6 a).2.1 ≠ (TX6 b).2.1 := by decide +kernel
theorem tyX6_ok : ∀ k, k < 4 → parseFieldDescriptor (TX6 k).2.2.1 = some (tyX6 k) := by decide +kernel
abbrev cX6_init : ByteArray := prog_8_method_1_code
def yX6_init : MethodName := ⟨RX6, "<init>", "(I)V"⟩
abbrev cX6_isOfKind : ByteArray := prog_8_method_2_code
def yX6_isOfKind : MethodName := ⟨RX6, "isOfKind", "(I)Z"⟩
abbrev cX6_emptyRow : ByteArray := prog_8_method_3_code
def yX6_emptyRow : MethodName := ⟨RX6, "emptyRow", "(Z)V"⟩
abbrev cX6_digestOnto : ByteArray := prog_8_method_4_code
def yX6_digestOnto : MethodName := ⟨RX6, "digestOnto", "(J)J"⟩
def RX7 : String := "ChangingStars"
def TX7 : u_T := fun k => match k with
  | 0 => ("ChangingStars", "stars", "[LChangingStars$Star;", true)
  | 1 => ("ChangingStars", "starCount", "I", false)
  | 2 => ("ChangingStars", "rules", "[LChangingStars$Rule;", true)
  | 3 => ("ChangingStars", "ruleCount", "I", false)
  | 4 => ("ChangingStars", "footings", "[I", true)
  | 5 => ("ChangingStars", "curve", "LChangingStars$Curve;", true)
  | 6 => ("ChangingStars", "sizes", "LChangingStars$BySize;", true)
  | 7 => ("ChangingStars", "fold", "LChangingStars$Fold;", true)
  | 8 => ("ChangingStars", "lowTimes", "LChangingStars$LowTimes;", true)
  | 9 => ("ChangingStars", "dips", "LChangingStars$DipSearch;", true)
  | 10 => ("ChangingStars", "measures", "[I", true)
  | 11 => ("ChangingStars", "stillLevels", "[I", true)
  | 12 => ("ChangingStars", "told", "J", false)
  | 13 => ("ChangingStars", "alarmBits", "I", false)
  | 14 => ("ChangingStars", "watches", "I", false)
  | 15 => ("ChangingStars", "latestFinding", "I", false)
  | _ => ("ChangingStars", "findingCounts", "[I", true)
def tyX7 : Nat → FieldType := fun k => match k with
  | 0 => .array (.object "ChangingStars$Star")
  | 1 => .int
  | 2 => .array (.object "ChangingStars$Rule")
  | 3 => .int
  | 4 => .array .int
  | 5 => .object "ChangingStars$Curve"
  | 6 => .object "ChangingStars$BySize"
  | 7 => .object "ChangingStars$Fold"
  | 8 => .object "ChangingStars$LowTimes"
  | 9 => .object "ChangingStars$DipSearch"
  | 10 => .array .int
  | 11 => .array .int
  | 12 => .long
  | 13 => .int
  | 14 => .int
  | 15 => .int
  | _ => .array .int
theorem nmX7 : ∀ a, a < 17 → ∀ b, b < 17 → a ≠ b → (TX7 a).2.1 ≠ (TX7 b).2.1 := by decide +kernel
theorem tyX7_ok : ∀ k, k < 17 → parseFieldDescriptor (TX7 k).2.2.1 = some (tyX7 k) := by decide +kernel
abbrev cX7_init : ByteArray := prog_1_method_1_code
def yX7_init : MethodName := ⟨RX7, "<init>", "()V"⟩
abbrev cX7_star : ByteArray := prog_1_method_2_code
def yX7_star : MethodName := ⟨RX7, "star", "(I)I"⟩
abbrev cX7_is : ByteArray := prog_1_method_3_code
def yX7_is : MethodName := ⟨RX7, "is", "(II)I"⟩
abbrev cX7_mark : ByteArray := prog_1_method_4_code
def yX7_mark : MethodName := ⟨RX7, "mark", "(II)I"⟩
abbrev cX7_row : ByteArray := prog_1_method_5_code
def yX7_row : MethodName := ⟨RX7, "row", "(I)I"⟩
abbrev cX7_lay : ByteArray := prog_1_method_6_code
def yX7_lay : MethodName := ⟨RX7, "lay", "(III)I"⟩
abbrev cX7_at : ByteArray := prog_1_method_7_code
def yX7_at : MethodName := ⟨RX7, "at", "(II)I"⟩
abbrev cX7_light : ByteArray := prog_1_method_8_code
def yX7_light : MethodName := ⟨RX7, "light", "(II)I"⟩
abbrev cX7_tear : ByteArray := prog_1_method_9_code
def yX7_tear : MethodName := ⟨RX7, "tear", "(I)I"⟩
abbrev cX7_copy : ByteArray := prog_1_method_10_code
def yX7_copy : MethodName := ⟨RX7, "copy", "(IIIII)I"⟩
abbrev cX7_foot : ByteArray := prog_1_method_11_code
def yX7_foot : MethodName := ⟨RX7, "foot", "(II)I"⟩
abbrev cX7_footing : ByteArray := prog_1_method_12_code
def yX7_footing : MethodName := ⟨RX7, "footing", "(I)I"⟩
abbrev cX7_level : ByteArray := prog_1_method_13_code
def yX7_level : MethodName := ⟨RX7, "level", "()I"⟩
abbrev cX7_levelOf : ByteArray := prog_1_method_14_code
def yX7_levelOf : MethodName := ⟨RX7, "levelOf", "(I)I"⟩
abbrev cX7_mean : ByteArray := prog_1_method_15_code
def yX7_mean : MethodName := ⟨RX7, "mean", "(I)I"⟩
abbrev cX7_phase : ByteArray := prog_1_method_16_code
def yX7_phase : MethodName := ⟨RX7, "phase", "(III)I"⟩
abbrev cX7_string : ByteArray := prog_1_method_17_code
def yX7_string : MethodName := ⟨RX7, "string", "(III)I"⟩
abbrev cX7_period : ByteArray := prog_1_method_18_code
def yX7_period : MethodName := ⟨RX7, "period", "(IIII)I"⟩
abbrev cX7_asWell : ByteArray := prog_1_method_19_code
def yX7_asWell : MethodName := ⟨RX7, "asWell", "(IIIII)I"⟩
abbrev cX7_depth : ByteArray := prog_1_method_20_code
def yX7_depth : MethodName := ⟨RX7, "depth", "(IIII)I"⟩
abbrev cX7_dip : ByteArray := prog_1_method_21_code
def yX7_dip : MethodName := ⟨RX7, "dip", "(III)I"⟩
abbrev cX7_dipOf : ByteArray := prog_1_method_22_code
def yX7_dipOf : MethodName := ⟨RX7, "dipOf", "(I)I"⟩
abbrev cX7_lows : ByteArray := prog_1_method_23_code
def yX7_lows : MethodName := ⟨RX7, "lows", "(II)I"⟩
abbrev cX7_low : ByteArray := prog_1_method_24_code
def yX7_low : MethodName := ⟨RX7, "low", "(III)I"⟩
abbrev cX7_turn : ByteArray := prog_1_method_25_code
def yX7_turn : MethodName := ⟨RX7, "turn", "(IIIIII)I"⟩
abbrev cX7_late : ByteArray := prog_1_method_26_code
def yX7_late : MethodName := ⟨RX7, "late", "(IIIIII)I"⟩
abbrev cX7_bent : ByteArray := prog_1_method_27_code
def yX7_bent : MethodName := ⟨RX7, "bent", "(IIIIII)I"⟩
abbrev cX7_rule : ByteArray := prog_1_method_28_code
def yX7_rule : MethodName := ⟨RX7, "rule", "(IIII)I"⟩
abbrev cX7_classOf : ByteArray := prog_1_method_29_code
def yX7_classOf : MethodName := ⟨RX7, "classOf", "(I)I"⟩
abbrev cX7_watch : ByteArray := prog_1_method_30_code
def yX7_watch : MethodName := ⟨RX7, "watch", "()I"⟩
abbrev cX7_alarms : ByteArray := prog_1_method_31_code
def yX7_alarms : MethodName := ⟨RX7, "alarms", "()I"⟩
abbrev cX7_asked : ByteArray := prog_1_method_32_code
def yX7_asked : MethodName := ⟨RX7, "asked", "()J"⟩
abbrev cX7_count : ByteArray := prog_1_method_33_code
def yX7_count : MethodName := ⟨RX7, "count", "(I)I"⟩
abbrev cX7_finding : ByteArray := prog_1_method_34_code
def yX7_finding : MethodName := ⟨RX7, "finding", "()I"⟩
abbrev cX7_findings : ByteArray := prog_1_method_35_code
def yX7_findings : MethodName := ⟨RX7, "findings", "(I)I"⟩
abbrev cX7_digest : ByteArray := prog_1_method_36_code
def yX7_digest : MethodName := ⟨RX7, "digest", "()J"⟩
abbrev cX7_found : ByteArray := prog_1_method_37_code
def yX7_found : MethodName := ⟨RX7, "found", "(I)I"⟩
abbrev cX7_tell : ByteArray := prog_1_method_38_code
def yX7_tell : MethodName := ⟨RX7, "tell", "(J)I"⟩
abbrev cX7_isKind : ByteArray := prog_1_method_39_code
def yX7_isKind : MethodName := ⟨RX7, "isKind", "(I)Z"⟩
abbrev cX7_isNight : ByteArray := prog_1_method_40_code
def yX7_isNight : MethodName := ⟨RX7, "isNight", "(I)Z"⟩
abbrev cX7_areNights : ByteArray := prog_1_method_41_code
def yX7_areNights : MethodName := ⟨RX7, "areNights", "(II)Z"⟩
abbrev cX7_isPeriod : ByteArray := prog_1_method_42_code
def yX7_isPeriod : MethodName := ⟨RX7, "isPeriod", "(II)Z"⟩
abbrev cX7_starNumbered : ByteArray := prog_1_method_43_code
def yX7_starNumbered : MethodName := ⟨RX7, "starNumbered", "(I)LChangingStars$Star;"⟩
abbrev cX7_lookAtRow : ByteArray := prog_1_method_44_code
def yX7_lookAtRow : MethodName := ⟨RX7, "lookAtRow", "(I)I"⟩
abbrev cX7_lookAtNight : ByteArray := prog_1_method_45_code
def yX7_lookAtNight : MethodName := ⟨RX7, "lookAtNight", "(II)I"⟩
abbrev cX7_gatherRow : ByteArray := prog_1_method_46_code
def yX7_gatherRow : MethodName := ⟨RX7, "gatherRow", "(I)I"⟩
abbrev cX7_gatherLights : ByteArray := prog_1_method_47_code
def yX7_gatherLights : MethodName := ⟨RX7, "gatherLights", "(I)I"⟩
abbrev cX7_gatherLows : ByteArray := prog_1_method_48_code
def yX7_gatherLows : MethodName := ⟨RX7, "gatherLows", "(II)I"⟩
abbrev cX7_gatherLowsOnClock : ByteArray := prog_1_method_49_code
def yX7_gatherLowsOnClock : MethodName := ⟨RX7, "gatherLowsOnClock", "(IIIII)I"⟩
abbrev cX7_foldFromTo : ByteArray := prog_1_method_50_code
def yX7_foldFromTo : MethodName := ⟨RX7, "foldFromTo", "(IIII)I"⟩
abbrev cX7_levelOfCurve : ByteArray := prog_1_method_51_code
def yX7_levelOfCurve : MethodName := ⟨RX7, "levelOfCurve", "()I"⟩
abbrev cX7_levelWithoutFootings : ByteArray := prog_1_method_52_code
def yX7_levelWithoutFootings : MethodName := ⟨RX7, "levelWithoutFootings", "(LChangingStars$Star;)I"⟩
abbrev cX7_middleDifference : ByteArray := prog_1_method_53_code
def yX7_middleDifference : MethodName := ⟨RX7, "middleDifference", "(I)I"⟩
abbrev cX7_measureCurve : ByteArray := prog_1_method_54_code
def yX7_measureCurve : MethodName := ⟨RX7, "measureCurve", "()V"⟩
abbrev cX7_markOfCurve : ByteArray := prog_1_method_55_code
def yX7_markOfCurve : MethodName := ⟨RX7, "markOfCurve", "(I)I"⟩
abbrev cX7_classOfCurve : ByteArray := prog_1_method_56_code
def yX7_classOfCurve : MethodName := ⟨RX7, "classOfCurve", "()I"⟩
abbrev cX7_phaseOfTime : ByteArray := prog_1_method_57_code
def yX7_phaseOfTime : MethodName := ⟨RX7, "phaseOfTime", "(III)I"⟩
abbrev cX7_turnOfTime : ByteArray := prog_1_method_58_code
def yX7_turnOfTime : MethodName := ⟨RX7, "turnOfTime", "(IIII)I"⟩
abbrev cX7_lateOfTime : ByteArray := prog_1_method_59_code
def yX7_lateOfTime : MethodName := ⟨RX7, "lateOfTime", "(IIII)I"⟩
abbrev cX7_countOfRows : ByteArray := prog_1_method_60_code
def yX7_countOfRows : MethodName := ⟨RX7, "countOfRows", "()I"⟩
abbrev cX7_countOfLights : ByteArray := prog_1_method_61_code
def yX7_countOfLights : MethodName := ⟨RX7, "countOfLights", "()I"⟩
def RX8 : String := "ChangingStarsModel"
def TX8 : u_T := fun k => match k with
  | 0 => ("ChangingStarsModel", "finding", "I", false)
  | 1 => ("ChangingStarsModel", "findings", "[I", true)
  | 2 => ("ChangingStarsModel", "asked", "J", false)
  | 3 => ("ChangingStarsModel", "stars", "I", false)
  | 4 => ("ChangingStarsModel", "kinds", "[I", true)
  | 5 => ("ChangingStarsModel", "isRow", "[Z", true)
  | 6 => ("ChangingStarsModel", "lights", "[I", true)
  | 7 => ("ChangingStarsModel", "footings", "[I", true)
  | 8 => ("ChangingStarsModel", "moving", "[I", true)
  | 9 => ("ChangingStarsModel", "sorted", "[I", true)
  | 10 => ("ChangingStarsModel", "raws", "[I", true)
  | 11 => ("ChangingStarsModel", "order", "[I", true)
  | 12 => ("ChangingStarsModel", "ins", "I", false)
  | 13 => ("ChangingStarsModel", "depth", "J", false)
  | 14 => ("ChangingStarsModel", "dipLength", "I", false)
  | 15 => ("ChangingStarsModel", "dipPhase", "I", false)
  | 16 => ("ChangingStarsModel", "dipIns", "I", false)
  | 17 => ("ChangingStarsModel", "lowTimes", "[I", true)
  | 18 => ("ChangingStarsModel", "rules", "I", false)
  | 19 => ("ChangingStarsModel", "ruleWhat", "[I", true)
  | 20 => ("ChangingStarsModel", "ruleLow", "[I", true)
  | 21 => ("ChangingStarsModel", "ruleHigh", "[I", true)
  | 22 => ("ChangingStarsModel", "ruleClass", "[I", true)
  | 23 => ("ChangingStarsModel", "classes", "[I", true)
  | 24 => ("ChangingStarsModel", "alarms", "I", false)
  | _ => ("ChangingStarsModel", "watches", "I", false)
def tyX8 : Nat → FieldType := fun k => match k with
  | 0 => .int
  | 1 => .array .int
  | 2 => .long
  | 3 => .int
  | 4 => .array .int
  | 5 => .array .boolean
  | 6 => .array .int
  | 7 => .array .int
  | 8 => .array .int
  | 9 => .array .int
  | 10 => .array .int
  | 11 => .array .int
  | 12 => .int
  | 13 => .long
  | 14 => .int
  | 15 => .int
  | 16 => .int
  | 17 => .array .int
  | 18 => .int
  | 19 => .array .int
  | 20 => .array .int
  | 21 => .array .int
  | 22 => .array .int
  | 23 => .array .int
  | 24 => .int
  | _ => .int
theorem nmX8 : ∀ a, a < 26 → ∀ b, b < 26 → a ≠ b → (TX8 a).2.1 ≠ (TX8 b).2.1 := by decide +kernel
theorem tyX8_ok : ∀ k, k < 26 → parseFieldDescriptor (TX8 k).2.2.1 = some (tyX8 k) := by decide +kernel
abbrev cX8_init : ByteArray := prog_10_method_1_code
def yX8_init : MethodName := ⟨RX8, "<init>", "()V"⟩
abbrev cX8_in : ByteArray := prog_10_method_3_code
def yX8_in : MethodName := ⟨RX8, "in", "(III)Z"⟩
abbrev cX8_meets : ByteArray := prog_10_method_4_code
def yX8_meets : MethodName := ⟨RX8, "meets", "(I)I"⟩
abbrev cX8_tell : ByteArray := prog_10_method_5_code
def yX8_tell : MethodName := ⟨RX8, "tell", "(J)I"⟩
abbrev cX8_isStar : ByteArray := prog_10_method_6_code
def yX8_isStar : MethodName := ⟨RX8, "isStar", "(I)Z"⟩
abbrev cX8_star : ByteArray := prog_10_method_7_code
def yX8_star : MethodName := ⟨RX8, "star", "(I)I"⟩
abbrev cX8_fits : ByteArray := prog_10_method_8_code
def yX8_fits : MethodName := ⟨RX8, "fits", "(II)Z"⟩
abbrev cX8_is : ByteArray := prog_10_method_9_code
def yX8_is : MethodName := ⟨RX8, "is", "(II)I"⟩
abbrev cX8_isNight : ByteArray := prog_10_method_10_code
def yX8_isNight : MethodName := ⟨RX8, "isNight", "(I)Z"⟩
abbrev cX8_has : ByteArray := prog_10_method_11_code
def yX8_has : MethodName := ⟨RX8, "has", "(II)Z"⟩
abbrev cX8_lightOf : ByteArray := prog_10_method_12_code
def yX8_lightOf : MethodName := ⟨RX8, "lightOf", "(II)I"⟩
abbrev cX8_many : ByteArray := prog_10_method_13_code
def yX8_many : MethodName := ⟨RX8, "many", "(I)I"⟩
abbrev cX8_swing : ByteArray := prog_10_method_14_code
def yX8_swing : MethodName := ⟨RX8, "swing", "(I)I"⟩
abbrev cX8_mark : ByteArray := prog_10_method_15_code
def yX8_mark : MethodName := ⟨RX8, "mark", "(II)I"⟩
abbrev cX8_looked : ByteArray := prog_10_method_16_code
def yX8_looked : MethodName := ⟨RX8, "looked", "(I)I"⟩
abbrev cX8_row : ByteArray := prog_10_method_17_code
def yX8_row : MethodName := ⟨RX8, "row", "(I)I"⟩
abbrev cX8_lay : ByteArray := prog_10_method_18_code
def yX8_lay : MethodName := ⟨RX8, "lay", "(III)I"⟩
abbrev cX8_at : ByteArray := prog_10_method_19_code
def yX8_at : MethodName := ⟨RX8, "at", "(II)I"⟩
abbrev cX8_light : ByteArray := prog_10_method_20_code
def yX8_light : MethodName := ⟨RX8, "light", "(II)I"⟩
abbrev cX8_tear : ByteArray := prog_10_method_21_code
def yX8_tear : MethodName := ⟨RX8, "tear", "(I)I"⟩
abbrev cX8_copy : ByteArray := prog_10_method_22_code
def yX8_copy : MethodName := ⟨RX8, "copy", "(IIIII)I"⟩
abbrev cX8_foot : ByteArray := prog_10_method_23_code
def yX8_foot : MethodName := ⟨RX8, "foot", "(II)I"⟩
abbrev cX8_footing : ByteArray := prog_10_method_24_code
def yX8_footing : MethodName := ⟨RX8, "footing", "(I)I"⟩
abbrev cX8_sort : ByteArray := prog_10_method_25_code
def yX8_sort : MethodName := ⟨RX8, "sort", "(II)I"⟩
abbrev cX8_middle : ByteArray := prog_10_method_26_code
def yX8_middle : MethodName := ⟨RX8, "middle", "(IZ)I"⟩
abbrev cX8_level : ByteArray := prog_10_method_27_code
def yX8_level : MethodName := ⟨RX8, "level", "()I"⟩
abbrev cX8_levelOf : ByteArray := prog_10_method_28_code
def yX8_levelOf : MethodName := ⟨RX8, "levelOf", "(I)I"⟩
abbrev cX8_mean : ByteArray := prog_10_method_29_code
def yX8_mean : MethodName := ⟨RX8, "mean", "(I)I"⟩
abbrev cX8_isPeriod : ByteArray := prog_10_method_30_code
def yX8_isPeriod : MethodName := ⟨RX8, "isPeriod", "(I)Z"⟩
abbrev cX8_isPart : ByteArray := prog_10_method_31_code
def yX8_isPart : MethodName := ⟨RX8, "isPart", "(I)Z"⟩
abbrev cX8_phase : ByteArray := prog_10_method_32_code
def yX8_phase : MethodName := ⟨RX8, "phase", "(III)I"⟩
abbrev cX8_stringOf : ByteArray := prog_10_method_33_code
def yX8_stringOf : MethodName := ⟨RX8, "stringOf", "(III)J"⟩
abbrev cX8_string : ByteArray := prog_10_method_34_code
def yX8_string : MethodName := ⟨RX8, "string", "(III)I"⟩
abbrev cX8_bestOf : ByteArray := prog_10_method_35_code
def yX8_bestOf : MethodName := ⟨RX8, "bestOf", "(IIII)I"⟩
abbrev cX8_period : ByteArray := prog_10_method_36_code
def yX8_period : MethodName := ⟨RX8, "period", "(IIII)I"⟩
abbrev cX8_asWell : ByteArray := prog_10_method_37_code
def yX8_asWell : MethodName := ⟨RX8, "asWell", "(IIIII)I"⟩
abbrev cX8_dips : ByteArray := prog_10_method_38_code
def yX8_dips : MethodName := ⟨RX8, "dips", "(IIII)Z"⟩
abbrev cX8_depth : ByteArray := prog_10_method_39_code
def yX8_depth : MethodName := ⟨RX8, "depth", "(IIII)I"⟩
abbrev cX8_dip : ByteArray := prog_10_method_40_code
def yX8_dip : MethodName := ⟨RX8, "dip", "(III)I"⟩
abbrev cX8_dipOf : ByteArray := prog_10_method_41_code
def yX8_dipOf : MethodName := ⟨RX8, "dipOf", "(I)I"⟩
abbrev cX8_setLows : ByteArray := prog_10_method_42_code
def yX8_setLows : MethodName := ⟨RX8, "setLows", "(II)I"⟩
abbrev cX8_lowsOf : ByteArray := prog_10_method_43_code
def yX8_lowsOf : MethodName := ⟨RX8, "lowsOf", "(II)I"⟩
abbrev cX8_lows : ByteArray := prog_10_method_44_code
def yX8_lows : MethodName := ⟨RX8, "lows", "(II)I"⟩
abbrev cX8_low : ByteArray := prog_10_method_45_code
def yX8_low : MethodName := ⟨RX8, "low", "(III)I"⟩
abbrev cX8_isClock : ByteArray := prog_10_method_46_code
def yX8_isClock : MethodName := ⟨RX8, "isClock", "(III)Z"⟩
abbrev cX8_turnOf : ByteArray := prog_10_method_47_code
def yX8_turnOf : MethodName := ⟨RX8, "turnOf", "(IIII)J"⟩
abbrev cX8_lateOf : ByteArray := prog_10_method_48_code
def yX8_lateOf : MethodName := ⟨RX8, "lateOf", "(IIII)J"⟩
abbrev cX8_turn : ByteArray := prog_10_method_49_code
def yX8_turn : MethodName := ⟨RX8, "turn", "(IIIIII)I"⟩
abbrev cX8_late : ByteArray := prog_10_method_50_code
def yX8_late : MethodName := ⟨RX8, "late", "(IIIIII)I"⟩
abbrev cX8_bent : ByteArray := prog_10_method_51_code
def yX8_bent : MethodName := ⟨RX8, "bent", "(IIIIII)I"⟩
abbrev cX8_rule : ByteArray := prog_10_method_52_code
def yX8_rule : MethodName := ⟨RX8, "rule", "(IIII)I"⟩
abbrev cX8_worth : ByteArray := prog_10_method_53_code
def yX8_worth : MethodName := ⟨RX8, "worth", "(II)I"⟩
abbrev cX8_classIs : ByteArray := prog_10_method_54_code
def yX8_classIs : MethodName := ⟨RX8, "classIs", "(I)I"⟩
abbrev cX8_classOf : ByteArray := prog_10_method_55_code
def yX8_classOf : MethodName := ⟨RX8, "classOf", "(I)I"⟩
abbrev cX8_watch : ByteArray := prog_10_method_56_code
def yX8_watch : MethodName := ⟨RX8, "watch", "()I"⟩
abbrev cX8_alarms : ByteArray := prog_10_method_57_code
def yX8_alarms : MethodName := ⟨RX8, "alarms", "()I"⟩
abbrev cX8_asked : ByteArray := prog_10_method_58_code
def yX8_asked : MethodName := ⟨RX8, "asked", "()J"⟩
abbrev cX8_count : ByteArray := prog_10_method_59_code
def yX8_count : MethodName := ⟨RX8, "count", "(I)I"⟩
abbrev cX8_finding : ByteArray := prog_10_method_60_code
def yX8_finding : MethodName := ⟨RX8, "finding", "()I"⟩
abbrev cX8_findings : ByteArray := prog_10_method_61_code
def yX8_findings : MethodName := ⟨RX8, "findings", "(I)I"⟩
abbrev cX8_digest : ByteArray := prog_10_method_62_code
def yX8_digest : MethodName := ⟨RX8, "digest", "()J"⟩
def RJ9 : String := "java/lang/Math"
def TJ9 : u_T := fun k => match k with
  | _ => ("", "", "", false)
def tyJ9 : Nat → FieldType := fun k => match k with
  | _ => .int
theorem nmJ9 : ∀ a, a < 0 → ∀ b, b < 0 → a ≠ b → (TJ9 a).2.1 ≠ (TJ9 b).2.1 := by decide +kernel
theorem tyJ9_ok : ∀ k, k < 0 → parseFieldDescriptor (TJ9 k).2.2.1 = some (tyJ9 k) := by decide +kernel
abbrev cJ9_floorDiv_7cf53 : ByteArray := prog_11_method_47_code
def yJ9_floorDiv_7cf53 : MethodName := ⟨RJ9, "floorDiv", "(II)I"⟩
abbrev cJ9_floorMod_7cf53 : ByteArray := prog_11_method_50_code
def yJ9_floorMod_7cf53 : MethodName := ⟨RJ9, "floorMod", "(II)I"⟩
abbrev cJ9_abs_0f7a4 : ByteArray := prog_11_method_59_code
def yJ9_abs_0f7a4 : MethodName := ⟨RJ9, "abs", "(I)I"⟩
abbrev cJ9_min_7cf53 : ByteArray := prog_11_method_69_code
def yJ9_min_7cf53 : MethodName := ⟨RJ9, "min", "(II)I"⟩
def RJ10 : String := "java/lang/System"
def TJ10 : u_T := fun k => match k with
  | _ => ("", "", "", false)
def tyJ10 : Nat → FieldType := fun k => match k with
  | _ => .int
theorem nmJ10 : ∀ a, a < 0 → ∀ b, b < 0 → a ≠ b → (TJ10 a).2.1 ≠ (TJ10 b).2.1 := by decide +kernel
theorem tyJ10_ok : ∀ k, k < 0 → parseFieldDescriptor (TJ10 k).2.2.1 = some (tyJ10 k) := by decide +kernel
def RJ7 : String := "java/util/Arrays"
def TJ7 : u_T := fun k => match k with
  | _ => ("", "", "", false)
def tyJ7 : Nat → FieldType := fun k => match k with
  | _ => .int
theorem nmJ7 : ∀ a, a < 0 → ∀ b, b < 0 → a ≠ b → (TJ7 a).2.1 ≠ (TJ7 b).2.1 := by decide +kernel
theorem tyJ7_ok : ∀ k, k < 0 → parseFieldDescriptor (TJ7 k).2.2.1 = some (tyJ7 k) := by decide +kernel
abbrev cJ7_fill_53178 : ByteArray := prog_13_method_103_code
def yJ7_fill_53178 : MethodName := ⟨RJ7, "fill", "([II)V"⟩
def RL : String := "ChangingStarsLaw"
abbrev cL_law : ByteArray := code
def yL_law : MethodName := ⟨RL, "law", "([I)Z"⟩
abbrev mX0_init : jM := (RX0, cX0_init, 1, none)
abbrev mX0_clear : jM := (RX0, cX0_clear, 1, none)
abbrev mX0_put : jM := (RX0, cX0_put, 3, none)
abbrev mX0_middle : jM := (RX0, cX0_middle, 1, (some .int))
abbrev mX0_spread : jM := (RX0, cX0_spread, 1, (some .int))
abbrev mX1_init : jM := (RX1, cX1_init, 1, none)
abbrev mX1_gather : jM := (RX1, cX1_gather, 4, none)
abbrev mX1_sum : jM := (RX1, cX1_sum, 4, (some .long))
abbrev mX1_average : jM := (RX1, cX1_average, 1, (some .long))
abbrev mX2_init : jM := (RX2, cX2_init, 1, none)
abbrev mJ7_fill_53178 : jM := (RJ7, cJ7_fill_53178, 4, none)
abbrev mX7_phaseOfTime : jM := (RX7, cX7_phaseOfTime, 3, (some .int))
abbrev mX2_share : jM := (RX2, cX2_share, 5, none)
abbrev mX2_widen : jM := (RX2, cX2_widen, 3, none)
abbrev mX2_countsHere : jM := (RX2, cX2_countsHere, 2, (some .boolean))
abbrev mX2_depthFrom : jM := (RX2, cX2_depthFrom, 6, (some .long))
abbrev mX2_keep : jM := (RX2, cX2_keep, 3, none)
abbrev mX2_search : jM := (RX2, cX2_search, 10, (some .boolean))
abbrev mX3_init : jM := (RX3, cX3_init, 1, none)
abbrev mX3_put : jM := (RX3, cX3_put, 5, none)
abbrev mX3_stringOf : jM := (RX3, cX3_stringOf, 7, (some .int))
abbrev mX3_stringsFromTo : jM := (RX3, cX3_stringsFromTo, 6, none)
abbrev mX3_leastFromTo : jM := (RX3, cX3_leastFromTo, 5, (some .int))
abbrev mX4_init : jM := (RX4, cX4_init, 1, none)
abbrev mX4_has : jM := (RX4, cX4_has, 2, (some .boolean))
abbrev mX4_gather : jM := (RX4, cX4_gather, 7, none)
abbrev mX5_init : jM := (RX5, cX5_init, 5, none)
abbrev mX5_fits : jM := (RX5, cX5_fits, 2, (some .boolean))
abbrev mX6_init : jM := (RX6, cX6_init, 2, none)
abbrev mX6_isOfKind : jM := (RX6, cX6_isOfKind, 2, (some .boolean))
abbrev mX6_emptyRow : jM := (RX6, cX6_emptyRow, 2, none)
abbrev mX6_digestOnto : jM := (RX6, cX6_digestOnto, 6, (some .long))
abbrev mX7_init : jM := (RX7, cX7_init, 1, none)
abbrev mX7_isKind : jM := (RX7, cX7_isKind, 1, (some .boolean))
abbrev mX7_star : jM := (RX7, cX7_star, 2, (some .int))
abbrev mX7_starNumbered : jM := (RX7, cX7_starNumbered, 2, (some (.object "ChangingStars$Star")))
abbrev mX7_is : jM := (RX7, cX7_is, 4, (some .int))
abbrev mX7_found : jM := (RX7, cX7_found, 2, (some .int))
abbrev mX7_lookAtRow : jM := (RX7, cX7_lookAtRow, 3, (some .int))
abbrev mX7_gatherRow : jM := (RX7, cX7_gatherRow, 3, (some .int))
abbrev mX7_levelOfCurve : jM := (RX7, cX7_levelOfCurve, 2, (some .int))
abbrev mX7_measureCurve : jM := (RX7, cX7_measureCurve, 2, none)
abbrev mX7_markOfCurve : jM := (RX7, cX7_markOfCurve, 2, (some .int))
abbrev mX7_mark : jM := (RX7, cX7_mark, 5, (some .int))
abbrev mX7_row : jM := (RX7, cX7_row, 4, (some .int))
abbrev mX7_isNight : jM := (RX7, cX7_isNight, 1, (some .boolean))
abbrev mX7_lookAtNight : jM := (RX7, cX7_lookAtNight, 4, (some .int))
abbrev mX7_lay : jM := (RX7, cX7_lay, 6, (some .int))
abbrev mX7_at : jM := (RX7, cX7_at, 4, (some .int))
abbrev mX7_tell : jM := (RX7, cX7_tell, 3, (some .int))
abbrev mX7_light : jM := (RX7, cX7_light, 5, (some .int))
abbrev mX7_tear : jM := (RX7, cX7_tear, 3, (some .int))
abbrev mX7_areNights : jM := (RX7, cX7_areNights, 2, (some .boolean))
abbrev mX7_copy : jM := (RX7, cX7_copy, 8, (some .int))
abbrev mX7_foot : jM := (RX7, cX7_foot, 3, (some .int))
abbrev mX7_footing : jM := (RX7, cX7_footing, 2, (some .int))
abbrev mX7_levelWithoutFootings : jM := (RX7, cX7_levelWithoutFootings, 3, (some .int))
abbrev mX7_middleDifference : jM := (RX7, cX7_middleDifference, 3, (some .int))
abbrev mX7_level : jM := (RX7, cX7_level, 3, (some .int))
abbrev mX7_gatherLights : jM := (RX7, cX7_gatherLights, 3, (some .int))
abbrev mX7_levelOf : jM := (RX7, cX7_levelOf, 3, (some .int))
abbrev mX7_mean : jM := (RX7, cX7_mean, 3, (some .int))
abbrev mX7_isPeriod : jM := (RX7, cX7_isPeriod, 2, (some .boolean))
abbrev mX7_phase : jM := (RX7, cX7_phase, 4, (some .int))
abbrev mX7_string : jM := (RX7, cX7_string, 5, (some .int))
abbrev mX7_foldFromTo : jM := (RX7, cX7_foldFromTo, 6, (some .int))
abbrev mX7_period : jM := (RX7, cX7_period, 7, (some .int))
abbrev mX7_asWell : jM := (RX7, cX7_asWell, 12, (some .int))
abbrev mJ9_floorMod_7cf53 : jM := (RJ9, cJ9_floorMod_7cf53, 3, (some .int))
abbrev mX7_depth : jM := (RX7, cX7_depth, 10, (some .int))
abbrev mX7_dip : jM := (RX7, cX7_dip, 5, (some .int))
abbrev mX7_dipOf : jM := (RX7, cX7_dipOf, 2, (some .int))
abbrev mX7_gatherLows : jM := (RX7, cX7_gatherLows, 4, (some .int))
abbrev mX7_lows : jM := (RX7, cX7_lows, 4, (some .int))
abbrev mX7_low : jM := (RX7, cX7_low, 5, (some .int))
abbrev mX7_gatherLowsOnClock : jM := (RX7, cX7_gatherLowsOnClock, 6, (some .int))
abbrev mJ9_floorDiv_7cf53 : jM := (RJ9, cJ9_floorDiv_7cf53, 3, (some .int))
abbrev mX7_turnOfTime : jM := (RX7, cX7_turnOfTime, 4, (some .int))
abbrev mX7_turn : jM := (RX7, cX7_turn, 8, (some .int))
abbrev mX7_lateOfTime : jM := (RX7, cX7_lateOfTime, 4, (some .int))
abbrev mX7_late : jM := (RX7, cX7_late, 8, (some .int))
abbrev mX7_bent : jM := (RX7, cX7_bent, 11, (some .int))
abbrev mX7_rule : jM := (RX7, cX7_rule, 5, (some .int))
abbrev mX7_classOfCurve : jM := (RX7, cX7_classOfCurve, 2, (some .int))
abbrev mX7_classOf : jM := (RX7, cX7_classOf, 3, (some .int))
abbrev mX7_watch : jM := (RX7, cX7_watch, 4, (some .int))
abbrev mX7_alarms : jM := (RX7, cX7_alarms, 1, (some .int))
abbrev mX7_asked : jM := (RX7, cX7_asked, 1, (some .long))
abbrev mX7_countOfRows : jM := (RX7, cX7_countOfRows, 3, (some .int))
abbrev mX7_countOfLights : jM := (RX7, cX7_countOfLights, 4, (some .int))
abbrev mX7_count : jM := (RX7, cX7_count, 2, (some .int))
abbrev mX7_finding : jM := (RX7, cX7_finding, 1, (some .int))
abbrev mX7_findings : jM := (RX7, cX7_findings, 2, (some .int))
abbrev mX7_digest : jM := (RX7, cX7_digest, 4, (some .long))
abbrev mX8_init : jM := (RX8, cX8_init, 2, none)
abbrev mX8_in : jM := (RX8, cX8_in, 3, (some .boolean))
abbrev mX8_meets : jM := (RX8, cX8_meets, 2, (some .int))
abbrev mX8_tell : jM := (RX8, cX8_tell, 3, (some .int))
abbrev mX8_isStar : jM := (RX8, cX8_isStar, 2, (some .boolean))
abbrev mX8_star : jM := (RX8, cX8_star, 2, (some .int))
abbrev mX8_fits : jM := (RX8, cX8_fits, 3, (some .boolean))
abbrev mX8_is : jM := (RX8, cX8_is, 3, (some .int))
abbrev mX8_isNight : jM := (RX8, cX8_isNight, 1, (some .boolean))
abbrev mX8_has : jM := (RX8, cX8_has, 3, (some .boolean))
abbrev mX8_lightOf : jM := (RX8, cX8_lightOf, 3, (some .int))
abbrev mX8_many : jM := (RX8, cX8_many, 4, (some .int))
abbrev mX8_swing : jM := (RX8, cX8_swing, 6, (some .int))
abbrev mX8_sort : jM := (RX8, cX8_sort, 4, (some .int))
abbrev mX8_middle : jM := (RX8, cX8_middle, 5, (some .int))
abbrev mX8_setLows : jM := (RX8, cX8_setLows, 8, (some .int))
abbrev mX8_mark : jM := (RX8, cX8_mark, 3, (some .int))
abbrev mX8_looked : jM := (RX8, cX8_looked, 2, (some .int))
abbrev mX8_row : jM := (RX8, cX8_row, 4, (some .int))
abbrev mX8_lay : jM := (RX8, cX8_lay, 6, (some .int))
abbrev mX8_at : jM := (RX8, cX8_at, 4, (some .int))
abbrev mX8_light : jM := (RX8, cX8_light, 4, (some .int))
abbrev mX8_tear : jM := (RX8, cX8_tear, 3, (some .int))
abbrev mX8_copy : jM := (RX8, cX8_copy, 7, (some .int))
abbrev mX8_foot : jM := (RX8, cX8_foot, 3, (some .int))
abbrev mX8_footing : jM := (RX8, cX8_footing, 2, (some .int))
abbrev mX8_level : jM := (RX8, cX8_level, 5, (some .int))
abbrev mX8_levelOf : jM := (RX8, cX8_levelOf, 3, (some .int))
abbrev mX8_mean : jM := (RX8, cX8_mean, 7, (some .int))
abbrev mX8_isPeriod : jM := (RX8, cX8_isPeriod, 1, (some .boolean))
abbrev mX8_isPart : jM := (RX8, cX8_isPart, 1, (some .boolean))
abbrev mX8_phase : jM := (RX8, cX8_phase, 4, (some .int))
abbrev mX8_stringOf : jM := (RX8, cX8_stringOf, 9, (some .long))
abbrev mX8_string : jM := (RX8, cX8_string, 5, (some .int))
abbrev mX8_bestOf : jM := (RX8, cX8_bestOf, 11, (some .int))
abbrev mX8_period : jM := (RX8, cX8_period, 7, (some .int))
abbrev mX8_asWell : jM := (RX8, cX8_asWell, 12, (some .int))
abbrev mX8_dips : jM := (RX8, cX8_dips, 12, (some .boolean))
abbrev mX8_depth : jM := (RX8, cX8_depth, 6, (some .int))
abbrev mX8_dip : jM := (RX8, cX8_dip, 10, (some .int))
abbrev mX8_dipOf : jM := (RX8, cX8_dipOf, 2, (some .int))
abbrev mX8_lowsOf : jM := (RX8, cX8_lowsOf, 4, (some .int))
abbrev mX8_lows : jM := (RX8, cX8_lows, 3, (some .int))
abbrev mX8_low : jM := (RX8, cX8_low, 5, (some .int))
abbrev mX8_isClock : jM := (RX8, cX8_isClock, 3, (some .boolean))
abbrev mX8_turnOf : jM := (RX8, cX8_turnOf, 7, (some .long))
abbrev mX8_lateOf : jM := (RX8, cX8_lateOf, 5, (some .long))
abbrev mX8_turn : jM := (RX8, cX8_turn, 8, (some .int))
abbrev mX8_late : jM := (RX8, cX8_late, 8, (some .int))
abbrev mX8_bent : jM := (RX8, cX8_bent, 8, (some .int))
abbrev mX8_rule : jM := (RX8, cX8_rule, 5, (some .int))
abbrev mX8_worth : jM := (RX8, cX8_worth, 3, (some .int))
abbrev mX8_classIs : jM := (RX8, cX8_classIs, 3, (some .int))
abbrev mX8_classOf : jM := (RX8, cX8_classOf, 3, (some .int))
abbrev mX8_watch : jM := (RX8, cX8_watch, 4, (some .int))
abbrev mX8_alarms : jM := (RX8, cX8_alarms, 1, (some .int))
abbrev mX8_asked : jM := (RX8, cX8_asked, 1, (some .long))
abbrev mX8_count : jM := (RX8, cX8_count, 4, (some .int))
abbrev mX8_finding : jM := (RX8, cX8_finding, 1, (some .int))
abbrev mX8_findings : jM := (RX8, cX8_findings, 2, (some .int))
abbrev mX8_digest : jM := (RX8, cX8_digest, 5, (some .long))
abbrev mJ9_abs_0f7a4 : jM := (RJ9, cJ9_abs_0f7a4, 1, (some .int))
abbrev mJ9_min_7cf53 : jM := (RJ9, cJ9_min_7cf53, 2, (some .int))
end
section
theorem dX0_init_0 : jd cX0_init 0 (.aload_n 0) 1 1 := by decide +kernel
theorem dX0_init_1 : jd cX0_init 1 (.invokespecial 3) 3 4 := by decide +kernel
theorem dX0_init_4 : jd cX0_init 4 (.aload_n 0) 1 5 := by decide +kernel
theorem dX0_init_5 : jd cX0_init 5 (.bipush 60) 2 7 := by decide +kernel
theorem dX0_init_7 : jd cX0_init 7 (.newarray .int) 2 9 := by decide +kernel
theorem dX0_init_9 : jd cX0_init 9 (.putfield 9) 3 12 := by decide +kernel
theorem dX0_init_12 : jd cX0_init 12 .return_ 1 13 := by decide +kernel
theorem dX0_clear_0 : jd cX0_clear 0 (.aload_n 0) 1 1 := by decide +kernel
theorem dX0_clear_1 : jd cX0_clear 1 (.iconst 0) 1 2 := by decide +kernel
theorem dX0_clear_2 : jd cX0_clear 2 (.putfield 15) 3 5 := by decide +kernel
theorem dX0_clear_5 : jd cX0_clear 5 .return_ 1 6 := by decide +kernel
theorem dX0_put_0 : jd cX0_put 0 (.aload_n 0) 1 1 := by decide +kernel
theorem dX0_put_1 : jd cX0_put 1 (.getfield 15) 3 4 := by decide +kernel
theorem dX0_put_4 : jd cX0_put 4 (.bipush 60) 2 6 := by decide +kernel
theorem dX0_put_6 : jt cX0_put 6 (.if_icmp .lt 4) 4 10 9 := by decide +kernel
theorem dX0_put_9 : jd cX0_put 9 .return_ 1 10 := by decide +kernel
theorem dX0_put_10 : jd cX0_put 10 (.aload_n 0) 1 11 := by decide +kernel
theorem dX0_put_11 : jd cX0_put 11 (.getfield 15) 3 14 := by decide +kernel
theorem dX0_put_14 : jd cX0_put 14 (.istore_n 2) 1 15 := by decide +kernel
theorem dX0_put_15 : jd cX0_put 15 (.iload_n 2) 1 16 := by decide +kernel
theorem dX0_put_16 : jt cX0_put 16 (.ifCond .le 35) 35 51 19 := by decide +kernel
theorem dX0_put_19 : jd cX0_put 19 (.aload_n 0) 1 20 := by decide +kernel
theorem dX0_put_20 : jd cX0_put 20 (.getfield 9) 3 23 := by decide +kernel
theorem dX0_put_23 : jd cX0_put 23 (.iload_n 2) 1 24 := by decide +kernel
theorem dX0_put_24 : jd cX0_put 24 (.iconst 1) 1 25 := by decide +kernel
theorem dX0_put_25 : jd cX0_put 25 .isub 1 26 := by decide +kernel
theorem dX0_put_26 : jd cX0_put 26 .iaload 1 27 := by decide +kernel
theorem dX0_put_27 : jd cX0_put 27 (.iload_n 1) 1 28 := by decide +kernel
theorem dX0_put_28 : jt cX0_put 28 (.if_icmp .le 23) 23 51 31 := by decide +kernel
theorem dX0_put_31 : jd cX0_put 31 (.aload_n 0) 1 32 := by decide +kernel
theorem dX0_put_32 : jd cX0_put 32 (.getfield 9) 3 35 := by decide +kernel
theorem dX0_put_35 : jd cX0_put 35 (.iload_n 2) 1 36 := by decide +kernel
theorem dX0_put_36 : jd cX0_put 36 (.aload_n 0) 1 37 := by decide +kernel
theorem dX0_put_37 : jd cX0_put 37 (.getfield 9) 3 40 := by decide +kernel
theorem dX0_put_40 : jd cX0_put 40 (.iload_n 2) 1 41 := by decide +kernel
theorem dX0_put_41 : jd cX0_put 41 (.iconst 1) 1 42 := by decide +kernel
theorem dX0_put_42 : jd cX0_put 42 .isub 1 43 := by decide +kernel
theorem dX0_put_43 : jd cX0_put 43 .iaload 1 44 := by decide +kernel
theorem dX0_put_44 : jd cX0_put 44 .iastore 1 45 := by decide +kernel
theorem dX0_put_45 : jd cX0_put 45 (.iinc 2 (-1)) 3 48 := by decide +kernel
theorem dX0_put_48 : jt cX0_put 48 (.goto (-33)) (-33) 15 51 := by decide +kernel
theorem dX0_put_51 : jd cX0_put 51 (.aload_n 0) 1 52 := by decide +kernel
theorem dX0_put_52 : jd cX0_put 52 (.getfield 9) 3 55 := by decide +kernel
theorem dX0_put_55 : jd cX0_put 55 (.iload_n 2) 1 56 := by decide +kernel
theorem dX0_put_56 : jd cX0_put 56 (.iload_n 1) 1 57 := by decide +kernel
theorem dX0_put_57 : jd cX0_put 57 .iastore 1 58 := by decide +kernel
theorem dX0_put_58 : jd cX0_put 58 (.aload_n 0) 1 59 := by decide +kernel
theorem dX0_put_59 : jd cX0_put 59 .dup 1 60 := by decide +kernel
theorem dX0_put_60 : jd cX0_put 60 (.getfield 15) 3 63 := by decide +kernel
theorem dX0_put_63 : jd cX0_put 63 (.iconst 1) 1 64 := by decide +kernel
theorem dX0_put_64 : jd cX0_put 64 .iadd 1 65 := by decide +kernel
theorem dX0_put_65 : jd cX0_put 65 (.putfield 15) 3 68 := by decide +kernel
theorem dX0_put_68 : jd cX0_put 68 .return_ 1 69 := by decide +kernel
theorem dX0_middle_0 : jd cX0_middle 0 (.aload_n 0) 1 1 := by decide +kernel
theorem dX0_middle_1 : jd cX0_middle 1 (.getfield 15) 3 4 := by decide +kernel
theorem dX0_middle_4 : jt cX0_middle 4 (.ifCond .ne 7) 7 11 7 := by decide +kernel
theorem dX0_middle_7 : jd cX0_middle 7 (.iconst 0) 1 8 := by decide +kernel
theorem dX0_middle_8 : jt cX0_middle 8 (.goto 14) 14 22 11 := by decide +kernel
theorem dX0_middle_11 : jd cX0_middle 11 (.aload_n 0) 1 12 := by decide +kernel
theorem dX0_middle_12 : jd cX0_middle 12 (.getfield 9) 3 15 := by decide +kernel
theorem dX0_middle_15 : jd cX0_middle 15 (.aload_n 0) 1 16 := by decide +kernel
theorem dX0_middle_16 : jd cX0_middle 16 (.getfield 15) 3 19 := by decide +kernel
theorem dX0_middle_19 : jd cX0_middle 19 (.iconst 2) 1 20 := by decide +kernel
theorem dX0_middle_20 : jd cX0_middle 20 .idiv 1 21 := by decide +kernel
theorem dX0_middle_21 : jd cX0_middle 21 .iaload 1 22 := by decide +kernel
theorem dX0_middle_22 : jd cX0_middle 22 .ireturn 1 23 := by decide +kernel
theorem dX0_spread_0 : jd cX0_spread 0 (.aload_n 0) 1 1 := by decide +kernel
theorem dX0_spread_1 : jd cX0_spread 1 (.getfield 15) 3 4 := by decide +kernel
theorem dX0_spread_4 : jt cX0_spread 4 (.ifCond .ne 7) 7 11 7 := by decide +kernel
theorem dX0_spread_7 : jd cX0_spread 7 (.iconst 0) 1 8 := by decide +kernel
theorem dX0_spread_8 : jt cX0_spread 8 (.goto 21) 21 29 11 := by decide +kernel
theorem dX0_spread_11 : jd cX0_spread 11 (.aload_n 0) 1 12 := by decide +kernel
theorem dX0_spread_12 : jd cX0_spread 12 (.getfield 9) 3 15 := by decide +kernel
theorem dX0_spread_15 : jd cX0_spread 15 (.aload_n 0) 1 16 := by decide +kernel
theorem dX0_spread_16 : jd cX0_spread 16 (.getfield 15) 3 19 := by decide +kernel
theorem dX0_spread_19 : jd cX0_spread 19 (.iconst 1) 1 20 := by decide +kernel
theorem dX0_spread_20 : jd cX0_spread 20 .isub 1 21 := by decide +kernel
theorem dX0_spread_21 : jd cX0_spread 21 .iaload 1 22 := by decide +kernel
theorem dX0_spread_22 : jd cX0_spread 22 (.aload_n 0) 1 23 := by decide +kernel
theorem dX0_spread_23 : jd cX0_spread 23 (.getfield 9) 3 26 := by decide +kernel
theorem dX0_spread_26 : jd cX0_spread 26 (.iconst 0) 1 27 := by decide +kernel
theorem dX0_spread_27 : jd cX0_spread 27 .iaload 1 28 := by decide +kernel
theorem dX0_spread_28 : jd cX0_spread 28 .isub 1 29 := by decide +kernel
theorem dX0_spread_29 : jd cX0_spread 29 .ireturn 1 30 := by decide +kernel
theorem dX1_init_0 : jd cX1_init 0 (.aload_n 0) 1 1 := by decide +kernel
theorem dX1_init_1 : jd cX1_init 1 (.invokespecial 3) 3 4 := by decide +kernel
theorem dX1_init_4 : jd cX1_init 4 (.aload_n 0) 1 5 := by decide +kernel
theorem dX1_init_5 : jd cX1_init 5 (.bipush 60) 2 7 := by decide +kernel
theorem dX1_init_7 : jd cX1_init 7 (.newarray .int) 2 9 := by decide +kernel
theorem dX1_init_9 : jd cX1_init 9 (.putfield 9) 3 12 := by decide +kernel
theorem dX1_init_12 : jd cX1_init 12 (.aload_n 0) 1 13 := by decide +kernel
theorem dX1_init_13 : jd cX1_init 13 (.bipush 60) 2 15 := by decide +kernel
theorem dX1_init_15 : jd cX1_init 15 (.newarray .int) 2 17 := by decide +kernel
theorem dX1_init_17 : jd cX1_init 17 (.putfield 15) 3 20 := by decide +kernel
theorem dX1_init_20 : jd cX1_init 20 .return_ 1 21 := by decide +kernel
theorem dX1_gather_0 : jd cX1_gather 0 (.aload_n 0) 1 1 := by decide +kernel
theorem dX1_gather_1 : jd cX1_gather 1 (.iconst 0) 1 2 := by decide +kernel
theorem dX1_gather_2 : jd cX1_gather 2 (.putfield 18) 3 5 := by decide +kernel
theorem dX1_gather_5 : jd cX1_gather 5 (.iconst 0) 1 6 := by decide +kernel
theorem dX1_gather_6 : jd cX1_gather 6 (.istore_n 3) 1 7 := by decide +kernel
theorem dX1_gather_7 : jd cX1_gather 7 (.iload_n 3) 1 8 := by decide +kernel
theorem dX1_gather_8 : jd cX1_gather 8 (.bipush 60) 2 10 := by decide +kernel
theorem dX1_gather_10 : jt cX1_gather 10 (.if_icmp .ge 59) 59 69 13 := by decide +kernel
theorem dX1_gather_13 : jd cX1_gather 13 (.aload_n 1) 1 14 := by decide +kernel
theorem dX1_gather_14 : jd cX1_gather 14 (.getfield 22) 3 17 := by decide +kernel
theorem dX1_gather_17 : jd cX1_gather 17 (.iload_n 3) 1 18 := by decide +kernel
theorem dX1_gather_18 : jd cX1_gather 18 .iaload 1 19 := by decide +kernel
theorem dX1_gather_19 : jd cX1_gather 19 (.bipush (-9)) 2 21 := by decide +kernel
theorem dX1_gather_21 : jt cX1_gather 21 (.if_icmp .eq 42) 42 63 24 := by decide +kernel
theorem dX1_gather_24 : jd cX1_gather 24 (.aload_n 0) 1 25 := by decide +kernel
theorem dX1_gather_25 : jd cX1_gather 25 (.getfield 9) 3 28 := by decide +kernel
theorem dX1_gather_28 : jd cX1_gather 28 (.aload_n 0) 1 29 := by decide +kernel
theorem dX1_gather_29 : jd cX1_gather 29 (.getfield 18) 3 32 := by decide +kernel
theorem dX1_gather_32 : jd cX1_gather 32 (.iload_n 3) 1 33 := by decide +kernel
theorem dX1_gather_33 : jd cX1_gather 33 .iastore 1 34 := by decide +kernel
theorem dX1_gather_34 : jd cX1_gather 34 (.aload_n 0) 1 35 := by decide +kernel
theorem dX1_gather_35 : jd cX1_gather 35 (.getfield 15) 3 38 := by decide +kernel
theorem dX1_gather_38 : jd cX1_gather 38 (.aload_n 0) 1 39 := by decide +kernel
theorem dX1_gather_39 : jd cX1_gather 39 (.getfield 18) 3 42 := by decide +kernel
theorem dX1_gather_42 : jd cX1_gather 42 (.aload_n 1) 1 43 := by decide +kernel
theorem dX1_gather_43 : jd cX1_gather 43 (.getfield 22) 3 46 := by decide +kernel
theorem dX1_gather_46 : jd cX1_gather 46 (.iload_n 3) 1 47 := by decide +kernel
theorem dX1_gather_47 : jd cX1_gather 47 .iaload 1 48 := by decide +kernel
theorem dX1_gather_48 : jd cX1_gather 48 (.aload_n 2) 1 49 := by decide +kernel
theorem dX1_gather_49 : jd cX1_gather 49 (.iload_n 3) 1 50 := by decide +kernel
theorem dX1_gather_50 : jd cX1_gather 50 .iaload 1 51 := by decide +kernel
theorem dX1_gather_51 : jd cX1_gather 51 .isub 1 52 := by decide +kernel
theorem dX1_gather_52 : jd cX1_gather 52 .iastore 1 53 := by decide +kernel
theorem dX1_gather_53 : jd cX1_gather 53 (.aload_n 0) 1 54 := by decide +kernel
theorem dX1_gather_54 : jd cX1_gather 54 .dup 1 55 := by decide +kernel
theorem dX1_gather_55 : jd cX1_gather 55 (.getfield 18) 3 58 := by decide +kernel
theorem dX1_gather_58 : jd cX1_gather 58 (.iconst 1) 1 59 := by decide +kernel
theorem dX1_gather_59 : jd cX1_gather 59 .iadd 1 60 := by decide +kernel
theorem dX1_gather_60 : jd cX1_gather 60 (.putfield 18) 3 63 := by decide +kernel
theorem dX1_gather_63 : jd cX1_gather 63 (.iinc 3 1) 3 66 := by decide +kernel
theorem dX1_gather_66 : jt cX1_gather 66 (.goto (-59)) (-59) 7 69 := by decide +kernel
theorem dX1_gather_69 : jd cX1_gather 69 .return_ 1 70 := by decide +kernel
theorem dX1_sum_0 : jd cX1_sum 0 (.lconst 0) 1 1 := by decide +kernel
theorem dX1_sum_1 : jd cX1_sum 1 (.lstore_n 1) 1 2 := by decide +kernel
theorem dX1_sum_2 : jd cX1_sum 2 (.iconst 0) 1 3 := by decide +kernel
theorem dX1_sum_3 : jd cX1_sum 3 (.istore_n 3) 1 4 := by decide +kernel
theorem dX1_sum_4 : jd cX1_sum 4 (.iload_n 3) 1 5 := by decide +kernel
theorem dX1_sum_5 : jd cX1_sum 5 (.aload_n 0) 1 6 := by decide +kernel
theorem dX1_sum_6 : jd cX1_sum 6 (.getfield 18) 3 9 := by decide +kernel
theorem dX1_sum_9 : jt cX1_sum 9 (.if_icmp .ge 19) 19 28 12 := by decide +kernel
theorem dX1_sum_12 : jd cX1_sum 12 (.lload_n 1) 1 13 := by decide +kernel
theorem dX1_sum_13 : jd cX1_sum 13 (.aload_n 0) 1 14 := by decide +kernel
theorem dX1_sum_14 : jd cX1_sum 14 (.getfield 15) 3 17 := by decide +kernel
theorem dX1_sum_17 : jd cX1_sum 17 (.iload_n 3) 1 18 := by decide +kernel
theorem dX1_sum_18 : jd cX1_sum 18 .iaload 1 19 := by decide +kernel
theorem dX1_sum_19 : jd cX1_sum 19 .i2l 1 20 := by decide +kernel
theorem dX1_sum_20 : jd cX1_sum 20 .ladd 1 21 := by decide +kernel
theorem dX1_sum_21 : jd cX1_sum 21 (.lstore_n 1) 1 22 := by decide +kernel
theorem dX1_sum_22 : jd cX1_sum 22 (.iinc 3 1) 3 25 := by decide +kernel
theorem dX1_sum_25 : jt cX1_sum 25 (.goto (-21)) (-21) 4 28 := by decide +kernel
theorem dX1_sum_28 : jd cX1_sum 28 (.lload_n 1) 1 29 := by decide +kernel
theorem dX1_sum_29 : jd cX1_sum 29 .lreturn 1 30 := by decide +kernel
theorem dX1_average_0 : jd cX1_average 0 (.aload_n 0) 1 1 := by decide +kernel
theorem dX1_average_1 : jd cX1_average 1 (.getfield 18) 3 4 := by decide +kernel
theorem dX1_average_4 : jt cX1_average 4 (.ifCond .ne 7) 7 11 7 := by decide +kernel
theorem dX1_average_7 : jd cX1_average 7 (.lconst 0) 1 8 := by decide +kernel
theorem dX1_average_8 : jt cX1_average 8 (.goto 13) 13 21 11 := by decide +kernel
theorem dX1_average_11 : jd cX1_average 11 (.aload_n 0) 1 12 := by decide +kernel
theorem dX1_average_12 : jd cX1_average 12 (.invokevirtual 25) 3 15 := by decide +kernel
theorem dX1_average_15 : jd cX1_average 15 (.aload_n 0) 1 16 := by decide +kernel
theorem dX1_average_16 : jd cX1_average 16 (.getfield 18) 3 19 := by decide +kernel
theorem dX1_average_19 : jd cX1_average 19 .i2l 1 20 := by decide +kernel
theorem dX1_average_20 : jd cX1_average 20 .ldiv 1 21 := by decide +kernel
theorem dX1_average_21 : jd cX1_average 21 .lreturn 1 22 := by decide +kernel
theorem dX2_init_0 : jd cX2_init 0 (.aload_n 0) 1 1 := by decide +kernel
theorem dX2_init_1 : jd cX2_init 1 (.invokespecial 3) 3 4 := by decide +kernel
theorem dX2_init_4 : jd cX2_init 4 (.aload_n 0) 1 5 := by decide +kernel
theorem dX2_init_5 : jd cX2_init 5 (.sipush 600) 3 8 := by decide +kernel
theorem dX2_init_8 : jd cX2_init 8 (.newarray .int) 2 10 := by decide +kernel
theorem dX2_init_10 : jd cX2_init 10 (.putfield 9) 3 13 := by decide +kernel
theorem dX2_init_13 : jd cX2_init 13 (.aload_n 0) 1 14 := by decide +kernel
theorem dX2_init_14 : jd cX2_init 14 (.sipush 600) 3 17 := by decide +kernel
theorem dX2_init_17 : jd cX2_init 17 (.newarray .int) 2 19 := by decide +kernel
theorem dX2_init_19 : jd cX2_init 19 (.putfield 15) 3 22 := by decide +kernel
theorem dX2_init_22 : jd cX2_init 22 (.aload_n 0) 1 23 := by decide +kernel
theorem dX2_init_23 : jd cX2_init 23 (.sipush 600) 3 26 := by decide +kernel
theorem dX2_init_26 : jd cX2_init 26 (.newarray .int) 2 28 := by decide +kernel
theorem dX2_init_28 : jd cX2_init 28 (.putfield 18) 3 31 := by decide +kernel
theorem dX2_init_31 : jd cX2_init 31 (.aload_n 0) 1 32 := by decide +kernel
theorem dX2_init_32 : jd cX2_init 32 (.sipush 600) 3 35 := by decide +kernel
theorem dX2_init_35 : jd cX2_init 35 (.newarray .int) 2 37 := by decide +kernel
theorem dX2_init_37 : jd cX2_init 37 (.putfield 21) 3 40 := by decide +kernel
theorem dX2_init_40 : jd cX2_init 40 (.aload_n 0) 1 41 := by decide +kernel
theorem dX2_init_41 : jd cX2_init 41 (.bipush (-9)) 2 43 := by decide +kernel
theorem dX2_init_43 : jd cX2_init 43 (.putfield 24) 3 46 := by decide +kernel
theorem dX2_init_46 : jd cX2_init 46 (.aload_n 0) 1 47 := by decide +kernel
theorem dX2_init_47 : jd cX2_init 47 (.bipush (-9)) 2 49 := by decide +kernel
theorem dX2_init_49 : jd cX2_init 49 (.putfield 28) 3 52 := by decide +kernel
theorem dX2_init_52 : jd cX2_init 52 (.aload_n 0) 1 53 := by decide +kernel
theorem dX2_init_53 : jd cX2_init 53 (.bipush (-9)) 2 55 := by decide +kernel
theorem dX2_init_55 : jd cX2_init 55 (.putfield 31) 3 58 := by decide +kernel
theorem dX2_init_58 : jd cX2_init 58 .return_ 1 59 := by decide +kernel
theorem dX2_search_0 : jd cX2_search 0 (.aload_n 0) 1 1 := by decide +kernel
theorem dX2_search_1 : jd cX2_search 1 (.aload_n 1) 1 2 := by decide +kernel
theorem dX2_search_2 : jd cX2_search 2 (.iload_n 2) 1 3 := by decide +kernel
theorem dX2_search_3 : jd cX2_search 3 (.invokevirtual 34) 3 6 := by decide +kernel
theorem dX2_search_6 : jd cX2_search 6 (.iload_n 3) 1 7 := by decide +kernel
theorem dX2_search_7 : jd cX2_search 7 (.iload_n 2) 1 8 := by decide +kernel
theorem dX2_search_8 : jd cX2_search 8 (.iconst 1) 1 9 := by decide +kernel
theorem dX2_search_9 : jd cX2_search 9 .isub 1 10 := by decide +kernel
theorem dX2_search_10 : jd cX2_search 10 (.invokestatic 38) 3 13 := by decide +kernel
theorem dX2_search_13 : jd cX2_search 13 (.istore 4) 2 15 := by decide +kernel
theorem dX2_search_15 : jd cX2_search 15 (.iconst 0) 1 16 := by decide +kernel
theorem dX2_search_16 : jd cX2_search 16 (.istore 5) 2 18 := by decide +kernel
theorem dX2_search_18 : jd cX2_search 18 (.lconst 0) 1 19 := by decide +kernel
theorem dX2_search_19 : jd cX2_search 19 (.lstore 6) 2 21 := by decide +kernel
theorem dX2_search_21 : jd cX2_search 21 (.iconst 1) 1 22 := by decide +kernel
theorem dX2_search_22 : jd cX2_search 22 (.istore 8) 2 24 := by decide +kernel
theorem dX2_search_24 : jd cX2_search 24 (.iload 8) 2 26 := by decide +kernel
theorem dX2_search_26 : jd cX2_search 26 (.iload 4) 2 28 := by decide +kernel
theorem dX2_search_28 : jt cX2_search 28 (.if_icmp .gt 105) 105 133 31 := by decide +kernel
theorem dX2_search_31 : jd cX2_search 31 (.iconst 0) 1 32 := by decide +kernel
theorem dX2_search_32 : jd cX2_search 32 (.istore 9) 2 34 := by decide +kernel
theorem dX2_search_34 : jd cX2_search 34 (.iload 9) 2 36 := by decide +kernel
theorem dX2_search_36 : jd cX2_search 36 (.iload_n 2) 1 37 := by decide +kernel
theorem dX2_search_37 : jt cX2_search 37 (.if_icmp .ge 90) 90 127 40 := by decide +kernel
theorem dX2_search_40 : jd cX2_search 40 (.aload_n 0) 1 41 := by decide +kernel
theorem dX2_search_41 : jd cX2_search 41 (.iload 9) 2 43 := by decide +kernel
theorem dX2_search_43 : jd cX2_search 43 (.iload 9) 2 45 := by decide +kernel
theorem dX2_search_45 : jd cX2_search 45 (.iload 8) 2 47 := by decide +kernel
theorem dX2_search_47 : jd cX2_search 47 .iadd 1 48 := by decide +kernel
theorem dX2_search_48 : jd cX2_search 48 (.iconst 1) 1 49 := by decide +kernel
theorem dX2_search_49 : jd cX2_search 49 .isub 1 50 := by decide +kernel
theorem dX2_search_50 : jd cX2_search 50 (.iload_n 2) 1 51 := by decide +kernel
theorem dX2_search_51 : jt cX2_search 51 (.if_icmp .ge 13) 13 64 54 := by decide +kernel
theorem dX2_search_54 : jd cX2_search 54 (.iload 9) 2 56 := by decide +kernel
theorem dX2_search_56 : jd cX2_search 56 (.iload 8) 2 58 := by decide +kernel
theorem dX2_search_58 : jd cX2_search 58 .iadd 1 59 := by decide +kernel
theorem dX2_search_59 : jd cX2_search 59 (.iconst 1) 1 60 := by decide +kernel
theorem dX2_search_60 : jd cX2_search 60 .isub 1 61 := by decide +kernel
theorem dX2_search_61 : jt cX2_search 61 (.goto 12) 12 73 64 := by decide +kernel
theorem dX2_search_64 : jd cX2_search 64 (.iload 9) 2 66 := by decide +kernel
theorem dX2_search_66 : jd cX2_search 66 (.iload 8) 2 68 := by decide +kernel
theorem dX2_search_68 : jd cX2_search 68 .iadd 1 69 := by decide +kernel
theorem dX2_search_69 : jd cX2_search 69 (.iconst 1) 1 70 := by decide +kernel
theorem dX2_search_70 : jd cX2_search 70 .isub 1 71 := by decide +kernel
theorem dX2_search_71 : jd cX2_search 71 (.iload_n 2) 1 72 := by decide +kernel
theorem dX2_search_72 : jd cX2_search 72 .isub 1 73 := by decide +kernel
theorem dX2_search_73 : jd cX2_search 73 (.invokevirtual 44) 3 76 := by decide +kernel
theorem dX2_search_76 : jd cX2_search 76 (.aload_n 0) 1 77 := by decide +kernel
theorem dX2_search_77 : jd cX2_search 77 (.iload 9) 2 79 := by decide +kernel
theorem dX2_search_79 : jd cX2_search 79 (.invokevirtual 48) 3 82 := by decide +kernel
theorem dX2_search_82 : jt cX2_search 82 (.ifCond .eq 39) 39 121 85 := by decide +kernel
theorem dX2_search_85 : jd cX2_search 85 (.iload 5) 2 87 := by decide +kernel
theorem dX2_search_87 : jt cX2_search 87 (.ifCond .eq 15) 15 102 90 := by decide +kernel
theorem dX2_search_90 : jd cX2_search 90 (.aload_n 0) 1 91 := by decide +kernel
theorem dX2_search_91 : jd cX2_search 91 (.iload 9) 2 93 := by decide +kernel
theorem dX2_search_93 : jd cX2_search 93 (.invokevirtual 52) 3 96 := by decide +kernel
theorem dX2_search_96 : jd cX2_search 96 (.lload 6) 2 98 := by decide +kernel
theorem dX2_search_98 : jd cX2_search 98 .lcmp 1 99 := by decide +kernel
theorem dX2_search_99 : jt cX2_search 99 (.ifCond .le 22) 22 121 102 := by decide +kernel
theorem dX2_search_102 : jd cX2_search 102 (.iconst 1) 1 103 := by decide +kernel
theorem dX2_search_103 : jd cX2_search 103 (.istore 5) 2 105 := by decide +kernel
theorem dX2_search_105 : jd cX2_search 105 (.aload_n 0) 1 106 := by decide +kernel
theorem dX2_search_106 : jd cX2_search 106 (.iload 9) 2 108 := by decide +kernel
theorem dX2_search_108 : jd cX2_search 108 (.invokevirtual 52) 3 111 := by decide +kernel
theorem dX2_search_111 : jd cX2_search 111 (.lstore 6) 2 113 := by decide +kernel
theorem dX2_search_113 : jd cX2_search 113 (.aload_n 0) 1 114 := by decide +kernel
theorem dX2_search_114 : jd cX2_search 114 (.iload 8) 2 116 := by decide +kernel
theorem dX2_search_116 : jd cX2_search 116 (.iload 9) 2 118 := by decide +kernel
theorem dX2_search_118 : jd cX2_search 118 (.invokevirtual 56) 3 121 := by decide +kernel
theorem dX2_search_121 : jd cX2_search 121 (.iinc 9 1) 3 124 := by decide +kernel
theorem dX2_search_124 : jt cX2_search 124 (.goto (-90)) (-90) 34 127 := by decide +kernel
theorem dX2_search_127 : jd cX2_search 127 (.iinc 8 1) 3 130 := by decide +kernel
theorem dX2_search_130 : jt cX2_search 130 (.goto (-106)) (-106) 24 133 := by decide +kernel
theorem dX2_search_133 : jd cX2_search 133 (.iload 5) 2 135 := by decide +kernel
theorem dX2_search_135 : jd cX2_search 135 .ireturn 1 136 := by decide +kernel
theorem dX2_share_0 : jd cX2_share 0 (.aload_n 0) 1 1 := by decide +kernel
theorem dX2_share_1 : jd cX2_share 1 (.getfield 9) 3 4 := by decide +kernel
theorem dX2_share_4 : jd cX2_share 4 (.iconst 0) 1 5 := by decide +kernel
theorem dX2_share_5 : jd cX2_share 5 (.invokestatic 59) 3 8 := by decide +kernel
theorem dX2_share_8 : jd cX2_share 8 (.aload_n 0) 1 9 := by decide +kernel
theorem dX2_share_9 : jd cX2_share 9 (.getfield 15) 3 12 := by decide +kernel
theorem dX2_share_12 : jd cX2_share 12 (.iconst 0) 1 13 := by decide +kernel
theorem dX2_share_13 : jd cX2_share 13 (.invokestatic 59) 3 16 := by decide +kernel
theorem dX2_share_16 : jd cX2_share 16 (.aload_n 0) 1 17 := by decide +kernel
theorem dX2_share_17 : jd cX2_share 17 (.getfield 18) 3 20 := by decide +kernel
theorem dX2_share_20 : jd cX2_share 20 (.iconst 0) 1 21 := by decide +kernel
theorem dX2_share_21 : jd cX2_share 21 (.invokestatic 59) 3 24 := by decide +kernel
theorem dX2_share_24 : jd cX2_share 24 (.aload_n 0) 1 25 := by decide +kernel
theorem dX2_share_25 : jd cX2_share 25 (.getfield 21) 3 28 := by decide +kernel
theorem dX2_share_28 : jd cX2_share 28 (.iconst 0) 1 29 := by decide +kernel
theorem dX2_share_29 : jd cX2_share 29 (.invokestatic 59) 3 32 := by decide +kernel
theorem dX2_share_32 : jd cX2_share 32 (.aload_n 0) 1 33 := by decide +kernel
theorem dX2_share_33 : jd cX2_share 33 (.iconst 0) 1 34 := by decide +kernel
theorem dX2_share_34 : jd cX2_share 34 (.putfield 65) 3 37 := by decide +kernel
theorem dX2_share_37 : jd cX2_share 37 (.aload_n 0) 1 38 := by decide +kernel
theorem dX2_share_38 : jd cX2_share 38 (.aload_n 1) 1 39 := by decide +kernel
theorem dX2_share_39 : jd cX2_share 39 (.getfield 68) 3 42 := by decide +kernel
theorem dX2_share_42 : jd cX2_share 42 (.putfield 73) 3 45 := by decide +kernel
theorem dX2_share_45 : jd cX2_share 45 (.iconst 0) 1 46 := by decide +kernel
theorem dX2_share_46 : jd cX2_share 46 (.istore_n 3) 1 47 := by decide +kernel
theorem dX2_share_47 : jd cX2_share 47 (.iload_n 3) 1 48 := by decide +kernel
theorem dX2_share_48 : jd cX2_share 48 (.aload_n 1) 1 49 := by decide +kernel
theorem dX2_share_49 : jd cX2_share 49 (.getfield 68) 3 52 := by decide +kernel
theorem dX2_share_52 : jt cX2_share 52 (.if_icmp .ge 64) 64 116 55 := by decide +kernel
theorem dX2_share_55 : jd cX2_share 55 (.aload_n 1) 1 56 := by decide +kernel
theorem dX2_share_56 : jd cX2_share 56 (.getfield 76) 3 59 := by decide +kernel
theorem dX2_share_59 : jd cX2_share 59 (.iload_n 3) 1 60 := by decide +kernel
theorem dX2_share_60 : jd cX2_share 60 .iaload 1 61 := by decide +kernel
theorem dX2_share_61 : jd cX2_share 61 (.iload_n 2) 1 62 := by decide +kernel
theorem dX2_share_62 : jd cX2_share 62 (.iconst 1) 1 63 := by decide +kernel
theorem dX2_share_63 : jd cX2_share 63 (.invokestatic 79) 3 66 := by decide +kernel
theorem dX2_share_66 : jd cX2_share 66 (.istore 4) 2 68 := by decide +kernel
theorem dX2_share_68 : jd cX2_share 68 (.aload_n 0) 1 69 := by decide +kernel
theorem dX2_share_69 : jd cX2_share 69 (.getfield 9) 3 72 := by decide +kernel
theorem dX2_share_72 : jd cX2_share 72 (.iload 4) 2 74 := by decide +kernel
theorem dX2_share_74 : jd cX2_share 74 .dup2 1 75 := by decide +kernel
theorem dX2_share_75 : jd cX2_share 75 .iaload 1 76 := by decide +kernel
theorem dX2_share_76 : jd cX2_share 76 (.aload_n 1) 1 77 := by decide +kernel
theorem dX2_share_77 : jd cX2_share 77 (.getfield 83) 3 80 := by decide +kernel
theorem dX2_share_80 : jd cX2_share 80 (.iload_n 3) 1 81 := by decide +kernel
theorem dX2_share_81 : jd cX2_share 81 .iaload 1 82 := by decide +kernel
theorem dX2_share_82 : jd cX2_share 82 .iadd 1 83 := by decide +kernel
theorem dX2_share_83 : jd cX2_share 83 .iastore 1 84 := by decide +kernel
theorem dX2_share_84 : jd cX2_share 84 (.aload_n 0) 1 85 := by decide +kernel
theorem dX2_share_85 : jd cX2_share 85 (.getfield 15) 3 88 := by decide +kernel
theorem dX2_share_88 : jd cX2_share 88 (.iload 4) 2 90 := by decide +kernel
theorem dX2_share_90 : jd cX2_share 90 .dup2 1 91 := by decide +kernel
theorem dX2_share_91 : jd cX2_share 91 .iaload 1 92 := by decide +kernel
theorem dX2_share_92 : jd cX2_share 92 (.iconst 1) 1 93 := by decide +kernel
theorem dX2_share_93 : jd cX2_share 93 .iadd 1 94 := by decide +kernel
theorem dX2_share_94 : jd cX2_share 94 .iastore 1 95 := by decide +kernel
theorem dX2_share_95 : jd cX2_share 95 (.aload_n 0) 1 96 := by decide +kernel
theorem dX2_share_96 : jd cX2_share 96 .dup 1 97 := by decide +kernel
theorem dX2_share_97 : jd cX2_share 97 (.getfield 65) 3 100 := by decide +kernel
theorem dX2_share_100 : jd cX2_share 100 (.aload_n 1) 1 101 := by decide +kernel
theorem dX2_share_101 : jd cX2_share 101 (.getfield 83) 3 104 := by decide +kernel
theorem dX2_share_104 : jd cX2_share 104 (.iload_n 3) 1 105 := by decide +kernel
theorem dX2_share_105 : jd cX2_share 105 .iaload 1 106 := by decide +kernel
theorem dX2_share_106 : jd cX2_share 106 .iadd 1 107 := by decide +kernel
theorem dX2_share_107 : jd cX2_share 107 (.putfield 65) 3 110 := by decide +kernel
theorem dX2_share_110 : jd cX2_share 110 (.iinc 3 1) 3 113 := by decide +kernel
theorem dX2_share_113 : jt cX2_share 113 (.goto (-66)) (-66) 47 116 := by decide +kernel
theorem dX2_share_116 : jd cX2_share 116 .return_ 1 117 := by decide +kernel
theorem dX2_widen_0 : jd cX2_widen 0 (.aload_n 0) 1 1 := by decide +kernel
theorem dX2_widen_1 : jd cX2_widen 1 (.getfield 18) 3 4 := by decide +kernel
theorem dX2_widen_4 : jd cX2_widen 4 (.iload_n 1) 1 5 := by decide +kernel
theorem dX2_widen_5 : jd cX2_widen 5 .dup2 1 6 := by decide +kernel
theorem dX2_widen_6 : jd cX2_widen 6 .iaload 1 7 := by decide +kernel
theorem dX2_widen_7 : jd cX2_widen 7 (.aload_n 0) 1 8 := by decide +kernel
theorem dX2_widen_8 : jd cX2_widen 8 (.getfield 9) 3 11 := by decide +kernel
theorem dX2_widen_11 : jd cX2_widen 11 (.iload_n 2) 1 12 := by decide +kernel
theorem dX2_widen_12 : jd cX2_widen 12 .iaload 1 13 := by decide +kernel
theorem dX2_widen_13 : jd cX2_widen 13 .iadd 1 14 := by decide +kernel
theorem dX2_widen_14 : jd cX2_widen 14 .iastore 1 15 := by decide +kernel
theorem dX2_widen_15 : jd cX2_widen 15 (.aload_n 0) 1 16 := by decide +kernel
theorem dX2_widen_16 : jd cX2_widen 16 (.getfield 21) 3 19 := by decide +kernel
theorem dX2_widen_19 : jd cX2_widen 19 (.iload_n 1) 1 20 := by decide +kernel
theorem dX2_widen_20 : jd cX2_widen 20 .dup2 1 21 := by decide +kernel
theorem dX2_widen_21 : jd cX2_widen 21 .iaload 1 22 := by decide +kernel
theorem dX2_widen_22 : jd cX2_widen 22 (.aload_n 0) 1 23 := by decide +kernel
theorem dX2_widen_23 : jd cX2_widen 23 (.getfield 15) 3 26 := by decide +kernel
theorem dX2_widen_26 : jd cX2_widen 26 (.iload_n 2) 1 27 := by decide +kernel
theorem dX2_widen_27 : jd cX2_widen 27 .iaload 1 28 := by decide +kernel
theorem dX2_widen_28 : jd cX2_widen 28 .iadd 1 29 := by decide +kernel
theorem dX2_widen_29 : jd cX2_widen 29 .iastore 1 30 := by decide +kernel
theorem dX2_widen_30 : jd cX2_widen 30 .return_ 1 31 := by decide +kernel
theorem dX2_countsHere_0 : jd cX2_countsHere 0 (.aload_n 0) 1 1 := by decide +kernel
theorem dX2_countsHere_1 : jd cX2_countsHere 1 (.getfield 21) 3 4 := by decide +kernel
theorem dX2_countsHere_4 : jd cX2_countsHere 4 (.iload_n 1) 1 5 := by decide +kernel
theorem dX2_countsHere_5 : jd cX2_countsHere 5 .iaload 1 6 := by decide +kernel
theorem dX2_countsHere_6 : jt cX2_countsHere 6 (.ifCond .le 20) 20 26 9 := by decide +kernel
theorem dX2_countsHere_9 : jd cX2_countsHere 9 (.aload_n 0) 1 10 := by decide +kernel
theorem dX2_countsHere_10 : jd cX2_countsHere 10 (.getfield 21) 3 13 := by decide +kernel
theorem dX2_countsHere_13 : jd cX2_countsHere 13 (.iload_n 1) 1 14 := by decide +kernel
theorem dX2_countsHere_14 : jd cX2_countsHere 14 .iaload 1 15 := by decide +kernel
theorem dX2_countsHere_15 : jd cX2_countsHere 15 (.aload_n 0) 1 16 := by decide +kernel
theorem dX2_countsHere_16 : jd cX2_countsHere 16 (.getfield 73) 3 19 := by decide +kernel
theorem dX2_countsHere_19 : jt cX2_countsHere 19 (.if_icmp .ge 7) 7 26 22 := by decide +kernel
theorem dX2_countsHere_22 : jd cX2_countsHere 22 (.iconst 1) 1 23 := by decide +kernel
theorem dX2_countsHere_23 : jt cX2_countsHere 23 (.goto 4) 4 27 26 := by decide +kernel
theorem dX2_countsHere_26 : jd cX2_countsHere 26 (.iconst 0) 1 27 := by decide +kernel
theorem dX2_countsHere_27 : jd cX2_countsHere 27 .ireturn 1 28 := by decide +kernel
theorem dX2_depthFrom_0 : jd cX2_depthFrom 0 (.aload_n 0) 1 1 := by decide +kernel
theorem dX2_depthFrom_1 : jd cX2_depthFrom 1 (.getfield 65) 3 4 := by decide +kernel
theorem dX2_depthFrom_4 : jd cX2_depthFrom 4 (.aload_n 0) 1 5 := by decide +kernel
theorem dX2_depthFrom_5 : jd cX2_depthFrom 5 (.getfield 18) 3 8 := by decide +kernel
theorem dX2_depthFrom_8 : jd cX2_depthFrom 8 (.iload_n 1) 1 9 := by decide +kernel
theorem dX2_depthFrom_9 : jd cX2_depthFrom 9 .iaload 1 10 := by decide +kernel
theorem dX2_depthFrom_10 : jd cX2_depthFrom 10 .isub 1 11 := by decide +kernel
theorem dX2_depthFrom_11 : jd cX2_depthFrom 11 .i2l 1 12 := by decide +kernel
theorem dX2_depthFrom_12 : jd cX2_depthFrom 12 (.lstore_n 2) 1 13 := by decide +kernel
theorem dX2_depthFrom_13 : jd cX2_depthFrom 13 (.aload_n 0) 1 14 := by decide +kernel
theorem dX2_depthFrom_14 : jd cX2_depthFrom 14 (.getfield 18) 3 17 := by decide +kernel
theorem dX2_depthFrom_17 : jd cX2_depthFrom 17 (.iload_n 1) 1 18 := by decide +kernel
theorem dX2_depthFrom_18 : jd cX2_depthFrom 18 .iaload 1 19 := by decide +kernel
theorem dX2_depthFrom_19 : jd cX2_depthFrom 19 .i2l 1 20 := by decide +kernel
theorem dX2_depthFrom_20 : jd cX2_depthFrom 20 (.lstore 4) 2 22 := by decide +kernel
theorem dX2_depthFrom_22 : jd cX2_depthFrom 22 (.lload_n 2) 1 23 := by decide +kernel
theorem dX2_depthFrom_23 : jd cX2_depthFrom 23 (.aload_n 0) 1 24 := by decide +kernel
theorem dX2_depthFrom_24 : jd cX2_depthFrom 24 (.getfield 21) 3 27 := by decide +kernel
theorem dX2_depthFrom_27 : jd cX2_depthFrom 27 (.iload_n 1) 1 28 := by decide +kernel
theorem dX2_depthFrom_28 : jd cX2_depthFrom 28 .iaload 1 29 := by decide +kernel
theorem dX2_depthFrom_29 : jd cX2_depthFrom 29 .i2l 1 30 := by decide +kernel
theorem dX2_depthFrom_30 : jd cX2_depthFrom 30 .lmul 1 31 := by decide +kernel
theorem dX2_depthFrom_31 : jd cX2_depthFrom 31 (.lload 4) 2 33 := by decide +kernel
theorem dX2_depthFrom_33 : jd cX2_depthFrom 33 (.aload_n 0) 1 34 := by decide +kernel
theorem dX2_depthFrom_34 : jd cX2_depthFrom 34 (.getfield 73) 3 37 := by decide +kernel
theorem dX2_depthFrom_37 : jd cX2_depthFrom 37 (.aload_n 0) 1 38 := by decide +kernel
theorem dX2_depthFrom_38 : jd cX2_depthFrom 38 (.getfield 21) 3 41 := by decide +kernel
theorem dX2_depthFrom_41 : jd cX2_depthFrom 41 (.iload_n 1) 1 42 := by decide +kernel
theorem dX2_depthFrom_42 : jd cX2_depthFrom 42 .iaload 1 43 := by decide +kernel
theorem dX2_depthFrom_43 : jd cX2_depthFrom 43 .isub 1 44 := by decide +kernel
theorem dX2_depthFrom_44 : jd cX2_depthFrom 44 .i2l 1 45 := by decide +kernel
theorem dX2_depthFrom_45 : jd cX2_depthFrom 45 .lmul 1 46 := by decide +kernel
theorem dX2_depthFrom_46 : jd cX2_depthFrom 46 .lsub 1 47 := by decide +kernel
theorem dX2_depthFrom_47 : jd cX2_depthFrom 47 .lreturn 1 48 := by decide +kernel
theorem dX2_keep_0 : jd cX2_keep 0 (.aload_n 0) 1 1 := by decide +kernel
theorem dX2_keep_1 : jd cX2_keep 1 (.iload_n 1) 1 2 := by decide +kernel
theorem dX2_keep_2 : jd cX2_keep 2 (.putfield 24) 3 5 := by decide +kernel
theorem dX2_keep_5 : jd cX2_keep 5 (.aload_n 0) 1 6 := by decide +kernel
theorem dX2_keep_6 : jd cX2_keep 6 (.iload_n 2) 1 7 := by decide +kernel
theorem dX2_keep_7 : jd cX2_keep 7 (.putfield 28) 3 10 := by decide +kernel
theorem dX2_keep_10 : jd cX2_keep 10 (.aload_n 0) 1 11 := by decide +kernel
theorem dX2_keep_11 : jd cX2_keep 11 (.aload_n 0) 1 12 := by decide +kernel
theorem dX2_keep_12 : jd cX2_keep 12 (.getfield 21) 3 15 := by decide +kernel
theorem dX2_keep_15 : jd cX2_keep 15 (.iload_n 2) 1 16 := by decide +kernel
theorem dX2_keep_16 : jd cX2_keep 16 .iaload 1 17 := by decide +kernel
theorem dX2_keep_17 : jd cX2_keep 17 (.putfield 31) 3 20 := by decide +kernel
theorem dX2_keep_20 : jd cX2_keep 20 .return_ 1 21 := by decide +kernel
theorem dX3_init_0 : jd cX3_init 0 (.aload_n 0) 1 1 := by decide +kernel
theorem dX3_init_1 : jd cX3_init 1 (.invokespecial 3) 3 4 := by decide +kernel
theorem dX3_init_4 : jd cX3_init 4 (.aload_n 0) 1 5 := by decide +kernel
theorem dX3_init_5 : jd cX3_init 5 (.bipush 60) 2 7 := by decide +kernel
theorem dX3_init_7 : jd cX3_init 7 (.newarray .int) 2 9 := by decide +kernel
theorem dX3_init_9 : jd cX3_init 9 (.putfield 9) 3 12 := by decide +kernel
theorem dX3_init_12 : jd cX3_init 12 (.aload_n 0) 1 13 := by decide +kernel
theorem dX3_init_13 : jd cX3_init 13 (.bipush 60) 2 15 := by decide +kernel
theorem dX3_init_15 : jd cX3_init 15 (.newarray .int) 2 17 := by decide +kernel
theorem dX3_init_17 : jd cX3_init 17 (.putfield 15) 3 20 := by decide +kernel
theorem dX3_init_20 : jd cX3_init 20 (.aload_n 0) 1 21 := by decide +kernel
theorem dX3_init_21 : jd cX3_init 21 (.sipush 601) 3 24 := by decide +kernel
theorem dX3_init_24 : jd cX3_init 24 (.newarray .int) 2 26 := by decide +kernel
theorem dX3_init_26 : jd cX3_init 26 (.putfield 18) 3 29 := by decide +kernel
theorem dX3_init_29 : jd cX3_init 29 .return_ 1 30 := by decide +kernel
theorem dX3_stringOf_0 : jd cX3_stringOf 0 (.iconst 0) 1 1 := by decide +kernel
theorem dX3_stringOf_1 : jd cX3_stringOf 1 (.istore 4) 2 3 := by decide +kernel
theorem dX3_stringOf_3 : jd cX3_stringOf 3 (.iload 4) 2 5 := by decide +kernel
theorem dX3_stringOf_5 : jd cX3_stringOf 5 (.aload_n 1) 1 6 := by decide +kernel
theorem dX3_stringOf_6 : jd cX3_stringOf 6 (.getfield 21) 3 9 := by decide +kernel
theorem dX3_stringOf_9 : jt cX3_stringOf 9 (.if_icmp .ge 34) 34 43 12 := by decide +kernel
theorem dX3_stringOf_12 : jd cX3_stringOf 12 (.aload_n 0) 1 13 := by decide +kernel
theorem dX3_stringOf_13 : jd cX3_stringOf 13 (.iload 4) 2 15 := by decide +kernel
theorem dX3_stringOf_15 : jd cX3_stringOf 15 (.aload_n 1) 1 16 := by decide +kernel
theorem dX3_stringOf_16 : jd cX3_stringOf 16 (.getfield 27) 3 19 := by decide +kernel
theorem dX3_stringOf_19 : jd cX3_stringOf 19 (.iload 4) 2 21 := by decide +kernel
theorem dX3_stringOf_21 : jd cX3_stringOf 21 .iaload 1 22 := by decide +kernel
theorem dX3_stringOf_22 : jd cX3_stringOf 22 (.iload_n 2) 1 23 := by decide +kernel
theorem dX3_stringOf_23 : jd cX3_stringOf 23 (.iload_n 3) 1 24 := by decide +kernel
theorem dX3_stringOf_24 : jd cX3_stringOf 24 (.invokestatic 30) 3 27 := by decide +kernel
theorem dX3_stringOf_27 : jd cX3_stringOf 27 (.aload_n 1) 1 28 := by decide +kernel
theorem dX3_stringOf_28 : jd cX3_stringOf 28 (.getfield 34) 3 31 := by decide +kernel
theorem dX3_stringOf_31 : jd cX3_stringOf 31 (.iload 4) 2 33 := by decide +kernel
theorem dX3_stringOf_33 : jd cX3_stringOf 33 .iaload 1 34 := by decide +kernel
theorem dX3_stringOf_34 : jd cX3_stringOf 34 (.invokevirtual 35) 3 37 := by decide +kernel
theorem dX3_stringOf_37 : jd cX3_stringOf 37 (.iinc 4 1) 3 40 := by decide +kernel
theorem dX3_stringOf_40 : jt cX3_stringOf 40 (.goto (-37)) (-37) 3 43 := by decide +kernel
theorem dX3_stringOf_43 : jd cX3_stringOf 43 (.iconst 0) 1 44 := by decide +kernel
theorem dX3_stringOf_44 : jd cX3_stringOf 44 (.istore 4) 2 46 := by decide +kernel
theorem dX3_stringOf_46 : jd cX3_stringOf 46 (.iconst 0) 1 47 := by decide +kernel
theorem dX3_stringOf_47 : jd cX3_stringOf 47 (.istore 5) 2 49 := by decide +kernel
theorem dX3_stringOf_49 : jd cX3_stringOf 49 (.iload 5) 2 51 := by decide +kernel
theorem dX3_stringOf_51 : jd cX3_stringOf 51 (.aload_n 1) 1 52 := by decide +kernel
theorem dX3_stringOf_52 : jd cX3_stringOf 52 (.getfield 21) 3 55 := by decide +kernel
theorem dX3_stringOf_55 : jt cX3_stringOf 55 (.if_icmp .ge 53) 53 108 58 := by decide +kernel
theorem dX3_stringOf_58 : jd cX3_stringOf 58 (.iload 5) 2 60 := by decide +kernel
theorem dX3_stringOf_60 : jd cX3_stringOf 60 (.iconst 1) 1 61 := by decide +kernel
theorem dX3_stringOf_61 : jd cX3_stringOf 61 .iadd 1 62 := by decide +kernel
theorem dX3_stringOf_62 : jd cX3_stringOf 62 (.aload_n 1) 1 63 := by decide +kernel
theorem dX3_stringOf_63 : jd cX3_stringOf 63 (.getfield 21) 3 66 := by decide +kernel
theorem dX3_stringOf_66 : jt cX3_stringOf 66 (.if_icmp .ge 10) 10 76 69 := by decide +kernel
theorem dX3_stringOf_69 : jd cX3_stringOf 69 (.iload 5) 2 71 := by decide +kernel
theorem dX3_stringOf_71 : jd cX3_stringOf 71 (.iconst 1) 1 72 := by decide +kernel
theorem dX3_stringOf_72 : jd cX3_stringOf 72 .iadd 1 73 := by decide +kernel
theorem dX3_stringOf_73 : jt cX3_stringOf 73 (.goto 4) 4 77 76 := by decide +kernel
theorem dX3_stringOf_76 : jd cX3_stringOf 76 (.iconst 0) 1 77 := by decide +kernel
theorem dX3_stringOf_77 : jd cX3_stringOf 77 (.istore 6) 2 79 := by decide +kernel
theorem dX3_stringOf_79 : jd cX3_stringOf 79 (.iload 4) 2 81 := by decide +kernel
theorem dX3_stringOf_81 : jd cX3_stringOf 81 (.aload_n 0) 1 82 := by decide +kernel
theorem dX3_stringOf_82 : jd cX3_stringOf 82 (.getfield 15) 3 85 := by decide +kernel
theorem dX3_stringOf_85 : jd cX3_stringOf 85 (.iload 5) 2 87 := by decide +kernel
theorem dX3_stringOf_87 : jd cX3_stringOf 87 .iaload 1 88 := by decide +kernel
theorem dX3_stringOf_88 : jd cX3_stringOf 88 (.aload_n 0) 1 89 := by decide +kernel
theorem dX3_stringOf_89 : jd cX3_stringOf 89 (.getfield 15) 3 92 := by decide +kernel
theorem dX3_stringOf_92 : jd cX3_stringOf 92 (.iload 6) 2 94 := by decide +kernel
theorem dX3_stringOf_94 : jd cX3_stringOf 94 .iaload 1 95 := by decide +kernel
theorem dX3_stringOf_95 : jd cX3_stringOf 95 .isub 1 96 := by decide +kernel
theorem dX3_stringOf_96 : jd cX3_stringOf 96 (.invokestatic 39) 3 99 := by decide +kernel
theorem dX3_stringOf_99 : jd cX3_stringOf 99 .iadd 1 100 := by decide +kernel
theorem dX3_stringOf_100 : jd cX3_stringOf 100 (.istore 4) 2 102 := by decide +kernel
theorem dX3_stringOf_102 : jd cX3_stringOf 102 (.iinc 5 1) 3 105 := by decide +kernel
theorem dX3_stringOf_105 : jt cX3_stringOf 105 (.goto (-56)) (-56) 49 108 := by decide +kernel
theorem dX3_stringOf_108 : jd cX3_stringOf 108 (.iload 4) 2 110 := by decide +kernel
theorem dX3_stringOf_110 : jd cX3_stringOf 110 .ireturn 1 111 := by decide +kernel
theorem dX3_put_0 : jd cX3_put 0 (.iload_n 1) 1 1 := by decide +kernel
theorem dX3_put_1 : jd cX3_put 1 (.istore 4) 2 3 := by decide +kernel
theorem dX3_put_3 : jd cX3_put 3 (.iload 4) 2 5 := by decide +kernel
theorem dX3_put_5 : jt cX3_put 5 (.ifCond .le 54) 54 59 8 := by decide +kernel
theorem dX3_put_8 : jd cX3_put 8 (.aload_n 0) 1 9 := by decide +kernel
theorem dX3_put_9 : jd cX3_put 9 (.getfield 9) 3 12 := by decide +kernel
theorem dX3_put_12 : jd cX3_put 12 (.iload 4) 2 14 := by decide +kernel
theorem dX3_put_14 : jd cX3_put 14 (.iconst 1) 1 15 := by decide +kernel
theorem dX3_put_15 : jd cX3_put 15 .isub 1 16 := by decide +kernel
theorem dX3_put_16 : jd cX3_put 16 .iaload 1 17 := by decide +kernel
theorem dX3_put_17 : jd cX3_put 17 (.iload_n 2) 1 18 := by decide +kernel
theorem dX3_put_18 : jt cX3_put 18 (.if_icmp .le 41) 41 59 21 := by decide +kernel
theorem dX3_put_21 : jd cX3_put 21 (.aload_n 0) 1 22 := by decide +kernel
theorem dX3_put_22 : jd cX3_put 22 (.getfield 9) 3 25 := by decide +kernel
theorem dX3_put_25 : jd cX3_put 25 (.iload 4) 2 27 := by decide +kernel
theorem dX3_put_27 : jd cX3_put 27 (.aload_n 0) 1 28 := by decide +kernel
theorem dX3_put_28 : jd cX3_put 28 (.getfield 9) 3 31 := by decide +kernel
theorem dX3_put_31 : jd cX3_put 31 (.iload 4) 2 33 := by decide +kernel
theorem dX3_put_33 : jd cX3_put 33 (.iconst 1) 1 34 := by decide +kernel
theorem dX3_put_34 : jd cX3_put 34 .isub 1 35 := by decide +kernel
theorem dX3_put_35 : jd cX3_put 35 .iaload 1 36 := by decide +kernel
theorem dX3_put_36 : jd cX3_put 36 .iastore 1 37 := by decide +kernel
theorem dX3_put_37 : jd cX3_put 37 (.aload_n 0) 1 38 := by decide +kernel
theorem dX3_put_38 : jd cX3_put 38 (.getfield 15) 3 41 := by decide +kernel
theorem dX3_put_41 : jd cX3_put 41 (.iload 4) 2 43 := by decide +kernel
theorem dX3_put_43 : jd cX3_put 43 (.aload_n 0) 1 44 := by decide +kernel
theorem dX3_put_44 : jd cX3_put 44 (.getfield 15) 3 47 := by decide +kernel
theorem dX3_put_47 : jd cX3_put 47 (.iload 4) 2 49 := by decide +kernel
theorem dX3_put_49 : jd cX3_put 49 (.iconst 1) 1 50 := by decide +kernel
theorem dX3_put_50 : jd cX3_put 50 .isub 1 51 := by decide +kernel
theorem dX3_put_51 : jd cX3_put 51 .iaload 1 52 := by decide +kernel
theorem dX3_put_52 : jd cX3_put 52 .iastore 1 53 := by decide +kernel
theorem dX3_put_53 : jd cX3_put 53 (.iinc 4 (-1)) 3 56 := by decide +kernel
theorem dX3_put_56 : jt cX3_put 56 (.goto (-53)) (-53) 3 59 := by decide +kernel
theorem dX3_put_59 : jd cX3_put 59 (.aload_n 0) 1 60 := by decide +kernel
theorem dX3_put_60 : jd cX3_put 60 (.getfield 9) 3 63 := by decide +kernel
theorem dX3_put_63 : jd cX3_put 63 (.iload 4) 2 65 := by decide +kernel
theorem dX3_put_65 : jd cX3_put 65 (.iload_n 2) 1 66 := by decide +kernel
theorem dX3_put_66 : jd cX3_put 66 .iastore 1 67 := by decide +kernel
theorem dX3_put_67 : jd cX3_put 67 (.aload_n 0) 1 68 := by decide +kernel
theorem dX3_put_68 : jd cX3_put 68 (.getfield 15) 3 71 := by decide +kernel
theorem dX3_put_71 : jd cX3_put 71 (.iload 4) 2 73 := by decide +kernel
theorem dX3_put_73 : jd cX3_put 73 (.iload_n 3) 1 74 := by decide +kernel
theorem dX3_put_74 : jd cX3_put 74 .iastore 1 75 := by decide +kernel
theorem dX3_put_75 : jd cX3_put 75 .return_ 1 76 := by decide +kernel
theorem dX3_stringsFromTo_0 : jd cX3_stringsFromTo 0 (.iload_n 3) 1 1 := by decide +kernel
theorem dX3_stringsFromTo_1 : jd cX3_stringsFromTo 1 (.istore 5) 2 3 := by decide +kernel
theorem dX3_stringsFromTo_3 : jd cX3_stringsFromTo 3 (.iload 5) 2 5 := by decide +kernel
theorem dX3_stringsFromTo_5 : jd cX3_stringsFromTo 5 (.iload 4) 2 7 := by decide +kernel
theorem dX3_stringsFromTo_7 : jt cX3_stringsFromTo 7 (.if_icmp .gt 24) 24 31 10 := by decide +kernel
theorem dX3_stringsFromTo_10 : jd cX3_stringsFromTo 10 (.aload_n 0) 1 11 := by decide +kernel
theorem dX3_stringsFromTo_11 : jd cX3_stringsFromTo 11 (.getfield 18) 3 14 := by decide +kernel
theorem dX3_stringsFromTo_14 : jd cX3_stringsFromTo 14 (.iload 5) 2 16 := by decide +kernel
theorem dX3_stringsFromTo_16 : jd cX3_stringsFromTo 16 (.aload_n 0) 1 17 := by decide +kernel
theorem dX3_stringsFromTo_17 : jd cX3_stringsFromTo 17 (.aload_n 1) 1 18 := by decide +kernel
theorem dX3_stringsFromTo_18 : jd cX3_stringsFromTo 18 (.iload 5) 2 20 := by decide +kernel
theorem dX3_stringsFromTo_20 : jd cX3_stringsFromTo 20 (.iload_n 2) 1 21 := by decide +kernel
theorem dX3_stringsFromTo_21 : jd cX3_stringsFromTo 21 (.invokevirtual 45) 3 24 := by decide +kernel
theorem dX3_stringsFromTo_24 : jd cX3_stringsFromTo 24 .iastore 1 25 := by decide +kernel
theorem dX3_stringsFromTo_25 : jd cX3_stringsFromTo 25 (.iinc 5 1) 3 28 := by decide +kernel
theorem dX3_stringsFromTo_28 : jt cX3_stringsFromTo 28 (.goto (-25)) (-25) 3 31 := by decide +kernel
theorem dX3_stringsFromTo_31 : jd cX3_stringsFromTo 31 .return_ 1 32 := by decide +kernel
theorem dX3_leastFromTo_0 : jd cX3_leastFromTo 0 (.iload_n 1) 1 1 := by decide +kernel
theorem dX3_leastFromTo_1 : jd cX3_leastFromTo 1 (.istore_n 3) 1 2 := by decide +kernel
theorem dX3_leastFromTo_2 : jd cX3_leastFromTo 2 (.iload_n 1) 1 3 := by decide +kernel
theorem dX3_leastFromTo_3 : jd cX3_leastFromTo 3 (.iconst 1) 1 4 := by decide +kernel
theorem dX3_leastFromTo_4 : jd cX3_leastFromTo 4 .iadd 1 5 := by decide +kernel
theorem dX3_leastFromTo_5 : jd cX3_leastFromTo 5 (.istore 4) 2 7 := by decide +kernel
theorem dX3_leastFromTo_7 : jd cX3_leastFromTo 7 (.iload 4) 2 9 := by decide +kernel
theorem dX3_leastFromTo_9 : jd cX3_leastFromTo 9 (.iload_n 2) 1 10 := by decide +kernel
theorem dX3_leastFromTo_10 : jt cX3_leastFromTo 10 (.if_icmp .gt 28) 28 38 13 := by decide +kernel
theorem dX3_leastFromTo_13 : jd cX3_leastFromTo 13 (.aload_n 0) 1 14 := by decide +kernel
theorem dX3_leastFromTo_14 : jd cX3_leastFromTo 14 (.getfield 18) 3 17 := by decide +kernel
theorem dX3_leastFromTo_17 : jd cX3_leastFromTo 17 (.iload 4) 2 19 := by decide +kernel
theorem dX3_leastFromTo_19 : jd cX3_leastFromTo 19 .iaload 1 20 := by decide +kernel
theorem dX3_leastFromTo_20 : jd cX3_leastFromTo 20 (.aload_n 0) 1 21 := by decide +kernel
theorem dX3_leastFromTo_21 : jd cX3_leastFromTo 21 (.getfield 18) 3 24 := by decide +kernel
theorem dX3_leastFromTo_24 : jd cX3_leastFromTo 24 (.iload_n 3) 1 25 := by decide +kernel
theorem dX3_leastFromTo_25 : jd cX3_leastFromTo 25 .iaload 1 26 := by decide +kernel
theorem dX3_leastFromTo_26 : jt cX3_leastFromTo 26 (.if_icmp .ge 6) 6 32 29 := by decide +kernel
theorem dX3_leastFromTo_29 : jd cX3_leastFromTo 29 (.iload 4) 2 31 := by decide +kernel
theorem dX3_leastFromTo_31 : jd cX3_leastFromTo 31 (.istore_n 3) 1 32 := by decide +kernel
theorem dX3_leastFromTo_32 : jd cX3_leastFromTo 32 (.iinc 4 1) 3 35 := by decide +kernel
theorem dX3_leastFromTo_35 : jt cX3_leastFromTo 35 (.goto (-28)) (-28) 7 38 := by decide +kernel
theorem dX3_leastFromTo_38 : jd cX3_leastFromTo 38 (.iload_n 3) 1 39 := by decide +kernel
theorem dX3_leastFromTo_39 : jd cX3_leastFromTo 39 .ireturn 1 40 := by decide +kernel
theorem dX4_init_0 : jd cX4_init 0 (.aload_n 0) 1 1 := by decide +kernel
theorem dX4_init_1 : jd cX4_init 1 (.invokespecial 3) 3 4 := by decide +kernel
theorem dX4_init_4 : jd cX4_init 4 (.aload_n 0) 1 5 := by decide +kernel
theorem dX4_init_5 : jd cX4_init 5 (.bipush 60) 2 7 := by decide +kernel
theorem dX4_init_7 : jd cX4_init 7 (.newarray .int) 2 9 := by decide +kernel
theorem dX4_init_9 : jd cX4_init 9 (.putfield 9) 3 12 := by decide +kernel
theorem dX4_init_12 : jd cX4_init 12 .return_ 1 13 := by decide +kernel
theorem dX4_has_0 : jd cX4_has 0 (.iload_n 1) 1 1 := by decide +kernel
theorem dX4_has_1 : jt cX4_has 1 (.ifCond .lt 15) 15 16 4 := by decide +kernel
theorem dX4_has_4 : jd cX4_has 4 (.iload_n 1) 1 5 := by decide +kernel
theorem dX4_has_5 : jd cX4_has 5 (.aload_n 0) 1 6 := by decide +kernel
theorem dX4_has_6 : jd cX4_has 6 (.getfield 15) 3 9 := by decide +kernel
theorem dX4_has_9 : jt cX4_has 9 (.if_icmp .ge 7) 7 16 12 := by decide +kernel
theorem dX4_has_12 : jd cX4_has 12 (.iconst 1) 1 13 := by decide +kernel
theorem dX4_has_13 : jt cX4_has 13 (.goto 4) 4 17 16 := by decide +kernel
theorem dX4_has_16 : jd cX4_has 16 (.iconst 0) 1 17 := by decide +kernel
theorem dX4_has_17 : jd cX4_has 17 .ireturn 1 18 := by decide +kernel
theorem dX4_gather_0 : jd cX4_gather 0 (.aload_n 0) 1 1 := by decide +kernel
theorem dX4_gather_1 : jd cX4_gather 1 (.iconst 0) 1 2 := by decide +kernel
theorem dX4_gather_2 : jd cX4_gather 2 (.putfield 15) 3 5 := by decide +kernel
theorem dX4_gather_5 : jd cX4_gather 5 (.iconst 0) 1 6 := by decide +kernel
theorem dX4_gather_6 : jd cX4_gather 6 (.istore_n 3) 1 7 := by decide +kernel
theorem dX4_gather_7 : jd cX4_gather 7 (.iconst 0) 1 8 := by decide +kernel
theorem dX4_gather_8 : jd cX4_gather 8 (.istore 4) 2 10 := by decide +kernel
theorem dX4_gather_10 : jd cX4_gather 10 (.iconst 0) 1 11 := by decide +kernel
theorem dX4_gather_11 : jd cX4_gather 11 (.istore 5) 2 13 := by decide +kernel
theorem dX4_gather_13 : jd cX4_gather 13 (.iload 5) 2 15 := by decide +kernel
theorem dX4_gather_15 : jd cX4_gather 15 (.aload_n 1) 1 16 := by decide +kernel
theorem dX4_gather_16 : jd cX4_gather 16 (.getfield 19) 3 19 := by decide +kernel
theorem dX4_gather_19 : jt cX4_gather 19 (.if_icmp .ge 97) 97 116 22 := by decide +kernel
theorem dX4_gather_22 : jd cX4_gather 22 (.aload_n 1) 1 23 := by decide +kernel
theorem dX4_gather_23 : jd cX4_gather 23 (.getfield 22) 3 26 := by decide +kernel
theorem dX4_gather_26 : jd cX4_gather 26 (.iload 5) 2 28 := by decide +kernel
theorem dX4_gather_28 : jd cX4_gather 28 .iaload 1 29 := by decide +kernel
theorem dX4_gather_29 : jd cX4_gather 29 (.iload_n 2) 1 30 := by decide +kernel
theorem dX4_gather_30 : jt cX4_gather 30 (.if_icmp .gt 7) 7 37 33 := by decide +kernel
theorem dX4_gather_33 : jd cX4_gather 33 (.iconst 1) 1 34 := by decide +kernel
theorem dX4_gather_34 : jt cX4_gather 34 (.goto 4) 4 38 37 := by decide +kernel
theorem dX4_gather_37 : jd cX4_gather 37 (.iconst 0) 1 38 := by decide +kernel
theorem dX4_gather_38 : jd cX4_gather 38 (.istore 6) 2 40 := by decide +kernel
theorem dX4_gather_40 : jd cX4_gather 40 (.iload 6) 2 42 := by decide +kernel
theorem dX4_gather_42 : jt cX4_gather 42 (.ifCond .eq 17) 17 59 45 := by decide +kernel
theorem dX4_gather_45 : jd cX4_gather 45 (.iload_n 3) 1 46 := by decide +kernel
theorem dX4_gather_46 : jt cX4_gather 46 (.ifCond .ne 13) 13 59 49 := by decide +kernel
theorem dX4_gather_49 : jd cX4_gather 49 (.aload_n 0) 1 50 := by decide +kernel
theorem dX4_gather_50 : jd cX4_gather 50 .dup 1 51 := by decide +kernel
theorem dX4_gather_51 : jd cX4_gather 51 (.getfield 15) 3 54 := by decide +kernel
theorem dX4_gather_54 : jd cX4_gather 54 (.iconst 1) 1 55 := by decide +kernel
theorem dX4_gather_55 : jd cX4_gather 55 .iadd 1 56 := by decide +kernel
theorem dX4_gather_56 : jd cX4_gather 56 (.putfield 15) 3 59 := by decide +kernel
theorem dX4_gather_59 : jd cX4_gather 59 (.iload 6) 2 61 := by decide +kernel
theorem dX4_gather_61 : jt cX4_gather 61 (.ifCond .eq 46) 46 107 64 := by decide +kernel
theorem dX4_gather_64 : jd cX4_gather 64 (.iload_n 3) 1 65 := by decide +kernel
theorem dX4_gather_65 : jt cX4_gather 65 (.ifCond .eq 15) 15 80 68 := by decide +kernel
theorem dX4_gather_68 : jd cX4_gather 68 (.aload_n 1) 1 69 := by decide +kernel
theorem dX4_gather_69 : jd cX4_gather 69 (.getfield 22) 3 72 := by decide +kernel
theorem dX4_gather_72 : jd cX4_gather 72 (.iload 5) 2 74 := by decide +kernel
theorem dX4_gather_74 : jd cX4_gather 74 .iaload 1 75 := by decide +kernel
theorem dX4_gather_75 : jd cX4_gather 75 (.iload 4) 2 77 := by decide +kernel
theorem dX4_gather_77 : jt cX4_gather 77 (.if_icmp .ge 30) 30 107 80 := by decide +kernel
theorem dX4_gather_80 : jd cX4_gather 80 (.aload_n 1) 1 81 := by decide +kernel
theorem dX4_gather_81 : jd cX4_gather 81 (.getfield 22) 3 84 := by decide +kernel
theorem dX4_gather_84 : jd cX4_gather 84 (.iload 5) 2 86 := by decide +kernel
theorem dX4_gather_86 : jd cX4_gather 86 .iaload 1 87 := by decide +kernel
theorem dX4_gather_87 : jd cX4_gather 87 (.istore 4) 2 89 := by decide +kernel
theorem dX4_gather_89 : jd cX4_gather 89 (.aload_n 0) 1 90 := by decide +kernel
theorem dX4_gather_90 : jd cX4_gather 90 (.getfield 9) 3 93 := by decide +kernel
theorem dX4_gather_93 : jd cX4_gather 93 (.aload_n 0) 1 94 := by decide +kernel
theorem dX4_gather_94 : jd cX4_gather 94 (.getfield 15) 3 97 := by decide +kernel
theorem dX4_gather_97 : jd cX4_gather 97 (.iconst 1) 1 98 := by decide +kernel
theorem dX4_gather_98 : jd cX4_gather 98 .isub 1 99 := by decide +kernel
theorem dX4_gather_99 : jd cX4_gather 99 (.aload_n 1) 1 100 := by decide +kernel
theorem dX4_gather_100 : jd cX4_gather 100 (.getfield 25) 3 103 := by decide +kernel
theorem dX4_gather_103 : jd cX4_gather 103 (.iload 5) 2 105 := by decide +kernel
theorem dX4_gather_105 : jd cX4_gather 105 .iaload 1 106 := by decide +kernel
theorem dX4_gather_106 : jd cX4_gather 106 .iastore 1 107 := by decide +kernel
theorem dX4_gather_107 : jd cX4_gather 107 (.iload 6) 2 109 := by decide +kernel
theorem dX4_gather_109 : jd cX4_gather 109 (.istore_n 3) 1 110 := by decide +kernel
theorem dX4_gather_110 : jd cX4_gather 110 (.iinc 5 1) 3 113 := by decide +kernel
theorem dX4_gather_113 : jt cX4_gather 113 (.goto (-100)) (-100) 13 116 := by decide +kernel
theorem dX4_gather_116 : jd cX4_gather 116 .return_ 1 117 := by decide +kernel
theorem dX5_init_0 : jd cX5_init 0 (.aload_n 0) 1 1 := by decide +kernel
theorem dX5_init_1 : jd cX5_init 1 (.invokespecial 1) 3 4 := by decide +kernel
theorem dX5_init_4 : jd cX5_init 4 (.aload_n 0) 1 5 := by decide +kernel
theorem dX5_init_5 : jd cX5_init 5 (.iload_n 1) 1 6 := by decide +kernel
theorem dX5_init_6 : jd cX5_init 6 (.putfield 7) 3 9 := by decide +kernel
theorem dX5_init_9 : jd cX5_init 9 (.aload_n 0) 1 10 := by decide +kernel
theorem dX5_init_10 : jd cX5_init 10 (.iload_n 2) 1 11 := by decide +kernel
theorem dX5_init_11 : jd cX5_init 11 (.putfield 13) 3 14 := by decide +kernel
theorem dX5_init_14 : jd cX5_init 14 (.aload_n 0) 1 15 := by decide +kernel
theorem dX5_init_15 : jd cX5_init 15 (.iload_n 3) 1 16 := by decide +kernel
theorem dX5_init_16 : jd cX5_init 16 (.putfield 16) 3 19 := by decide +kernel
theorem dX5_init_19 : jd cX5_init 19 (.aload_n 0) 1 20 := by decide +kernel
theorem dX5_init_20 : jd cX5_init 20 (.iload 4) 2 22 := by decide +kernel
theorem dX5_init_22 : jd cX5_init 22 (.putfield 19) 3 25 := by decide +kernel
theorem dX5_init_25 : jd cX5_init 25 .return_ 1 26 := by decide +kernel
theorem dX5_fits_0 : jd cX5_fits 0 (.aload_n 0) 1 1 := by decide +kernel
theorem dX5_fits_1 : jd cX5_fits 1 (.getfield 7) 3 4 := by decide +kernel
theorem dX5_fits_4 : jt cX5_fits 4 (.ifCond .lt 42) 42 46 7 := by decide +kernel
theorem dX5_fits_7 : jd cX5_fits 7 (.aload_n 0) 1 8 := by decide +kernel
theorem dX5_fits_8 : jd cX5_fits 8 (.getfield 7) 3 11 := by decide +kernel
theorem dX5_fits_11 : jd cX5_fits 11 (.aload_n 1) 1 12 := by decide +kernel
theorem dX5_fits_12 : jd cX5_fits 12 .arraylength 1 13 := by decide +kernel
theorem dX5_fits_13 : jt cX5_fits 13 (.if_icmp .ge 33) 33 46 16 := by decide +kernel
theorem dX5_fits_16 : jd cX5_fits 16 (.aload_n 0) 1 17 := by decide +kernel
theorem dX5_fits_17 : jd cX5_fits 17 (.getfield 13) 3 20 := by decide +kernel
theorem dX5_fits_20 : jd cX5_fits 20 (.aload_n 1) 1 21 := by decide +kernel
theorem dX5_fits_21 : jd cX5_fits 21 (.aload_n 0) 1 22 := by decide +kernel
theorem dX5_fits_22 : jd cX5_fits 22 (.getfield 7) 3 25 := by decide +kernel
theorem dX5_fits_25 : jd cX5_fits 25 .iaload 1 26 := by decide +kernel
theorem dX5_fits_26 : jt cX5_fits 26 (.if_icmp .gt 20) 20 46 29 := by decide +kernel
theorem dX5_fits_29 : jd cX5_fits 29 (.aload_n 1) 1 30 := by decide +kernel
theorem dX5_fits_30 : jd cX5_fits 30 (.aload_n 0) 1 31 := by decide +kernel
theorem dX5_fits_31 : jd cX5_fits 31 (.getfield 7) 3 34 := by decide +kernel
theorem dX5_fits_34 : jd cX5_fits 34 .iaload 1 35 := by decide +kernel
theorem dX5_fits_35 : jd cX5_fits 35 (.aload_n 0) 1 36 := by decide +kernel
theorem dX5_fits_36 : jd cX5_fits 36 (.getfield 16) 3 39 := by decide +kernel
theorem dX5_fits_39 : jt cX5_fits 39 (.if_icmp .gt 7) 7 46 42 := by decide +kernel
theorem dX5_fits_42 : jd cX5_fits 42 (.iconst 1) 1 43 := by decide +kernel
theorem dX5_fits_43 : jt cX5_fits 43 (.goto 4) 4 47 46 := by decide +kernel
theorem dX5_fits_46 : jd cX5_fits 46 (.iconst 0) 1 47 := by decide +kernel
theorem dX5_fits_47 : jd cX5_fits 47 .ireturn 1 48 := by decide +kernel
theorem dX6_init_0 : jd cX6_init 0 (.aload_n 0) 1 1 := by decide +kernel
theorem dX6_init_1 : jd cX6_init 1 (.invokespecial 3) 3 4 := by decide +kernel
theorem dX6_init_4 : jd cX6_init 4 (.aload_n 0) 1 5 := by decide +kernel
theorem dX6_init_5 : jd cX6_init 5 (.bipush 60) 2 7 := by decide +kernel
theorem dX6_init_7 : jd cX6_init 7 (.newarray .int) 2 9 := by decide +kernel
theorem dX6_init_9 : jd cX6_init 9 (.putfield 9) 3 12 := by decide +kernel
theorem dX6_init_12 : jd cX6_init 12 (.aload_n 0) 1 13 := by decide +kernel
theorem dX6_init_13 : jd cX6_init 13 (.bipush (-9)) 2 15 := by decide +kernel
theorem dX6_init_15 : jd cX6_init 15 (.putfield 15) 3 18 := by decide +kernel
theorem dX6_init_18 : jd cX6_init 18 (.aload_n 0) 1 19 := by decide +kernel
theorem dX6_init_19 : jd cX6_init 19 (.iload_n 1) 1 20 := by decide +kernel
theorem dX6_init_20 : jd cX6_init 20 (.putfield 19) 3 23 := by decide +kernel
theorem dX6_init_23 : jd cX6_init 23 (.aload_n 0) 1 24 := by decide +kernel
theorem dX6_init_24 : jd cX6_init 24 (.getfield 9) 3 27 := by decide +kernel
theorem dX6_init_27 : jd cX6_init 27 (.bipush (-9)) 2 29 := by decide +kernel
theorem dX6_init_29 : jd cX6_init 29 (.invokestatic 22) 3 32 := by decide +kernel
theorem dX6_init_32 : jd cX6_init 32 .return_ 1 33 := by decide +kernel
theorem dX6_isOfKind_0 : jd cX6_isOfKind 0 (.iload_n 1) 1 1 := by decide +kernel
theorem dX6_isOfKind_1 : jt cX6_isOfKind 1 (.ifCond .eq 24) 24 25 4 := by decide +kernel
theorem dX6_isOfKind_4 : jd cX6_isOfKind 4 (.iload_n 1) 1 5 := by decide +kernel
theorem dX6_isOfKind_5 : jd cX6_isOfKind 5 (.aload_n 0) 1 6 := by decide +kernel
theorem dX6_isOfKind_6 : jd cX6_isOfKind 6 (.getfield 19) 3 9 := by decide +kernel
theorem dX6_isOfKind_9 : jt cX6_isOfKind 9 (.if_icmp .eq 16) 16 25 12 := by decide +kernel
theorem dX6_isOfKind_12 : jd cX6_isOfKind 12 (.iload_n 1) 1 13 := by decide +kernel
theorem dX6_isOfKind_13 : jd cX6_isOfKind 13 (.iconst 2) 1 14 := by decide +kernel
theorem dX6_isOfKind_14 : jt cX6_isOfKind 14 (.if_icmp .ne 15) 15 29 17 := by decide +kernel
theorem dX6_isOfKind_17 : jd cX6_isOfKind 17 (.aload_n 0) 1 18 := by decide +kernel
theorem dX6_isOfKind_18 : jd cX6_isOfKind 18 (.getfield 19) 3 21 := by decide +kernel
theorem dX6_isOfKind_21 : jd cX6_isOfKind 21 (.iconst 3) 1 22 := by decide +kernel
theorem dX6_isOfKind_22 : jt cX6_isOfKind 22 (.if_icmp .ne 7) 7 29 25 := by decide +kernel
theorem dX6_isOfKind_25 : jd cX6_isOfKind 25 (.iconst 1) 1 26 := by decide +kernel
theorem dX6_isOfKind_26 : jt cX6_isOfKind 26 (.goto 4) 4 30 29 := by decide +kernel
theorem dX6_isOfKind_29 : jd cX6_isOfKind 29 (.iconst 0) 1 30 := by decide +kernel
theorem dX6_isOfKind_30 : jd cX6_isOfKind 30 .ireturn 1 31 := by decide +kernel
theorem dX6_emptyRow_0 : jd cX6_emptyRow 0 (.aload_n 0) 1 1 := by decide +kernel
theorem dX6_emptyRow_1 : jd cX6_emptyRow 1 (.iload_n 1) 1 2 := by decide +kernel
theorem dX6_emptyRow_2 : jd cX6_emptyRow 2 (.putfield 28) 3 5 := by decide +kernel
theorem dX6_emptyRow_5 : jd cX6_emptyRow 5 (.aload_n 0) 1 6 := by decide +kernel
theorem dX6_emptyRow_6 : jd cX6_emptyRow 6 (.getfield 9) 3 9 := by decide +kernel
theorem dX6_emptyRow_9 : jd cX6_emptyRow 9 (.bipush (-9)) 2 11 := by decide +kernel
theorem dX6_emptyRow_11 : jd cX6_emptyRow 11 (.invokestatic 22) 3 14 := by decide +kernel
theorem dX6_emptyRow_14 : jd cX6_emptyRow 14 .return_ 1 15 := by decide +kernel
theorem dX6_digestOnto_0 : jd cX6_digestOnto 0 (.ldc2_w 32) 3 3 := by decide +kernel
theorem dX6_digestOnto_3 : jd cX6_digestOnto 3 (.lload_n 1) 1 4 := by decide +kernel
theorem dX6_digestOnto_4 : jd cX6_digestOnto 4 .lmul 1 5 := by decide +kernel
theorem dX6_digestOnto_5 : jd cX6_digestOnto 5 (.aload_n 0) 1 6 := by decide +kernel
theorem dX6_digestOnto_6 : jd cX6_digestOnto 6 (.getfield 19) 3 9 := by decide +kernel
theorem dX6_digestOnto_9 : jd cX6_digestOnto 9 .i2l 1 10 := by decide +kernel
theorem dX6_digestOnto_10 : jd cX6_digestOnto 10 .ladd 1 11 := by decide +kernel
theorem dX6_digestOnto_11 : jd cX6_digestOnto 11 (.lstore_n 3) 1 12 := by decide +kernel
theorem dX6_digestOnto_12 : jd cX6_digestOnto 12 (.aload_n 0) 1 13 := by decide +kernel
theorem dX6_digestOnto_13 : jd cX6_digestOnto 13 (.getfield 28) 3 16 := by decide +kernel
theorem dX6_digestOnto_16 : jt cX6_digestOnto 16 (.ifCond .ne 11) 11 27 19 := by decide +kernel
theorem dX6_digestOnto_19 : jd cX6_digestOnto 19 (.ldc2_w 32) 3 22 := by decide +kernel
theorem dX6_digestOnto_22 : jd cX6_digestOnto 22 (.lload_n 3) 1 23 := by decide +kernel
theorem dX6_digestOnto_23 : jd cX6_digestOnto 23 .lmul 1 24 := by decide +kernel
theorem dX6_digestOnto_24 : jd cX6_digestOnto 24 (.lconst 1) 1 25 := by decide +kernel
theorem dX6_digestOnto_25 : jd cX6_digestOnto 25 .lsub 1 26 := by decide +kernel
theorem dX6_digestOnto_26 : jd cX6_digestOnto 26 .lreturn 1 27 := by decide +kernel
theorem dX6_digestOnto_27 : jd cX6_digestOnto 27 (.iconst 0) 1 28 := by decide +kernel
theorem dX6_digestOnto_28 : jd cX6_digestOnto 28 (.istore 5) 2 30 := by decide +kernel
theorem dX6_digestOnto_30 : jd cX6_digestOnto 30 (.iload 5) 2 32 := by decide +kernel
theorem dX6_digestOnto_32 : jd cX6_digestOnto 32 (.bipush 60) 2 34 := by decide +kernel
theorem dX6_digestOnto_34 : jt cX6_digestOnto 34 (.if_icmp .ge 24) 24 58 37 := by decide +kernel
theorem dX6_digestOnto_37 : jd cX6_digestOnto 37 (.ldc2_w 32) 3 40 := by decide +kernel
theorem dX6_digestOnto_40 : jd cX6_digestOnto 40 (.lload_n 3) 1 41 := by decide +kernel
theorem dX6_digestOnto_41 : jd cX6_digestOnto 41 .lmul 1 42 := by decide +kernel
theorem dX6_digestOnto_42 : jd cX6_digestOnto 42 (.aload_n 0) 1 43 := by decide +kernel
theorem dX6_digestOnto_43 : jd cX6_digestOnto 43 (.getfield 9) 3 46 := by decide +kernel
theorem dX6_digestOnto_46 : jd cX6_digestOnto 46 (.iload 5) 2 48 := by decide +kernel
theorem dX6_digestOnto_48 : jd cX6_digestOnto 48 .iaload 1 49 := by decide +kernel
theorem dX6_digestOnto_49 : jd cX6_digestOnto 49 .i2l 1 50 := by decide +kernel
theorem dX6_digestOnto_50 : jd cX6_digestOnto 50 .ladd 1 51 := by decide +kernel
theorem dX6_digestOnto_51 : jd cX6_digestOnto 51 (.lstore_n 3) 1 52 := by decide +kernel
theorem dX6_digestOnto_52 : jd cX6_digestOnto 52 (.iinc 5 1) 3 55 := by decide +kernel
theorem dX6_digestOnto_55 : jt cX6_digestOnto 55 (.goto (-25)) (-25) 30 58 := by decide +kernel
theorem dX6_digestOnto_58 : jd cX6_digestOnto 58 (.lload_n 3) 1 59 := by decide +kernel
theorem dX6_digestOnto_59 : jd cX6_digestOnto 59 .lreturn 1 60 := by decide +kernel
theorem dX7_init_0 : jd cX7_init 0 (.aload_n 0) 1 1 := by decide +kernel
theorem dX7_init_1 : jd cX7_init 1 (.invokespecial 1) 3 4 := by decide +kernel
theorem dX7_init_4 : jd cX7_init 4 (.aload_n 0) 1 5 := by decide +kernel
theorem dX7_init_5 : jd cX7_init 5 (.bipush 12) 2 7 := by decide +kernel
theorem dX7_init_7 : jd cX7_init 7 (.anewarray 9) 3 10 := by decide +kernel
theorem dX7_init_10 : jd cX7_init 10 (.putfield 11) 3 13 := by decide +kernel
theorem dX7_init_13 : jd cX7_init 13 (.aload_n 0) 1 14 := by decide +kernel
theorem dX7_init_14 : jd cX7_init 14 (.bipush 10) 2 16 := by decide +kernel
theorem dX7_init_16 : jd cX7_init 16 (.anewarray 15) 3 19 := by decide +kernel
theorem dX7_init_19 : jd cX7_init 19 (.putfield 17) 3 22 := by decide +kernel
theorem dX7_init_22 : jd cX7_init 22 (.aload_n 0) 1 23 := by decide +kernel
theorem dX7_init_23 : jd cX7_init 23 (.bipush 60) 2 25 := by decide +kernel
theorem dX7_init_25 : jd cX7_init 25 (.newarray .int) 2 27 := by decide +kernel
theorem dX7_init_27 : jd cX7_init 27 (.putfield 21) 3 30 := by decide +kernel
theorem dX7_init_30 : jd cX7_init 30 (.aload_n 0) 1 31 := by decide +kernel
theorem dX7_init_31 : jd cX7_init 31 (.new 25) 3 34 := by decide +kernel
theorem dX7_init_34 : jd cX7_init 34 .dup 1 35 := by decide +kernel
theorem dX7_init_35 : jd cX7_init 35 (.invokespecial 27) 3 38 := by decide +kernel
theorem dX7_init_38 : jd cX7_init 38 (.putfield 28) 3 41 := by decide +kernel
theorem dX7_init_41 : jd cX7_init 41 (.aload_n 0) 1 42 := by decide +kernel
theorem dX7_init_42 : jd cX7_init 42 (.new 32) 3 45 := by decide +kernel
theorem dX7_init_45 : jd cX7_init 45 .dup 1 46 := by decide +kernel
theorem dX7_init_46 : jd cX7_init 46 (.invokespecial 34) 3 49 := by decide +kernel
theorem dX7_init_49 : jd cX7_init 49 (.putfield 35) 3 52 := by decide +kernel
theorem dX7_init_52 : jd cX7_init 52 (.aload_n 0) 1 53 := by decide +kernel
theorem dX7_init_53 : jd cX7_init 53 (.new 39) 3 56 := by decide +kernel
theorem dX7_init_56 : jd cX7_init 56 .dup 1 57 := by decide +kernel
theorem dX7_init_57 : jd cX7_init 57 (.invokespecial 41) 3 60 := by decide +kernel
theorem dX7_init_60 : jd cX7_init 60 (.putfield 42) 3 63 := by decide +kernel
theorem dX7_init_63 : jd cX7_init 63 (.aload_n 0) 1 64 := by decide +kernel
theorem dX7_init_64 : jd cX7_init 64 (.new 46) 3 67 := by decide +kernel
theorem dX7_init_67 : jd cX7_init 67 .dup 1 68 := by decide +kernel
theorem dX7_init_68 : jd cX7_init 68 (.invokespecial 48) 3 71 := by decide +kernel
theorem dX7_init_71 : jd cX7_init 71 (.putfield 49) 3 74 := by decide +kernel
theorem dX7_init_74 : jd cX7_init 74 (.aload_n 0) 1 75 := by decide +kernel
theorem dX7_init_75 : jd cX7_init 75 (.new 53) 3 78 := by decide +kernel
theorem dX7_init_78 : jd cX7_init 78 .dup 1 79 := by decide +kernel
theorem dX7_init_79 : jd cX7_init 79 (.invokespecial 55) 3 82 := by decide +kernel
theorem dX7_init_82 : jd cX7_init 82 (.putfield 56) 3 85 := by decide +kernel
theorem dX7_init_85 : jd cX7_init 85 (.aload_n 0) 1 86 := by decide +kernel
theorem dX7_init_86 : jd cX7_init 86 (.iconst 4) 1 87 := by decide +kernel
theorem dX7_init_87 : jd cX7_init 87 (.newarray .int) 2 89 := by decide +kernel
theorem dX7_init_89 : jd cX7_init 89 (.putfield 60) 3 92 := by decide +kernel
theorem dX7_init_92 : jd cX7_init 92 (.aload_n 0) 1 93 := by decide +kernel
theorem dX7_init_93 : jd cX7_init 93 (.bipush 12) 2 95 := by decide +kernel
theorem dX7_init_95 : jd cX7_init 95 (.newarray .int) 2 97 := by decide +kernel
theorem dX7_init_97 : jd cX7_init 97 (.putfield 63) 3 100 := by decide +kernel
theorem dX7_init_100 : jd cX7_init 100 (.aload_n 0) 1 101 := by decide +kernel
theorem dX7_init_101 : jd cX7_init 101 (.bipush 6) 2 103 := by decide +kernel
theorem dX7_init_103 : jd cX7_init 103 (.newarray .int) 2 105 := by decide +kernel
theorem dX7_init_105 : jd cX7_init 105 (.putfield 66) 3 108 := by decide +kernel
theorem dX7_init_108 : jd cX7_init 108 .return_ 1 109 := by decide +kernel
theorem dX7_star_0 : jd cX7_star 0 (.iload_n 1) 1 1 := by decide +kernel
theorem dX7_star_1 : jd cX7_star 1 (.invokestatic 69) 3 4 := by decide +kernel
theorem dX7_star_4 : jt cX7_star 4 (.ifCond .ne 5) 5 9 7 := by decide +kernel
theorem dX7_star_7 : jd cX7_star 7 (.iconst (-1)) 1 8 := by decide +kernel
theorem dX7_star_8 : jd cX7_star 8 .ireturn 1 9 := by decide +kernel
theorem dX7_star_9 : jd cX7_star 9 (.aload_n 0) 1 10 := by decide +kernel
theorem dX7_star_10 : jd cX7_star 10 (.getfield 73) 3 13 := by decide +kernel
theorem dX7_star_13 : jd cX7_star 13 (.bipush 12) 2 15 := by decide +kernel
theorem dX7_star_15 : jt cX7_star 15 (.if_icmp .lt 6) 6 21 18 := by decide +kernel
theorem dX7_star_18 : jd cX7_star 18 (.bipush (-2)) 2 20 := by decide +kernel
theorem dX7_star_20 : jd cX7_star 20 .ireturn 1 21 := by decide +kernel
theorem dX7_star_21 : jd cX7_star 21 (.aload_n 0) 1 22 := by decide +kernel
theorem dX7_star_22 : jd cX7_star 22 (.getfield 11) 3 25 := by decide +kernel
theorem dX7_star_25 : jd cX7_star 25 (.aload_n 0) 1 26 := by decide +kernel
theorem dX7_star_26 : jd cX7_star 26 (.getfield 73) 3 29 := by decide +kernel
theorem dX7_star_29 : jd cX7_star 29 (.new 9) 3 32 := by decide +kernel
theorem dX7_star_32 : jd cX7_star 32 .dup 1 33 := by decide +kernel
theorem dX7_star_33 : jd cX7_star 33 (.iload_n 1) 1 34 := by decide +kernel
theorem dX7_star_34 : jd cX7_star 34 (.invokespecial 77) 3 37 := by decide +kernel
theorem dX7_star_37 : jd cX7_star 37 .aastore 1 38 := by decide +kernel
theorem dX7_star_38 : jd cX7_star 38 (.aload_n 0) 1 39 := by decide +kernel
theorem dX7_star_39 : jd cX7_star 39 .dup 1 40 := by decide +kernel
theorem dX7_star_40 : jd cX7_star 40 (.getfield 73) 3 43 := by decide +kernel
theorem dX7_star_43 : jd cX7_star 43 (.iconst 1) 1 44 := by decide +kernel
theorem dX7_star_44 : jd cX7_star 44 .iadd 1 45 := by decide +kernel
theorem dX7_star_45 : jd cX7_star 45 (.putfield 73) 3 48 := by decide +kernel
theorem dX7_star_48 : jd cX7_star 48 (.aload_n 0) 1 49 := by decide +kernel
theorem dX7_star_49 : jd cX7_star 49 (.getfield 73) 3 52 := by decide +kernel
theorem dX7_star_52 : jd cX7_star 52 (.iconst 1) 1 53 := by decide +kernel
theorem dX7_star_53 : jd cX7_star 53 .isub 1 54 := by decide +kernel
theorem dX7_star_54 : jd cX7_star 54 .ireturn 1 55 := by decide +kernel
theorem dX7_is_0 : jd cX7_is 0 (.aload_n 0) 1 1 := by decide +kernel
theorem dX7_is_1 : jd cX7_is 1 (.iload_n 1) 1 2 := by decide +kernel
theorem dX7_is_2 : jd cX7_is 2 (.invokevirtual 80) 3 5 := by decide +kernel
theorem dX7_is_5 : jd cX7_is 5 (.astore_n 3) 1 6 := by decide +kernel
theorem dX7_is_6 : jd cX7_is 6 (.aload_n 3) 1 7 := by decide +kernel
theorem dX7_is_7 : jt cX7_is 7 (.ifnull 10) 10 17 10 := by decide +kernel
theorem dX7_is_10 : jd cX7_is 10 (.iload_n 2) 1 11 := by decide +kernel
theorem dX7_is_11 : jd cX7_is 11 (.invokestatic 69) 3 14 := by decide +kernel
theorem dX7_is_14 : jt cX7_is 14 (.ifCond .ne 5) 5 19 17 := by decide +kernel
theorem dX7_is_17 : jd cX7_is 17 (.iconst (-1)) 1 18 := by decide +kernel
theorem dX7_is_18 : jd cX7_is 18 .ireturn 1 19 := by decide +kernel
theorem dX7_is_19 : jd cX7_is 19 (.aload_n 3) 1 20 := by decide +kernel
theorem dX7_is_20 : jd cX7_is 20 (.iload_n 2) 1 21 := by decide +kernel
theorem dX7_is_21 : jd cX7_is 21 (.invokevirtual 84) 3 24 := by decide +kernel
theorem dX7_is_24 : jt cX7_is 24 (.ifCond .eq 7) 7 31 27 := by decide +kernel
theorem dX7_is_27 : jd cX7_is 27 (.iconst 1) 1 28 := by decide +kernel
theorem dX7_is_28 : jt cX7_is 28 (.goto 4) 4 32 31 := by decide +kernel
theorem dX7_is_31 : jd cX7_is 31 (.iconst 0) 1 32 := by decide +kernel
theorem dX7_is_32 : jd cX7_is 32 .ireturn 1 33 := by decide +kernel
theorem dX7_mark_0 : jd cX7_mark 0 (.aload_n 0) 1 1 := by decide +kernel
theorem dX7_mark_1 : jd cX7_mark 1 (.iload_n 1) 1 2 := by decide +kernel
theorem dX7_mark_2 : jd cX7_mark 2 (.invokevirtual 80) 3 5 := by decide +kernel
theorem dX7_mark_5 : jd cX7_mark 5 (.astore_n 3) 1 6 := by decide +kernel
theorem dX7_mark_6 : jd cX7_mark 6 (.aload_n 3) 1 7 := by decide +kernel
theorem dX7_mark_7 : jt cX7_mark 7 (.ifnull 10) 10 17 10 := by decide +kernel
theorem dX7_mark_10 : jd cX7_mark 10 (.iload_n 2) 1 11 := by decide +kernel
theorem dX7_mark_11 : jd cX7_mark 11 (.invokestatic 69) 3 14 := by decide +kernel
theorem dX7_mark_14 : jt cX7_mark 14 (.ifCond .ne 5) 5 19 17 := by decide +kernel
theorem dX7_mark_17 : jd cX7_mark 17 (.iconst (-1)) 1 18 := by decide +kernel
theorem dX7_mark_18 : jd cX7_mark 18 .ireturn 1 19 := by decide +kernel
theorem dX7_mark_19 : jd cX7_mark 19 (.aload_n 3) 1 20 := by decide +kernel
theorem dX7_mark_20 : jd cX7_mark 20 (.iload_n 2) 1 21 := by decide +kernel
theorem dX7_mark_21 : jd cX7_mark 21 (.invokevirtual 84) 3 24 := by decide +kernel
theorem dX7_mark_24 : jt cX7_mark 24 (.ifCond .ne 9) 9 33 27 := by decide +kernel
theorem dX7_mark_27 : jd cX7_mark 27 (.aload_n 0) 1 28 := by decide +kernel
theorem dX7_mark_28 : jd cX7_mark 28 (.iconst 3) 1 29 := by decide +kernel
theorem dX7_mark_29 : jd cX7_mark 29 (.invokevirtual 87) 3 32 := by decide +kernel
theorem dX7_mark_32 : jd cX7_mark 32 .ireturn 1 33 := by decide +kernel
theorem dX7_mark_33 : jd cX7_mark 33 (.iload_n 2) 1 34 := by decide +kernel
theorem dX7_mark_34 : jt cX7_mark 34 (.ifCond .ne 8) 8 42 37 := by decide +kernel
theorem dX7_mark_37 : jd cX7_mark 37 (.aload_n 3) 1 38 := by decide +kernel
theorem dX7_mark_38 : jd cX7_mark 38 (.getfield 91) 3 41 := by decide +kernel
theorem dX7_mark_41 : jd cX7_mark 41 .ireturn 1 42 := by decide +kernel
theorem dX7_mark_42 : jd cX7_mark 42 (.aload_n 0) 1 43 := by decide +kernel
theorem dX7_mark_43 : jd cX7_mark 43 (.iload_n 1) 1 44 := by decide +kernel
theorem dX7_mark_44 : jd cX7_mark 44 (.invokevirtual 94) 3 47 := by decide +kernel
theorem dX7_mark_47 : jd cX7_mark 47 (.istore 4) 2 49 := by decide +kernel
theorem dX7_mark_49 : jd cX7_mark 49 (.iload 4) 2 51 := by decide +kernel
theorem dX7_mark_51 : jt cX7_mark 51 (.ifCond .ne 11) 11 62 54 := by decide +kernel
theorem dX7_mark_54 : jd cX7_mark 54 (.aload_n 0) 1 55 := by decide +kernel
theorem dX7_mark_55 : jd cX7_mark 55 (.iload_n 2) 1 56 := by decide +kernel
theorem dX7_mark_56 : jd cX7_mark 56 (.invokevirtual 97) 3 59 := by decide +kernel
theorem dX7_mark_59 : jt cX7_mark 59 (.goto 5) 5 64 62 := by decide +kernel
theorem dX7_mark_62 : jd cX7_mark 62 (.iload 4) 2 64 := by decide +kernel
theorem dX7_mark_64 : jd cX7_mark 64 .ireturn 1 65 := by decide +kernel
theorem dX7_row_0 : jd cX7_row 0 (.aload_n 0) 1 1 := by decide +kernel
theorem dX7_row_1 : jd cX7_row 1 (.iload_n 1) 1 2 := by decide +kernel
theorem dX7_row_2 : jd cX7_row 2 (.invokevirtual 80) 3 5 := by decide +kernel
theorem dX7_row_5 : jd cX7_row 5 (.astore_n 2) 1 6 := by decide +kernel
theorem dX7_row_6 : jd cX7_row 6 (.aload_n 2) 1 7 := by decide +kernel
theorem dX7_row_7 : jt cX7_row 7 (.ifnonnull 5) 5 12 10 := by decide +kernel
theorem dX7_row_10 : jd cX7_row 10 (.iconst (-1)) 1 11 := by decide +kernel
theorem dX7_row_11 : jd cX7_row 11 .ireturn 1 12 := by decide +kernel
theorem dX7_row_12 : jd cX7_row 12 (.aload_n 2) 1 13 := by decide +kernel
theorem dX7_row_13 : jd cX7_row 13 (.getfield 100) 3 16 := by decide +kernel
theorem dX7_row_16 : jt cX7_row 16 (.ifCond .eq 7) 7 23 19 := by decide +kernel
theorem dX7_row_19 : jd cX7_row 19 (.iconst 1) 1 20 := by decide +kernel
theorem dX7_row_20 : jt cX7_row 20 (.goto 4) 4 24 23 := by decide +kernel
theorem dX7_row_23 : jd cX7_row 23 (.iconst 0) 1 24 := by decide +kernel
theorem dX7_row_24 : jd cX7_row 24 (.istore_n 3) 1 25 := by decide +kernel
theorem dX7_row_25 : jd cX7_row 25 (.aload_n 2) 1 26 := by decide +kernel
theorem dX7_row_26 : jd cX7_row 26 (.iconst 1) 1 27 := by decide +kernel
theorem dX7_row_27 : jd cX7_row 27 (.invokevirtual 104) 3 30 := by decide +kernel
theorem dX7_row_30 : jd cX7_row 30 (.iload_n 3) 1 31 := by decide +kernel
theorem dX7_row_31 : jd cX7_row 31 .ireturn 1 32 := by decide +kernel
theorem dX7_lay_0 : jd cX7_lay 0 (.iload_n 3) 1 1 := by decide +kernel
theorem dX7_lay_1 : jd cX7_lay 1 (.bipush (-9)) 2 3 := by decide +kernel
theorem dX7_lay_3 : jt cX7_lay 3 (.if_icmp .eq 16) 16 19 6 := by decide +kernel
theorem dX7_lay_6 : jd cX7_lay 6 (.iload_n 3) 1 7 := by decide +kernel
theorem dX7_lay_7 : jt cX7_lay 7 (.ifCond .lt 10) 10 17 10 := by decide +kernel
theorem dX7_lay_10 : jd cX7_lay 10 (.iload_n 3) 1 11 := by decide +kernel
theorem dX7_lay_11 : jd cX7_lay 11 (.sipush 10000) 3 14 := by decide +kernel
theorem dX7_lay_14 : jt cX7_lay 14 (.if_icmp .le 5) 5 19 17 := by decide +kernel
theorem dX7_lay_17 : jd cX7_lay 17 (.iconst (-1)) 1 18 := by decide +kernel
theorem dX7_lay_18 : jd cX7_lay 18 .ireturn 1 19 := by decide +kernel
theorem dX7_lay_19 : jd cX7_lay 19 (.aload_n 0) 1 20 := by decide +kernel
theorem dX7_lay_20 : jd cX7_lay 20 (.iload_n 1) 1 21 := by decide +kernel
theorem dX7_lay_21 : jd cX7_lay 21 (.iload_n 2) 1 22 := by decide +kernel
theorem dX7_lay_22 : jd cX7_lay 22 (.invokevirtual 108) 3 25 := by decide +kernel
theorem dX7_lay_25 : jd cX7_lay 25 (.istore 4) 2 27 := by decide +kernel
theorem dX7_lay_27 : jd cX7_lay 27 (.iload 4) 2 29 := by decide +kernel
theorem dX7_lay_29 : jt cX7_lay 29 (.ifCond .eq 6) 6 35 32 := by decide +kernel
theorem dX7_lay_32 : jd cX7_lay 32 (.iload 4) 2 34 := by decide +kernel
theorem dX7_lay_34 : jd cX7_lay 34 .ireturn 1 35 := by decide +kernel
theorem dX7_lay_35 : jd cX7_lay 35 (.aload_n 0) 1 36 := by decide +kernel
theorem dX7_lay_36 : jd cX7_lay 36 (.getfield 11) 3 39 := by decide +kernel
theorem dX7_lay_39 : jd cX7_lay 39 (.iload_n 1) 1 40 := by decide +kernel
theorem dX7_lay_40 : jd cX7_lay 40 .aaload 1 41 := by decide +kernel
theorem dX7_lay_41 : jd cX7_lay 41 (.getfield 112) 3 44 := by decide +kernel
theorem dX7_lay_44 : jd cX7_lay 44 (.iload_n 2) 1 45 := by decide +kernel
theorem dX7_lay_45 : jd cX7_lay 45 .iaload 1 46 := by decide +kernel
theorem dX7_lay_46 : jd cX7_lay 46 (.istore 5) 2 48 := by decide +kernel
theorem dX7_lay_48 : jd cX7_lay 48 (.aload_n 0) 1 49 := by decide +kernel
theorem dX7_lay_49 : jd cX7_lay 49 (.getfield 11) 3 52 := by decide +kernel
theorem dX7_lay_52 : jd cX7_lay 52 (.iload_n 1) 1 53 := by decide +kernel
theorem dX7_lay_53 : jd cX7_lay 53 .aaload 1 54 := by decide +kernel
theorem dX7_lay_54 : jd cX7_lay 54 (.getfield 112) 3 57 := by decide +kernel
theorem dX7_lay_57 : jd cX7_lay 57 (.iload_n 2) 1 58 := by decide +kernel
theorem dX7_lay_58 : jd cX7_lay 58 (.iload_n 3) 1 59 := by decide +kernel
theorem dX7_lay_59 : jd cX7_lay 59 .iastore 1 60 := by decide +kernel
theorem dX7_lay_60 : jd cX7_lay 60 (.iload 5) 2 62 := by decide +kernel
theorem dX7_lay_62 : jd cX7_lay 62 .ireturn 1 63 := by decide +kernel
theorem dX7_at_0 : jd cX7_at 0 (.aload_n 0) 1 1 := by decide +kernel
theorem dX7_at_1 : jd cX7_at 1 (.iload_n 1) 1 2 := by decide +kernel
theorem dX7_at_2 : jd cX7_at 2 (.iload_n 2) 1 3 := by decide +kernel
theorem dX7_at_3 : jd cX7_at 3 (.invokevirtual 108) 3 6 := by decide +kernel
theorem dX7_at_6 : jd cX7_at 6 (.istore_n 3) 1 7 := by decide +kernel
theorem dX7_at_7 : jd cX7_at 7 (.iload_n 3) 1 8 := by decide +kernel
theorem dX7_at_8 : jt cX7_at 8 (.ifCond .ne 17) 17 25 11 := by decide +kernel
theorem dX7_at_11 : jd cX7_at 11 (.aload_n 0) 1 12 := by decide +kernel
theorem dX7_at_12 : jd cX7_at 12 (.getfield 11) 3 15 := by decide +kernel
theorem dX7_at_15 : jd cX7_at 15 (.iload_n 1) 1 16 := by decide +kernel
theorem dX7_at_16 : jd cX7_at 16 .aaload 1 17 := by decide +kernel
theorem dX7_at_17 : jd cX7_at 17 (.getfield 112) 3 20 := by decide +kernel
theorem dX7_at_20 : jd cX7_at 20 (.iload_n 2) 1 21 := by decide +kernel
theorem dX7_at_21 : jd cX7_at 21 .iaload 1 22 := by decide +kernel
theorem dX7_at_22 : jt cX7_at 22 (.goto 4) 4 26 25 := by decide +kernel
theorem dX7_at_25 : jd cX7_at 25 (.iload_n 3) 1 26 := by decide +kernel
theorem dX7_at_26 : jd cX7_at 26 .ireturn 1 27 := by decide +kernel
theorem dX7_light_0 : jd cX7_light 0 (.aload_n 0) 1 1 := by decide +kernel
theorem dX7_light_1 : jd cX7_light 1 (.iload_n 1) 1 2 := by decide +kernel
theorem dX7_light_2 : jd cX7_light 2 (.iload_n 2) 1 3 := by decide +kernel
theorem dX7_light_3 : jd cX7_light 3 (.invokevirtual 108) 3 6 := by decide +kernel
theorem dX7_light_6 : jd cX7_light 6 (.istore_n 3) 1 7 := by decide +kernel
theorem dX7_light_7 : jd cX7_light 7 (.iload_n 3) 1 8 := by decide +kernel
theorem dX7_light_8 : jt cX7_light 8 (.ifCond .eq 5) 5 13 11 := by decide +kernel
theorem dX7_light_11 : jd cX7_light 11 (.iload_n 3) 1 12 := by decide +kernel
theorem dX7_light_12 : jd cX7_light 12 .ireturn 1 13 := by decide +kernel
theorem dX7_light_13 : jd cX7_light 13 (.aload_n 0) 1 14 := by decide +kernel
theorem dX7_light_14 : jd cX7_light 14 (.getfield 11) 3 17 := by decide +kernel
theorem dX7_light_17 : jd cX7_light 17 (.iload_n 1) 1 18 := by decide +kernel
theorem dX7_light_18 : jd cX7_light 18 .aaload 1 19 := by decide +kernel
theorem dX7_light_19 : jd cX7_light 19 (.getfield 112) 3 22 := by decide +kernel
theorem dX7_light_22 : jd cX7_light 22 (.iload_n 2) 1 23 := by decide +kernel
theorem dX7_light_23 : jd cX7_light 23 .iaload 1 24 := by decide +kernel
theorem dX7_light_24 : jd cX7_light 24 (.istore 4) 2 26 := by decide +kernel
theorem dX7_light_26 : jd cX7_light 26 (.iload 4) 2 28 := by decide +kernel
theorem dX7_light_28 : jd cX7_light 28 (.bipush (-9)) 2 30 := by decide +kernel
theorem dX7_light_30 : jt cX7_light 30 (.if_icmp .ne 8) 8 38 33 := by decide +kernel
theorem dX7_light_33 : jd cX7_light 33 (.bipush (-9)) 2 35 := by decide +kernel
theorem dX7_light_35 : jt cX7_light 35 (.goto 17) 17 52 38 := by decide +kernel
theorem dX7_light_38 : jd cX7_light 38 (.aload_n 0) 1 39 := by decide +kernel
theorem dX7_light_39 : jd cX7_light 39 (.iload 4) 2 41 := by decide +kernel
theorem dX7_light_41 : jd cX7_light 41 (.aload_n 0) 1 42 := by decide +kernel
theorem dX7_light_42 : jd cX7_light 42 (.getfield 21) 3 45 := by decide +kernel
theorem dX7_light_45 : jd cX7_light 45 (.iload_n 2) 1 46 := by decide +kernel
theorem dX7_light_46 : jd cX7_light 46 .iaload 1 47 := by decide +kernel
theorem dX7_light_47 : jd cX7_light 47 .isub 1 48 := by decide +kernel
theorem dX7_light_48 : jd cX7_light 48 .i2l 1 49 := by decide +kernel
theorem dX7_light_49 : jd cX7_light 49 (.invokevirtual 115) 3 52 := by decide +kernel
theorem dX7_light_52 : jd cX7_light 52 .ireturn 1 53 := by decide +kernel
theorem dX7_tear_0 : jd cX7_tear 0 (.aload_n 0) 1 1 := by decide +kernel
theorem dX7_tear_1 : jd cX7_tear 1 (.iload_n 1) 1 2 := by decide +kernel
theorem dX7_tear_2 : jd cX7_tear 2 (.invokevirtual 119) 3 5 := by decide +kernel
theorem dX7_tear_5 : jd cX7_tear 5 (.istore_n 2) 1 6 := by decide +kernel
theorem dX7_tear_6 : jd cX7_tear 6 (.iload_n 2) 1 7 := by decide +kernel
theorem dX7_tear_7 : jt cX7_tear 7 (.ifCond .eq 5) 5 12 10 := by decide +kernel
theorem dX7_tear_10 : jd cX7_tear 10 (.iload_n 2) 1 11 := by decide +kernel
theorem dX7_tear_11 : jd cX7_tear 11 .ireturn 1 12 := by decide +kernel
theorem dX7_tear_12 : jd cX7_tear 12 (.aload_n 0) 1 13 := by decide +kernel
theorem dX7_tear_13 : jd cX7_tear 13 (.getfield 11) 3 16 := by decide +kernel
theorem dX7_tear_16 : jd cX7_tear 16 (.iload_n 1) 1 17 := by decide +kernel
theorem dX7_tear_17 : jd cX7_tear 17 .aaload 1 18 := by decide +kernel
theorem dX7_tear_18 : jd cX7_tear 18 (.iconst 0) 1 19 := by decide +kernel
theorem dX7_tear_19 : jd cX7_tear 19 (.invokevirtual 104) 3 22 := by decide +kernel
theorem dX7_tear_22 : jd cX7_tear 22 (.iconst 1) 1 23 := by decide +kernel
theorem dX7_tear_23 : jd cX7_tear 23 .ireturn 1 24 := by decide +kernel
theorem dX7_copy_0 : jd cX7_copy 0 (.aload_n 0) 1 1 := by decide +kernel
theorem dX7_copy_1 : jd cX7_copy 1 (.iload_n 1) 1 2 := by decide +kernel
theorem dX7_copy_2 : jd cX7_copy 2 (.invokevirtual 80) 3 5 := by decide +kernel
theorem dX7_copy_5 : jd cX7_copy 5 (.astore 6) 2 7 := by decide +kernel
theorem dX7_copy_7 : jd cX7_copy 7 (.aload_n 0) 1 8 := by decide +kernel
theorem dX7_copy_8 : jd cX7_copy 8 (.iload_n 3) 1 9 := by decide +kernel
theorem dX7_copy_9 : jd cX7_copy 9 (.invokevirtual 80) 3 12 := by decide +kernel
theorem dX7_copy_12 : jd cX7_copy 12 (.astore 7) 2 14 := by decide +kernel
theorem dX7_copy_14 : jd cX7_copy 14 (.aload 6) 2 16 := by decide +kernel
theorem dX7_copy_16 : jt cX7_copy 16 (.ifnull 8) 8 24 19 := by decide +kernel
theorem dX7_copy_19 : jd cX7_copy 19 (.aload 7) 2 21 := by decide +kernel
theorem dX7_copy_21 : jt cX7_copy 21 (.ifnonnull 5) 5 26 24 := by decide +kernel
theorem dX7_copy_24 : jd cX7_copy 24 (.iconst (-1)) 1 25 := by decide +kernel
theorem dX7_copy_25 : jd cX7_copy 25 .ireturn 1 26 := by decide +kernel
theorem dX7_copy_26 : jd cX7_copy 26 (.iload 5) 2 28 := by decide +kernel
theorem dX7_copy_28 : jt cX7_copy 28 (.ifCond .ge 9) 9 37 31 := by decide +kernel
theorem dX7_copy_31 : jd cX7_copy 31 (.aload_n 0) 1 32 := by decide +kernel
theorem dX7_copy_32 : jd cX7_copy 32 (.iconst 5) 1 33 := by decide +kernel
theorem dX7_copy_33 : jd cX7_copy 33 (.invokevirtual 87) 3 36 := by decide +kernel
theorem dX7_copy_36 : jd cX7_copy 36 .ireturn 1 37 := by decide +kernel
theorem dX7_copy_37 : jd cX7_copy 37 (.aload 6) 2 39 := by decide +kernel
theorem dX7_copy_39 : jd cX7_copy 39 (.getfield 100) 3 42 := by decide +kernel
theorem dX7_copy_42 : jt cX7_copy 42 (.ifCond .eq 11) 11 53 45 := by decide +kernel
theorem dX7_copy_45 : jd cX7_copy 45 (.aload 7) 2 47 := by decide +kernel
theorem dX7_copy_47 : jd cX7_copy 47 (.getfield 100) 3 50 := by decide +kernel
theorem dX7_copy_50 : jt cX7_copy 50 (.ifCond .ne 9) 9 59 53 := by decide +kernel
theorem dX7_copy_53 : jd cX7_copy 53 (.aload_n 0) 1 54 := by decide +kernel
theorem dX7_copy_54 : jd cX7_copy 54 (.iconst 1) 1 55 := by decide +kernel
theorem dX7_copy_55 : jd cX7_copy 55 (.invokevirtual 87) 3 58 := by decide +kernel
theorem dX7_copy_58 : jd cX7_copy 58 .ireturn 1 59 := by decide +kernel
theorem dX7_copy_59 : jd cX7_copy 59 (.iload_n 2) 1 60 := by decide +kernel
theorem dX7_copy_60 : jd cX7_copy 60 (.iload 5) 2 62 := by decide +kernel
theorem dX7_copy_62 : jd cX7_copy 62 (.invokestatic 122) 3 65 := by decide +kernel
theorem dX7_copy_65 : jt cX7_copy 65 (.ifCond .eq 13) 13 78 68 := by decide +kernel
theorem dX7_copy_68 : jd cX7_copy 68 (.iload 4) 2 70 := by decide +kernel
theorem dX7_copy_70 : jd cX7_copy 70 (.iload 5) 2 72 := by decide +kernel
theorem dX7_copy_72 : jd cX7_copy 72 (.invokestatic 122) 3 75 := by decide +kernel
theorem dX7_copy_75 : jt cX7_copy 75 (.ifCond .ne 9) 9 84 78 := by decide +kernel
theorem dX7_copy_78 : jd cX7_copy 78 (.aload_n 0) 1 79 := by decide +kernel
theorem dX7_copy_79 : jd cX7_copy 79 (.iconst 2) 1 80 := by decide +kernel
theorem dX7_copy_80 : jd cX7_copy 80 (.invokevirtual 87) 3 83 := by decide +kernel
theorem dX7_copy_83 : jd cX7_copy 83 .ireturn 1 84 := by decide +kernel
theorem dX7_copy_84 : jd cX7_copy 84 (.aload 6) 2 86 := by decide +kernel
theorem dX7_copy_86 : jd cX7_copy 86 (.getfield 112) 3 89 := by decide +kernel
theorem dX7_copy_89 : jd cX7_copy 89 (.iload_n 2) 1 90 := by decide +kernel
theorem dX7_copy_90 : jd cX7_copy 90 (.aload 7) 2 92 := by decide +kernel
theorem dX7_copy_92 : jd cX7_copy 92 (.getfield 112) 3 95 := by decide +kernel
theorem dX7_copy_95 : jd cX7_copy 95 (.iload 4) 2 97 := by decide +kernel
theorem dX7_copy_97 : jd cX7_copy 97 (.iload 5) 2 99 := by decide +kernel
theorem dX7_copy_99 : jd cX7_copy 99 (.invokestatic 126) 3 102 := by decide +kernel
theorem dX7_copy_102 : jd cX7_copy 102 (.iconst 1) 1 103 := by decide +kernel
theorem dX7_copy_103 : jd cX7_copy 103 .ireturn 1 104 := by decide +kernel
theorem dX7_foot_0 : jd cX7_foot 0 (.iload_n 1) 1 1 := by decide +kernel
theorem dX7_foot_1 : jd cX7_foot 1 (.invokestatic 132) 3 4 := by decide +kernel
theorem dX7_foot_4 : jt cX7_foot 4 (.ifCond .eq 17) 17 21 7 := by decide +kernel
theorem dX7_foot_7 : jd cX7_foot 7 (.iload_n 2) 1 8 := by decide +kernel
theorem dX7_foot_8 : jd cX7_foot 8 (.sipush (-10000)) 3 11 := by decide +kernel
theorem dX7_foot_11 : jt cX7_foot 11 (.if_icmp .lt 10) 10 21 14 := by decide +kernel
theorem dX7_foot_14 : jd cX7_foot 14 (.iload_n 2) 1 15 := by decide +kernel
theorem dX7_foot_15 : jd cX7_foot 15 (.sipush 10000) 3 18 := by decide +kernel
theorem dX7_foot_18 : jt cX7_foot 18 (.if_icmp .le 5) 5 23 21 := by decide +kernel
theorem dX7_foot_21 : jd cX7_foot 21 (.iconst (-1)) 1 22 := by decide +kernel
theorem dX7_foot_22 : jd cX7_foot 22 .ireturn 1 23 := by decide +kernel
theorem dX7_foot_23 : jd cX7_foot 23 (.aload_n 0) 1 24 := by decide +kernel
theorem dX7_foot_24 : jd cX7_foot 24 (.getfield 21) 3 27 := by decide +kernel
theorem dX7_foot_27 : jd cX7_foot 27 (.iload_n 1) 1 28 := by decide +kernel
theorem dX7_foot_28 : jd cX7_foot 28 (.iload_n 2) 1 29 := by decide +kernel
theorem dX7_foot_29 : jd cX7_foot 29 .iastore 1 30 := by decide +kernel
theorem dX7_foot_30 : jd cX7_foot 30 (.iconst 1) 1 31 := by decide +kernel
theorem dX7_foot_31 : jd cX7_foot 31 .ireturn 1 32 := by decide +kernel
theorem dX7_footing_0 : jd cX7_footing 0 (.iload_n 1) 1 1 := by decide +kernel
theorem dX7_footing_1 : jd cX7_footing 1 (.invokestatic 132) 3 4 := by decide +kernel
theorem dX7_footing_4 : jt cX7_footing 4 (.ifCond .eq 17) 17 21 7 := by decide +kernel
theorem dX7_footing_7 : jd cX7_footing 7 (.aload_n 0) 1 8 := by decide +kernel
theorem dX7_footing_8 : jd cX7_footing 8 (.aload_n 0) 1 9 := by decide +kernel
theorem dX7_footing_9 : jd cX7_footing 9 (.getfield 21) 3 12 := by decide +kernel
theorem dX7_footing_12 : jd cX7_footing 12 (.iload_n 1) 1 13 := by decide +kernel
theorem dX7_footing_13 : jd cX7_footing 13 .iaload 1 14 := by decide +kernel
theorem dX7_footing_14 : jd cX7_footing 14 .i2l 1 15 := by decide +kernel
theorem dX7_footing_15 : jd cX7_footing 15 (.invokevirtual 115) 3 18 := by decide +kernel
theorem dX7_footing_18 : jt cX7_footing 18 (.goto 4) 4 22 21 := by decide +kernel
theorem dX7_footing_21 : jd cX7_footing 21 (.iconst (-1)) 1 22 := by decide +kernel
theorem dX7_footing_22 : jd cX7_footing 22 .ireturn 1 23 := by decide +kernel
theorem dX7_level_0 : jd cX7_level 0 (.iconst 0) 1 1 := by decide +kernel
theorem dX7_level_1 : jd cX7_level 1 (.istore_n 1) 1 2 := by decide +kernel
theorem dX7_level_2 : jd cX7_level 2 (.iload_n 1) 1 3 := by decide +kernel
theorem dX7_level_3 : jd cX7_level 3 (.aload_n 0) 1 4 := by decide +kernel
theorem dX7_level_4 : jd cX7_level 4 (.getfield 73) 3 7 := by decide +kernel
theorem dX7_level_7 : jt cX7_level 7 (.if_icmp .ge 25) 25 32 10 := by decide +kernel
theorem dX7_level_10 : jd cX7_level 10 (.aload_n 0) 1 11 := by decide +kernel
theorem dX7_level_11 : jd cX7_level 11 (.getfield 63) 3 14 := by decide +kernel
theorem dX7_level_14 : jd cX7_level 14 (.iload_n 1) 1 15 := by decide +kernel
theorem dX7_level_15 : jd cX7_level 15 (.aload_n 0) 1 16 := by decide +kernel
theorem dX7_level_16 : jd cX7_level 16 (.aload_n 0) 1 17 := by decide +kernel
theorem dX7_level_17 : jd cX7_level 17 (.getfield 11) 3 20 := by decide +kernel
theorem dX7_level_20 : jd cX7_level 20 (.iload_n 1) 1 21 := by decide +kernel
theorem dX7_level_21 : jd cX7_level 21 .aaload 1 22 := by decide +kernel
theorem dX7_level_22 : jd cX7_level 22 (.invokevirtual 135) 3 25 := by decide +kernel
theorem dX7_level_25 : jd cX7_level 25 .iastore 1 26 := by decide +kernel
theorem dX7_level_26 : jd cX7_level 26 (.iinc 1 1) 3 29 := by decide +kernel
theorem dX7_level_29 : jt cX7_level 29 (.goto (-27)) (-27) 2 32 := by decide +kernel
theorem dX7_level_32 : jd cX7_level 32 (.iconst 0) 1 33 := by decide +kernel
theorem dX7_level_33 : jd cX7_level 33 (.istore_n 1) 1 34 := by decide +kernel
theorem dX7_level_34 : jd cX7_level 34 (.iconst 0) 1 35 := by decide +kernel
theorem dX7_level_35 : jd cX7_level 35 (.istore_n 2) 1 36 := by decide +kernel
theorem dX7_level_36 : jd cX7_level 36 (.iload_n 2) 1 37 := by decide +kernel
theorem dX7_level_37 : jd cX7_level 37 (.bipush 60) 2 39 := by decide +kernel
theorem dX7_level_39 : jt cX7_level 39 (.if_icmp .ge 32) 32 71 42 := by decide +kernel
theorem dX7_level_42 : jd cX7_level 42 (.aload_n 0) 1 43 := by decide +kernel
theorem dX7_level_43 : jd cX7_level 43 (.getfield 21) 3 46 := by decide +kernel
theorem dX7_level_46 : jd cX7_level 46 (.iload_n 2) 1 47 := by decide +kernel
theorem dX7_level_47 : jd cX7_level 47 (.aload_n 0) 1 48 := by decide +kernel
theorem dX7_level_48 : jd cX7_level 48 (.iload_n 2) 1 49 := by decide +kernel
theorem dX7_level_49 : jd cX7_level 49 (.invokevirtual 139) 3 52 := by decide +kernel
theorem dX7_level_52 : jd cX7_level 52 .iastore 1 53 := by decide +kernel
theorem dX7_level_53 : jd cX7_level 53 (.aload_n 0) 1 54 := by decide +kernel
theorem dX7_level_54 : jd cX7_level 54 (.getfield 21) 3 57 := by decide +kernel
theorem dX7_level_57 : jd cX7_level 57 (.iload_n 2) 1 58 := by decide +kernel
theorem dX7_level_58 : jd cX7_level 58 .iaload 1 59 := by decide +kernel
theorem dX7_level_59 : jt cX7_level 59 (.ifCond .eq 6) 6 65 62 := by decide +kernel
theorem dX7_level_62 : jd cX7_level 62 (.iinc 1 1) 3 65 := by decide +kernel
theorem dX7_level_65 : jd cX7_level 65 (.iinc 2 1) 3 68 := by decide +kernel
theorem dX7_level_68 : jt cX7_level 68 (.goto (-32)) (-32) 36 71 := by decide +kernel
theorem dX7_level_71 : jd cX7_level 71 (.iload_n 1) 1 72 := by decide +kernel
theorem dX7_level_72 : jd cX7_level 72 .ireturn 1 73 := by decide +kernel
theorem dX7_levelOf_0 : jd cX7_levelOf 0 (.aload_n 0) 1 1 := by decide +kernel
theorem dX7_levelOf_1 : jd cX7_levelOf 1 (.iload_n 1) 1 2 := by decide +kernel
theorem dX7_levelOf_2 : jd cX7_levelOf 2 (.invokevirtual 142) 3 5 := by decide +kernel
theorem dX7_levelOf_5 : jd cX7_levelOf 5 (.istore_n 2) 1 6 := by decide +kernel
theorem dX7_levelOf_6 : jd cX7_levelOf 6 (.iload_n 2) 1 7 := by decide +kernel
theorem dX7_levelOf_7 : jt cX7_levelOf 7 (.ifCond .ne 15) 15 22 10 := by decide +kernel
theorem dX7_levelOf_10 : jd cX7_levelOf 10 (.aload_n 0) 1 11 := by decide +kernel
theorem dX7_levelOf_11 : jd cX7_levelOf 11 (.aload_n 0) 1 12 := by decide +kernel
theorem dX7_levelOf_12 : jd cX7_levelOf 12 (.invokevirtual 145) 3 15 := by decide +kernel
theorem dX7_levelOf_15 : jd cX7_levelOf 15 .i2l 1 16 := by decide +kernel
theorem dX7_levelOf_16 : jd cX7_levelOf 16 (.invokevirtual 115) 3 19 := by decide +kernel
theorem dX7_levelOf_19 : jt cX7_levelOf 19 (.goto 4) 4 23 22 := by decide +kernel
theorem dX7_levelOf_22 : jd cX7_levelOf 22 (.iload_n 2) 1 23 := by decide +kernel
theorem dX7_levelOf_23 : jd cX7_levelOf 23 .ireturn 1 24 := by decide +kernel
theorem dX7_mean_0 : jd cX7_mean 0 (.aload_n 0) 1 1 := by decide +kernel
theorem dX7_mean_1 : jd cX7_mean 1 (.iload_n 1) 1 2 := by decide +kernel
theorem dX7_mean_2 : jd cX7_mean 2 (.invokevirtual 142) 3 5 := by decide +kernel
theorem dX7_mean_5 : jd cX7_mean 5 (.istore_n 2) 1 6 := by decide +kernel
theorem dX7_mean_6 : jd cX7_mean 6 (.iload_n 2) 1 7 := by decide +kernel
theorem dX7_mean_7 : jt cX7_mean 7 (.ifCond .ne 17) 17 24 10 := by decide +kernel
theorem dX7_mean_10 : jd cX7_mean 10 (.aload_n 0) 1 11 := by decide +kernel
theorem dX7_mean_11 : jd cX7_mean 11 (.aload_n 0) 1 12 := by decide +kernel
theorem dX7_mean_12 : jd cX7_mean 12 (.getfield 28) 3 15 := by decide +kernel
theorem dX7_mean_15 : jd cX7_mean 15 (.invokevirtual 149) 3 18 := by decide +kernel
theorem dX7_mean_18 : jd cX7_mean 18 (.invokevirtual 115) 3 21 := by decide +kernel
theorem dX7_mean_21 : jt cX7_mean 21 (.goto 4) 4 25 24 := by decide +kernel
theorem dX7_mean_24 : jd cX7_mean 24 (.iload_n 2) 1 25 := by decide +kernel
theorem dX7_mean_25 : jd cX7_mean 25 .ireturn 1 26 := by decide +kernel
theorem dX7_phase_0 : jd cX7_phase 0 (.iload_n 1) 1 1 := by decide +kernel
theorem dX7_phase_1 : jd cX7_phase 1 (.invokestatic 132) 3 4 := by decide +kernel
theorem dX7_phase_4 : jt cX7_phase 4 (.ifCond .eq 20) 20 24 7 := by decide +kernel
theorem dX7_phase_7 : jd cX7_phase 7 (.iload_n 2) 1 8 := by decide +kernel
theorem dX7_phase_8 : jd cX7_phase 8 (.iload_n 3) 1 9 := by decide +kernel
theorem dX7_phase_9 : jd cX7_phase 9 (.invokestatic 153) 3 12 := by decide +kernel
theorem dX7_phase_12 : jt cX7_phase 12 (.ifCond .eq 12) 12 24 15 := by decide +kernel
theorem dX7_phase_15 : jd cX7_phase 15 (.iload_n 1) 1 16 := by decide +kernel
theorem dX7_phase_16 : jd cX7_phase 16 (.iload_n 2) 1 17 := by decide +kernel
theorem dX7_phase_17 : jd cX7_phase 17 (.iload_n 3) 1 18 := by decide +kernel
theorem dX7_phase_18 : jd cX7_phase 18 (.invokestatic 156) 3 21 := by decide +kernel
theorem dX7_phase_21 : jt cX7_phase 21 (.goto 4) 4 25 24 := by decide +kernel
theorem dX7_phase_24 : jd cX7_phase 24 (.iconst (-1)) 1 25 := by decide +kernel
theorem dX7_phase_25 : jd cX7_phase 25 .ireturn 1 26 := by decide +kernel
theorem dX7_string_0 : jd cX7_string 0 (.iload_n 2) 1 1 := by decide +kernel
theorem dX7_string_1 : jd cX7_string 1 (.iload_n 3) 1 2 := by decide +kernel
theorem dX7_string_2 : jd cX7_string 2 (.invokestatic 153) 3 5 := by decide +kernel
theorem dX7_string_5 : jt cX7_string 5 (.ifCond .ne 5) 5 10 8 := by decide +kernel
theorem dX7_string_8 : jd cX7_string 8 (.iconst (-1)) 1 9 := by decide +kernel
theorem dX7_string_9 : jd cX7_string 9 .ireturn 1 10 := by decide +kernel
theorem dX7_string_10 : jd cX7_string 10 (.aload_n 0) 1 11 := by decide +kernel
theorem dX7_string_11 : jd cX7_string 11 (.iload_n 1) 1 12 := by decide +kernel
theorem dX7_string_12 : jd cX7_string 12 (.invokevirtual 94) 3 15 := by decide +kernel
theorem dX7_string_15 : jd cX7_string 15 (.istore 4) 2 17 := by decide +kernel
theorem dX7_string_17 : jd cX7_string 17 (.iload 4) 2 19 := by decide +kernel
theorem dX7_string_19 : jt cX7_string 19 (.ifCond .ne 24) 24 43 22 := by decide +kernel
theorem dX7_string_22 : jd cX7_string 22 (.aload_n 0) 1 23 := by decide +kernel
theorem dX7_string_23 : jd cX7_string 23 (.aload_n 0) 1 24 := by decide +kernel
theorem dX7_string_24 : jd cX7_string 24 (.getfield 42) 3 27 := by decide +kernel
theorem dX7_string_27 : jd cX7_string 27 (.aload_n 0) 1 28 := by decide +kernel
theorem dX7_string_28 : jd cX7_string 28 (.getfield 28) 3 31 := by decide +kernel
theorem dX7_string_31 : jd cX7_string 31 (.iload_n 2) 1 32 := by decide +kernel
theorem dX7_string_32 : jd cX7_string 32 (.iload_n 3) 1 33 := by decide +kernel
theorem dX7_string_33 : jd cX7_string 33 (.invokevirtual 160) 3 36 := by decide +kernel
theorem dX7_string_36 : jd cX7_string 36 .i2l 1 37 := by decide +kernel
theorem dX7_string_37 : jd cX7_string 37 (.invokevirtual 115) 3 40 := by decide +kernel
theorem dX7_string_40 : jt cX7_string 40 (.goto 5) 5 45 43 := by decide +kernel
theorem dX7_string_43 : jd cX7_string 43 (.iload 4) 2 45 := by decide +kernel
theorem dX7_string_45 : jd cX7_string 45 .ireturn 1 46 := by decide +kernel
theorem dX7_period_0 : jd cX7_period 0 (.aload_n 0) 1 1 := by decide +kernel
theorem dX7_period_1 : jd cX7_period 1 (.iload_n 1) 1 2 := by decide +kernel
theorem dX7_period_2 : jd cX7_period 2 (.iload_n 2) 1 3 := by decide +kernel
theorem dX7_period_3 : jd cX7_period 3 (.iload_n 3) 1 4 := by decide +kernel
theorem dX7_period_4 : jd cX7_period 4 (.iload 4) 2 6 := by decide +kernel
theorem dX7_period_6 : jd cX7_period 6 (.invokevirtual 164) 3 9 := by decide +kernel
theorem dX7_period_9 : jd cX7_period 9 (.istore 5) 2 11 := by decide +kernel
theorem dX7_period_11 : jd cX7_period 11 (.iload 5) 2 13 := by decide +kernel
theorem dX7_period_13 : jt cX7_period 13 (.ifCond .eq 6) 6 19 16 := by decide +kernel
theorem dX7_period_16 : jd cX7_period 16 (.iload 5) 2 18 := by decide +kernel
theorem dX7_period_18 : jd cX7_period 18 .ireturn 1 19 := by decide +kernel
theorem dX7_period_19 : jd cX7_period 19 (.aload_n 0) 1 20 := by decide +kernel
theorem dX7_period_20 : jd cX7_period 20 (.getfield 42) 3 23 := by decide +kernel
theorem dX7_period_23 : jd cX7_period 23 (.iload_n 3) 1 24 := by decide +kernel
theorem dX7_period_24 : jd cX7_period 24 (.iload 4) 2 26 := by decide +kernel
theorem dX7_period_26 : jd cX7_period 26 (.invokevirtual 168) 3 29 := by decide +kernel
theorem dX7_period_29 : jd cX7_period 29 (.istore 6) 2 31 := by decide +kernel
theorem dX7_period_31 : jd cX7_period 31 (.aload_n 0) 1 32 := by decide +kernel
theorem dX7_period_32 : jd cX7_period 32 (.aload_n 0) 1 33 := by decide +kernel
theorem dX7_period_33 : jd cX7_period 33 (.getfield 42) 3 36 := by decide +kernel
theorem dX7_period_36 : jd cX7_period 36 (.getfield 171) 3 39 := by decide +kernel
theorem dX7_period_39 : jd cX7_period 39 (.iload 6) 2 41 := by decide +kernel
theorem dX7_period_41 : jd cX7_period 41 .iaload 1 42 := by decide +kernel
theorem dX7_period_42 : jd cX7_period 42 .i2l 1 43 := by decide +kernel
theorem dX7_period_43 : jd cX7_period 43 (.invokevirtual 115) 3 46 := by decide +kernel
theorem dX7_period_46 : jd cX7_period 46 .pop 1 47 := by decide +kernel
theorem dX7_period_47 : jd cX7_period 47 (.iload 6) 2 49 := by decide +kernel
theorem dX7_period_49 : jd cX7_period 49 .ireturn 1 50 := by decide +kernel
theorem dX7_asWell_0 : jd cX7_asWell 0 (.iload 5) 2 2 := by decide +kernel
theorem dX7_asWell_2 : jt cX7_asWell 2 (.ifCond .lt 10) 10 12 5 := by decide +kernel
theorem dX7_asWell_5 : jd cX7_asWell 5 (.iload 5) 2 7 := by decide +kernel
theorem dX7_asWell_7 : jd cX7_asWell 7 (.bipush 100) 2 9 := by decide +kernel
theorem dX7_asWell_9 : jt cX7_asWell 9 (.if_icmp .le 5) 5 14 12 := by decide +kernel
theorem dX7_asWell_12 : jd cX7_asWell 12 (.iconst (-1)) 1 13 := by decide +kernel
theorem dX7_asWell_13 : jd cX7_asWell 13 .ireturn 1 14 := by decide +kernel
theorem dX7_asWell_14 : jd cX7_asWell 14 (.aload_n 0) 1 15 := by decide +kernel
theorem dX7_asWell_15 : jd cX7_asWell 15 (.iload_n 1) 1 16 := by decide +kernel
theorem dX7_asWell_16 : jd cX7_asWell 16 (.iload_n 2) 1 17 := by decide +kernel
theorem dX7_asWell_17 : jd cX7_asWell 17 (.iload_n 3) 1 18 := by decide +kernel
theorem dX7_asWell_18 : jd cX7_asWell 18 (.iload 4) 2 20 := by decide +kernel
theorem dX7_asWell_20 : jd cX7_asWell 20 (.invokevirtual 164) 3 23 := by decide +kernel
theorem dX7_asWell_23 : jd cX7_asWell 23 (.istore 6) 2 25 := by decide +kernel
theorem dX7_asWell_25 : jd cX7_asWell 25 (.iload 6) 2 27 := by decide +kernel
theorem dX7_asWell_27 : jt cX7_asWell 27 (.ifCond .eq 6) 6 33 30 := by decide +kernel
theorem dX7_asWell_30 : jd cX7_asWell 30 (.iload 6) 2 32 := by decide +kernel
theorem dX7_asWell_32 : jd cX7_asWell 32 .ireturn 1 33 := by decide +kernel
theorem dX7_asWell_33 : jd cX7_asWell 33 (.aload_n 0) 1 34 := by decide +kernel
theorem dX7_asWell_34 : jd cX7_asWell 34 (.getfield 42) 3 37 := by decide +kernel
theorem dX7_asWell_37 : jd cX7_asWell 37 (.iload_n 3) 1 38 := by decide +kernel
theorem dX7_asWell_38 : jd cX7_asWell 38 (.iload 4) 2 40 := by decide +kernel
theorem dX7_asWell_40 : jd cX7_asWell 40 (.invokevirtual 168) 3 43 := by decide +kernel
theorem dX7_asWell_43 : jd cX7_asWell 43 (.istore 7) 2 45 := by decide +kernel
theorem dX7_asWell_45 : jd cX7_asWell 45 (.ldc2_w 174) 3 48 := by decide +kernel
theorem dX7_asWell_48 : jd cX7_asWell 48 (.iload 5) 2 50 := by decide +kernel
theorem dX7_asWell_50 : jd cX7_asWell 50 .i2l 1 51 := by decide +kernel
theorem dX7_asWell_51 : jd cX7_asWell 51 .ladd 1 52 := by decide +kernel
theorem dX7_asWell_52 : jd cX7_asWell 52 (.aload_n 0) 1 53 := by decide +kernel
theorem dX7_asWell_53 : jd cX7_asWell 53 (.getfield 42) 3 56 := by decide +kernel
theorem dX7_asWell_56 : jd cX7_asWell 56 (.getfield 171) 3 59 := by decide +kernel
theorem dX7_asWell_59 : jd cX7_asWell 59 (.iload 7) 2 61 := by decide +kernel
theorem dX7_asWell_61 : jd cX7_asWell 61 .iaload 1 62 := by decide +kernel
theorem dX7_asWell_62 : jd cX7_asWell 62 .i2l 1 63 := by decide +kernel
theorem dX7_asWell_63 : jd cX7_asWell 63 .lmul 1 64 := by decide +kernel
theorem dX7_asWell_64 : jd cX7_asWell 64 (.lstore 8) 2 66 := by decide +kernel
theorem dX7_asWell_66 : jd cX7_asWell 66 (.iconst 0) 1 67 := by decide +kernel
theorem dX7_asWell_67 : jd cX7_asWell 67 (.istore 10) 2 69 := by decide +kernel
theorem dX7_asWell_69 : jd cX7_asWell 69 (.iload_n 3) 1 70 := by decide +kernel
theorem dX7_asWell_70 : jd cX7_asWell 70 (.istore 11) 2 72 := by decide +kernel
theorem dX7_asWell_72 : jd cX7_asWell 72 (.iload 11) 2 74 := by decide +kernel
theorem dX7_asWell_74 : jd cX7_asWell 74 (.iload 4) 2 76 := by decide +kernel
theorem dX7_asWell_76 : jt cX7_asWell 76 (.if_icmp .gt 40) 40 116 79 := by decide +kernel
theorem dX7_asWell_79 : jd cX7_asWell 79 (.iload 11) 2 81 := by decide +kernel
theorem dX7_asWell_81 : jd cX7_asWell 81 (.iload 7) 2 83 := by decide +kernel
theorem dX7_asWell_83 : jt cX7_asWell 83 (.if_icmp .eq 27) 27 110 86 := by decide +kernel
theorem dX7_asWell_86 : jd cX7_asWell 86 (.ldc2_w 174) 3 89 := by decide +kernel
theorem dX7_asWell_89 : jd cX7_asWell 89 (.aload_n 0) 1 90 := by decide +kernel
theorem dX7_asWell_90 : jd cX7_asWell 90 (.getfield 42) 3 93 := by decide +kernel
theorem dX7_asWell_93 : jd cX7_asWell 93 (.getfield 171) 3 96 := by decide +kernel
theorem dX7_asWell_96 : jd cX7_asWell 96 (.iload 11) 2 98 := by decide +kernel
theorem dX7_asWell_98 : jd cX7_asWell 98 .iaload 1 99 := by decide +kernel
theorem dX7_asWell_99 : jd cX7_asWell 99 .i2l 1 100 := by decide +kernel
theorem dX7_asWell_100 : jd cX7_asWell 100 .lmul 1 101 := by decide +kernel
theorem dX7_asWell_101 : jd cX7_asWell 101 (.lload 8) 2 103 := by decide +kernel
theorem dX7_asWell_103 : jd cX7_asWell 103 .lcmp 1 104 := by decide +kernel
theorem dX7_asWell_104 : jt cX7_asWell 104 (.ifCond .gt 6) 6 110 107 := by decide +kernel
theorem dX7_asWell_107 : jd cX7_asWell 107 (.iinc 10 1) 3 110 := by decide +kernel
theorem dX7_asWell_110 : jd cX7_asWell 110 (.iinc 11 1) 3 113 := by decide +kernel
theorem dX7_asWell_113 : jt cX7_asWell 113 (.goto (-41)) (-41) 72 116 := by decide +kernel
theorem dX7_asWell_116 : jd cX7_asWell 116 (.iload 10) 2 118 := by decide +kernel
theorem dX7_asWell_118 : jd cX7_asWell 118 .ireturn 1 119 := by decide +kernel
theorem dX7_depth_0 : jd cX7_depth 0 (.iload_n 2) 1 1 := by decide +kernel
theorem dX7_depth_1 : jd cX7_depth 1 (.iconst 2) 1 2 := by decide +kernel
theorem dX7_depth_2 : jt cX7_depth 2 (.if_icmp .lt 37) 37 39 5 := by decide +kernel
theorem dX7_depth_5 : jd cX7_depth 5 (.iload_n 2) 1 6 := by decide +kernel
theorem dX7_depth_6 : jd cX7_depth 6 (.sipush 600) 3 9 := by decide +kernel
theorem dX7_depth_9 : jt cX7_depth 9 (.if_icmp .gt 30) 30 39 12 := by decide +kernel
theorem dX7_depth_12 : jd cX7_depth 12 (.iload_n 3) 1 13 := by decide +kernel
theorem dX7_depth_13 : jd cX7_depth 13 (.iconst 1) 1 14 := by decide +kernel
theorem dX7_depth_14 : jt cX7_depth 14 (.if_icmp .lt 25) 25 39 17 := by decide +kernel
theorem dX7_depth_17 : jd cX7_depth 17 (.iload_n 3) 1 18 := by decide +kernel
theorem dX7_depth_18 : jd cX7_depth 18 (.bipush 30) 2 20 := by decide +kernel
theorem dX7_depth_20 : jt cX7_depth 20 (.if_icmp .gt 19) 19 39 23 := by decide +kernel
theorem dX7_depth_23 : jd cX7_depth 23 (.iload_n 3) 1 24 := by decide +kernel
theorem dX7_depth_24 : jd cX7_depth 24 (.iload_n 2) 1 25 := by decide +kernel
theorem dX7_depth_25 : jt cX7_depth 25 (.if_icmp .ge 14) 14 39 28 := by decide +kernel
theorem dX7_depth_28 : jd cX7_depth 28 (.iload 4) 2 30 := by decide +kernel
theorem dX7_depth_30 : jt cX7_depth 30 (.ifCond .lt 9) 9 39 33 := by decide +kernel
theorem dX7_depth_33 : jd cX7_depth 33 (.iload 4) 2 35 := by decide +kernel
theorem dX7_depth_35 : jd cX7_depth 35 (.iload_n 2) 1 36 := by decide +kernel
theorem dX7_depth_36 : jt cX7_depth 36 (.if_icmp .lt 5) 5 41 39 := by decide +kernel
theorem dX7_depth_39 : jd cX7_depth 39 (.iconst (-1)) 1 40 := by decide +kernel
theorem dX7_depth_40 : jd cX7_depth 40 .ireturn 1 41 := by decide +kernel
theorem dX7_depth_41 : jd cX7_depth 41 (.aload_n 0) 1 42 := by decide +kernel
theorem dX7_depth_42 : jd cX7_depth 42 (.iload_n 1) 1 43 := by decide +kernel
theorem dX7_depth_43 : jd cX7_depth 43 (.invokevirtual 94) 3 46 := by decide +kernel
theorem dX7_depth_46 : jd cX7_depth 46 (.istore 5) 2 48 := by decide +kernel
theorem dX7_depth_48 : jd cX7_depth 48 (.iload 5) 2 50 := by decide +kernel
theorem dX7_depth_50 : jt cX7_depth 50 (.ifCond .eq 6) 6 56 53 := by decide +kernel
theorem dX7_depth_53 : jd cX7_depth 53 (.iload 5) 2 55 := by decide +kernel
theorem dX7_depth_55 : jd cX7_depth 55 .ireturn 1 56 := by decide +kernel
theorem dX7_depth_56 : jd cX7_depth 56 (.lconst 0) 1 57 := by decide +kernel
theorem dX7_depth_57 : jd cX7_depth 57 (.lstore 6) 2 59 := by decide +kernel
theorem dX7_depth_59 : jd cX7_depth 59 (.iconst 0) 1 60 := by decide +kernel
theorem dX7_depth_60 : jd cX7_depth 60 (.istore 8) 2 62 := by decide +kernel
theorem dX7_depth_62 : jd cX7_depth 62 (.iconst 0) 1 63 := by decide +kernel
theorem dX7_depth_63 : jd cX7_depth 63 (.istore 9) 2 65 := by decide +kernel
theorem dX7_depth_65 : jd cX7_depth 65 (.iload 9) 2 67 := by decide +kernel
theorem dX7_depth_67 : jd cX7_depth 67 (.aload_n 0) 1 68 := by decide +kernel
theorem dX7_depth_68 : jd cX7_depth 68 (.getfield 28) 3 71 := by decide +kernel
theorem dX7_depth_71 : jd cX7_depth 71 (.getfield 176) 3 74 := by decide +kernel
theorem dX7_depth_74 : jt cX7_depth 74 (.if_icmp .ge 54) 54 128 77 := by decide +kernel
theorem dX7_depth_77 : jd cX7_depth 77 (.aload_n 0) 1 78 := by decide +kernel
theorem dX7_depth_78 : jd cX7_depth 78 (.getfield 28) 3 81 := by decide +kernel
theorem dX7_depth_81 : jd cX7_depth 81 (.getfield 179) 3 84 := by decide +kernel
theorem dX7_depth_84 : jd cX7_depth 84 (.iload 9) 2 86 := by decide +kernel
theorem dX7_depth_86 : jd cX7_depth 86 .iaload 1 87 := by decide +kernel
theorem dX7_depth_87 : jd cX7_depth 87 (.iload_n 2) 1 88 := by decide +kernel
theorem dX7_depth_88 : jd cX7_depth 88 (.iconst 1) 1 89 := by decide +kernel
theorem dX7_depth_89 : jd cX7_depth 89 (.invokestatic 156) 3 92 := by decide +kernel
theorem dX7_depth_92 : jd cX7_depth 92 (.iload 4) 2 94 := by decide +kernel
theorem dX7_depth_94 : jd cX7_depth 94 .isub 1 95 := by decide +kernel
theorem dX7_depth_95 : jd cX7_depth 95 (.iload_n 2) 1 96 := by decide +kernel
theorem dX7_depth_96 : jd cX7_depth 96 (.invokestatic 182) 3 99 := by decide +kernel
theorem dX7_depth_99 : jd cX7_depth 99 (.iload_n 3) 1 100 := by decide +kernel
theorem dX7_depth_100 : jt cX7_depth 100 (.if_icmp .ge 22) 22 122 103 := by decide +kernel
theorem dX7_depth_103 : jd cX7_depth 103 (.lload 6) 2 105 := by decide +kernel
theorem dX7_depth_105 : jd cX7_depth 105 (.aload_n 0) 1 106 := by decide +kernel
theorem dX7_depth_106 : jd cX7_depth 106 (.getfield 28) 3 109 := by decide +kernel
theorem dX7_depth_109 : jd cX7_depth 109 (.getfield 187) 3 112 := by decide +kernel
theorem dX7_depth_112 : jd cX7_depth 112 (.iload 9) 2 114 := by decide +kernel
theorem dX7_depth_114 : jd cX7_depth 114 .iaload 1 115 := by decide +kernel
theorem dX7_depth_115 : jd cX7_depth 115 .i2l 1 116 := by decide +kernel
theorem dX7_depth_116 : jd cX7_depth 116 .ladd 1 117 := by decide +kernel
theorem dX7_depth_117 : jd cX7_depth 117 (.lstore 6) 2 119 := by decide +kernel
theorem dX7_depth_119 : jd cX7_depth 119 (.iinc 8 1) 3 122 := by decide +kernel
theorem dX7_depth_122 : jd cX7_depth 122 (.iinc 9 1) 3 125 := by decide +kernel
theorem dX7_depth_125 : jt cX7_depth 125 (.goto (-60)) (-60) 65 128 := by decide +kernel
theorem dX7_depth_128 : jd cX7_depth 128 (.aload_n 0) 1 129 := by decide +kernel
theorem dX7_depth_129 : jd cX7_depth 129 (.getfield 28) 3 132 := by decide +kernel
theorem dX7_depth_132 : jd cX7_depth 132 (.getfield 176) 3 135 := by decide +kernel
theorem dX7_depth_135 : jd cX7_depth 135 (.iload 8) 2 137 := by decide +kernel
theorem dX7_depth_137 : jd cX7_depth 137 .isub 1 138 := by decide +kernel
theorem dX7_depth_138 : jd cX7_depth 138 (.istore 9) 2 140 := by decide +kernel
theorem dX7_depth_140 : jd cX7_depth 140 (.iload 8) 2 142 := by decide +kernel
theorem dX7_depth_142 : jt cX7_depth 142 (.ifCond .eq 8) 8 150 145 := by decide +kernel
theorem dX7_depth_145 : jd cX7_depth 145 (.iload 9) 2 147 := by decide +kernel
theorem dX7_depth_147 : jt cX7_depth 147 (.ifCond .ne 6) 6 153 150 := by decide +kernel
theorem dX7_depth_150 : jd cX7_depth 150 (.bipush (-9)) 2 152 := by decide +kernel
theorem dX7_depth_152 : jd cX7_depth 152 .ireturn 1 153 := by decide +kernel
theorem dX7_depth_153 : jd cX7_depth 153 (.aload_n 0) 1 154 := by decide +kernel
theorem dX7_depth_154 : jd cX7_depth 154 (.aload_n 0) 1 155 := by decide +kernel
theorem dX7_depth_155 : jd cX7_depth 155 (.getfield 28) 3 158 := by decide +kernel
theorem dX7_depth_158 : jd cX7_depth 158 (.invokevirtual 188) 3 161 := by decide +kernel
theorem dX7_depth_161 : jd cX7_depth 161 (.lload 6) 2 163 := by decide +kernel
theorem dX7_depth_163 : jd cX7_depth 163 .lsub 1 164 := by decide +kernel
theorem dX7_depth_164 : jd cX7_depth 164 (.iload 8) 2 166 := by decide +kernel
theorem dX7_depth_166 : jd cX7_depth 166 .i2l 1 167 := by decide +kernel
theorem dX7_depth_167 : jd cX7_depth 167 .lmul 1 168 := by decide +kernel
theorem dX7_depth_168 : jd cX7_depth 168 (.lload 6) 2 170 := by decide +kernel
theorem dX7_depth_170 : jd cX7_depth 170 (.iload 9) 2 172 := by decide +kernel
theorem dX7_depth_172 : jd cX7_depth 172 .i2l 1 173 := by decide +kernel
theorem dX7_depth_173 : jd cX7_depth 173 .lmul 1 174 := by decide +kernel
theorem dX7_depth_174 : jd cX7_depth 174 .lsub 1 175 := by decide +kernel
theorem dX7_depth_175 : jd cX7_depth 175 (.invokevirtual 115) 3 178 := by decide +kernel
theorem dX7_depth_178 : jd cX7_depth 178 .ireturn 1 179 := by decide +kernel
theorem dX7_dip_0 : jd cX7_dip 0 (.iload_n 2) 1 1 := by decide +kernel
theorem dX7_dip_1 : jd cX7_dip 1 (.iconst 2) 1 2 := by decide +kernel
theorem dX7_dip_2 : jt cX7_dip 2 (.if_icmp .lt 21) 21 23 5 := by decide +kernel
theorem dX7_dip_5 : jd cX7_dip 5 (.iload_n 2) 1 6 := by decide +kernel
theorem dX7_dip_6 : jd cX7_dip 6 (.sipush 600) 3 9 := by decide +kernel
theorem dX7_dip_9 : jt cX7_dip 9 (.if_icmp .gt 14) 14 23 12 := by decide +kernel
theorem dX7_dip_12 : jd cX7_dip 12 (.iload_n 3) 1 13 := by decide +kernel
theorem dX7_dip_13 : jd cX7_dip 13 (.iconst 1) 1 14 := by decide +kernel
theorem dX7_dip_14 : jt cX7_dip 14 (.if_icmp .lt 9) 9 23 17 := by decide +kernel
theorem dX7_dip_17 : jd cX7_dip 17 (.iload_n 3) 1 18 := by decide +kernel
theorem dX7_dip_18 : jd cX7_dip 18 (.bipush 30) 2 20 := by decide +kernel
theorem dX7_dip_20 : jt cX7_dip 20 (.if_icmp .le 5) 5 25 23 := by decide +kernel
theorem dX7_dip_23 : jd cX7_dip 23 (.iconst (-1)) 1 24 := by decide +kernel
theorem dX7_dip_24 : jd cX7_dip 24 .ireturn 1 25 := by decide +kernel
theorem dX7_dip_25 : jd cX7_dip 25 (.aload_n 0) 1 26 := by decide +kernel
theorem dX7_dip_26 : jd cX7_dip 26 (.iload_n 1) 1 27 := by decide +kernel
theorem dX7_dip_27 : jd cX7_dip 27 (.invokevirtual 94) 3 30 := by decide +kernel
theorem dX7_dip_30 : jd cX7_dip 30 (.istore 4) 2 32 := by decide +kernel
theorem dX7_dip_32 : jd cX7_dip 32 (.iload 4) 2 34 := by decide +kernel
theorem dX7_dip_34 : jt cX7_dip 34 (.ifCond .eq 6) 6 40 37 := by decide +kernel
theorem dX7_dip_37 : jd cX7_dip 37 (.iload 4) 2 39 := by decide +kernel
theorem dX7_dip_39 : jd cX7_dip 39 .ireturn 1 40 := by decide +kernel
theorem dX7_dip_40 : jd cX7_dip 40 (.aload_n 0) 1 41 := by decide +kernel
theorem dX7_dip_41 : jd cX7_dip 41 (.getfield 56) 3 44 := by decide +kernel
theorem dX7_dip_44 : jd cX7_dip 44 (.aload_n 0) 1 45 := by decide +kernel
theorem dX7_dip_45 : jd cX7_dip 45 (.getfield 28) 3 48 := by decide +kernel
theorem dX7_dip_48 : jd cX7_dip 48 (.iload_n 2) 1 49 := by decide +kernel
theorem dX7_dip_49 : jd cX7_dip 49 (.iload_n 3) 1 50 := by decide +kernel
theorem dX7_dip_50 : jd cX7_dip 50 (.invokevirtual 191) 3 53 := by decide +kernel
theorem dX7_dip_53 : jt cX7_dip 53 (.ifCond .eq 13) 13 66 56 := by decide +kernel
theorem dX7_dip_56 : jd cX7_dip 56 (.aload_n 0) 1 57 := by decide +kernel
theorem dX7_dip_57 : jd cX7_dip 57 (.getfield 56) 3 60 := by decide +kernel
theorem dX7_dip_60 : jd cX7_dip 60 (.getfield 195) 3 63 := by decide +kernel
theorem dX7_dip_63 : jt cX7_dip 63 (.goto 5) 5 68 66 := by decide +kernel
theorem dX7_dip_66 : jd cX7_dip 66 (.bipush (-9)) 2 68 := by decide +kernel
theorem dX7_dip_68 : jd cX7_dip 68 .ireturn 1 69 := by decide +kernel
theorem dX7_dipOf_0 : jd cX7_dipOf 0 (.iload_n 1) 1 1 := by decide +kernel
theorem dX7_dipOf_1 : jd cX7_dipOf 1 (.tableswitch 51 0 2 #[27, 35, 43]) 27 28 := by decide +kernel
theorem dX7_dipOf_28 : jd cX7_dipOf 28 (.aload_n 0) 1 29 := by decide +kernel
theorem dX7_dipOf_29 : jd cX7_dipOf 29 (.getfield 56) 3 32 := by decide +kernel
theorem dX7_dipOf_32 : jd cX7_dipOf 32 (.getfield 195) 3 35 := by decide +kernel
theorem dX7_dipOf_35 : jd cX7_dipOf 35 .ireturn 1 36 := by decide +kernel
theorem dX7_dipOf_36 : jd cX7_dipOf 36 (.aload_n 0) 1 37 := by decide +kernel
theorem dX7_dipOf_37 : jd cX7_dipOf 37 (.getfield 56) 3 40 := by decide +kernel
theorem dX7_dipOf_40 : jd cX7_dipOf 40 (.getfield 198) 3 43 := by decide +kernel
theorem dX7_dipOf_43 : jd cX7_dipOf 43 .ireturn 1 44 := by decide +kernel
theorem dX7_dipOf_44 : jd cX7_dipOf 44 (.aload_n 0) 1 45 := by decide +kernel
theorem dX7_dipOf_45 : jd cX7_dipOf 45 (.getfield 56) 3 48 := by decide +kernel
theorem dX7_dipOf_48 : jd cX7_dipOf 48 (.getfield 201) 3 51 := by decide +kernel
theorem dX7_dipOf_51 : jd cX7_dipOf 51 .ireturn 1 52 := by decide +kernel
theorem dX7_dipOf_52 : jd cX7_dipOf 52 (.iconst (-1)) 1 53 := by decide +kernel
theorem dX7_dipOf_53 : jd cX7_dipOf 53 .ireturn 1 54 := by decide +kernel
theorem dX7_lows_0 : jd cX7_lows 0 (.aload_n 0) 1 1 := by decide +kernel
theorem dX7_lows_1 : jd cX7_lows 1 (.iload_n 1) 1 2 := by decide +kernel
theorem dX7_lows_2 : jd cX7_lows 2 (.iload_n 2) 1 3 := by decide +kernel
theorem dX7_lows_3 : jd cX7_lows 3 (.invokevirtual 204) 3 6 := by decide +kernel
theorem dX7_lows_6 : jd cX7_lows 6 (.istore_n 3) 1 7 := by decide +kernel
theorem dX7_lows_7 : jd cX7_lows 7 (.iload_n 3) 1 8 := by decide +kernel
theorem dX7_lows_8 : jt cX7_lows 8 (.ifCond .ne 13) 13 21 11 := by decide +kernel
theorem dX7_lows_11 : jd cX7_lows 11 (.aload_n 0) 1 12 := by decide +kernel
theorem dX7_lows_12 : jd cX7_lows 12 (.getfield 49) 3 15 := by decide +kernel
theorem dX7_lows_15 : jd cX7_lows 15 (.getfield 207) 3 18 := by decide +kernel
theorem dX7_lows_18 : jt cX7_lows 18 (.goto 4) 4 22 21 := by decide +kernel
theorem dX7_lows_21 : jd cX7_lows 21 (.iload_n 3) 1 22 := by decide +kernel
theorem dX7_lows_22 : jd cX7_lows 22 .ireturn 1 23 := by decide +kernel
theorem dX7_low_0 : jd cX7_low 0 (.aload_n 0) 1 1 := by decide +kernel
theorem dX7_low_1 : jd cX7_low 1 (.iload_n 1) 1 2 := by decide +kernel
theorem dX7_low_2 : jd cX7_low 2 (.iload_n 2) 1 3 := by decide +kernel
theorem dX7_low_3 : jd cX7_low 3 (.invokevirtual 204) 3 6 := by decide +kernel
theorem dX7_low_6 : jd cX7_low 6 (.istore 4) 2 8 := by decide +kernel
theorem dX7_low_8 : jd cX7_low 8 (.iload 4) 2 10 := by decide +kernel
theorem dX7_low_10 : jt cX7_low 10 (.ifCond .eq 6) 6 16 13 := by decide +kernel
theorem dX7_low_13 : jd cX7_low 13 (.iload 4) 2 15 := by decide +kernel
theorem dX7_low_15 : jd cX7_low 15 .ireturn 1 16 := by decide +kernel
theorem dX7_low_16 : jd cX7_low 16 (.aload_n 0) 1 17 := by decide +kernel
theorem dX7_low_17 : jd cX7_low 17 (.getfield 49) 3 20 := by decide +kernel
theorem dX7_low_20 : jd cX7_low 20 (.iload_n 3) 1 21 := by decide +kernel
theorem dX7_low_21 : jd cX7_low 21 (.invokevirtual 208) 3 24 := by decide +kernel
theorem dX7_low_24 : jt cX7_low 24 (.ifCond .eq 15) 15 39 27 := by decide +kernel
theorem dX7_low_27 : jd cX7_low 27 (.aload_n 0) 1 28 := by decide +kernel
theorem dX7_low_28 : jd cX7_low 28 (.getfield 49) 3 31 := by decide +kernel
theorem dX7_low_31 : jd cX7_low 31 (.getfield 211) 3 34 := by decide +kernel
theorem dX7_low_34 : jd cX7_low 34 (.iload_n 3) 1 35 := by decide +kernel
theorem dX7_low_35 : jd cX7_low 35 .iaload 1 36 := by decide +kernel
theorem dX7_low_36 : jt cX7_low 36 (.goto 5) 5 41 39 := by decide +kernel
theorem dX7_low_39 : jd cX7_low 39 (.bipush (-9)) 2 41 := by decide +kernel
theorem dX7_low_41 : jd cX7_low 41 .ireturn 1 42 := by decide +kernel
theorem dX7_turn_0 : jd cX7_turn 0 (.aload_n 0) 1 1 := by decide +kernel
theorem dX7_turn_1 : jd cX7_turn 1 (.iload_n 1) 1 2 := by decide +kernel
theorem dX7_turn_2 : jd cX7_turn 2 (.iload_n 2) 1 3 := by decide +kernel
theorem dX7_turn_3 : jd cX7_turn 3 (.iload 4) 2 5 := by decide +kernel
theorem dX7_turn_5 : jd cX7_turn 5 (.iload 5) 2 7 := by decide +kernel
theorem dX7_turn_7 : jd cX7_turn 7 (.iload 6) 2 9 := by decide +kernel
theorem dX7_turn_9 : jd cX7_turn 9 (.invokevirtual 212) 3 12 := by decide +kernel
theorem dX7_turn_12 : jd cX7_turn 12 (.istore 7) 2 14 := by decide +kernel
theorem dX7_turn_14 : jd cX7_turn 14 (.iload 7) 2 16 := by decide +kernel
theorem dX7_turn_16 : jt cX7_turn 16 (.ifCond .eq 6) 6 22 19 := by decide +kernel
theorem dX7_turn_19 : jd cX7_turn 19 (.iload 7) 2 21 := by decide +kernel
theorem dX7_turn_21 : jd cX7_turn 21 .ireturn 1 22 := by decide +kernel
theorem dX7_turn_22 : jd cX7_turn 22 (.aload_n 0) 1 23 := by decide +kernel
theorem dX7_turn_23 : jd cX7_turn 23 (.getfield 49) 3 26 := by decide +kernel
theorem dX7_turn_26 : jd cX7_turn 26 (.iload_n 3) 1 27 := by decide +kernel
theorem dX7_turn_27 : jd cX7_turn 27 (.invokevirtual 208) 3 30 := by decide +kernel
theorem dX7_turn_30 : jt cX7_turn 30 (.ifCond .eq 29) 29 59 33 := by decide +kernel
theorem dX7_turn_33 : jd cX7_turn 33 (.aload_n 0) 1 34 := by decide +kernel
theorem dX7_turn_34 : jd cX7_turn 34 (.aload_n 0) 1 35 := by decide +kernel
theorem dX7_turn_35 : jd cX7_turn 35 (.getfield 49) 3 38 := by decide +kernel
theorem dX7_turn_38 : jd cX7_turn 38 (.getfield 211) 3 41 := by decide +kernel
theorem dX7_turn_41 : jd cX7_turn 41 (.iload_n 3) 1 42 := by decide +kernel
theorem dX7_turn_42 : jd cX7_turn 42 .iaload 1 43 := by decide +kernel
theorem dX7_turn_43 : jd cX7_turn 43 (.iload 4) 2 45 := by decide +kernel
theorem dX7_turn_45 : jd cX7_turn 45 (.iload 5) 2 47 := by decide +kernel
theorem dX7_turn_47 : jd cX7_turn 47 (.iload 6) 2 49 := by decide +kernel
theorem dX7_turn_49 : jd cX7_turn 49 (.invokestatic 216) 3 52 := by decide +kernel
theorem dX7_turn_52 : jd cX7_turn 52 .i2l 1 53 := by decide +kernel
theorem dX7_turn_53 : jd cX7_turn 53 (.invokevirtual 115) 3 56 := by decide +kernel
theorem dX7_turn_56 : jt cX7_turn 56 (.goto 5) 5 61 59 := by decide +kernel
theorem dX7_turn_59 : jd cX7_turn 59 (.bipush (-9)) 2 61 := by decide +kernel
theorem dX7_turn_61 : jd cX7_turn 61 .ireturn 1 62 := by decide +kernel
theorem dX7_late_0 : jd cX7_late 0 (.aload_n 0) 1 1 := by decide +kernel
theorem dX7_late_1 : jd cX7_late 1 (.iload_n 1) 1 2 := by decide +kernel
theorem dX7_late_2 : jd cX7_late 2 (.iload_n 2) 1 3 := by decide +kernel
theorem dX7_late_3 : jd cX7_late 3 (.iload 4) 2 5 := by decide +kernel
theorem dX7_late_5 : jd cX7_late 5 (.iload 5) 2 7 := by decide +kernel
theorem dX7_late_7 : jd cX7_late 7 (.iload 6) 2 9 := by decide +kernel
theorem dX7_late_9 : jd cX7_late 9 (.invokevirtual 212) 3 12 := by decide +kernel
theorem dX7_late_12 : jd cX7_late 12 (.istore 7) 2 14 := by decide +kernel
theorem dX7_late_14 : jd cX7_late 14 (.iload 7) 2 16 := by decide +kernel
theorem dX7_late_16 : jt cX7_late 16 (.ifCond .eq 6) 6 22 19 := by decide +kernel
theorem dX7_late_19 : jd cX7_late 19 (.iload 7) 2 21 := by decide +kernel
theorem dX7_late_21 : jd cX7_late 21 .ireturn 1 22 := by decide +kernel
theorem dX7_late_22 : jd cX7_late 22 (.aload_n 0) 1 23 := by decide +kernel
theorem dX7_late_23 : jd cX7_late 23 (.getfield 49) 3 26 := by decide +kernel
theorem dX7_late_26 : jd cX7_late 26 (.iload_n 3) 1 27 := by decide +kernel
theorem dX7_late_27 : jd cX7_late 27 (.invokevirtual 208) 3 30 := by decide +kernel
theorem dX7_late_30 : jt cX7_late 30 (.ifCond .eq 29) 29 59 33 := by decide +kernel
theorem dX7_late_33 : jd cX7_late 33 (.aload_n 0) 1 34 := by decide +kernel
theorem dX7_late_34 : jd cX7_late 34 (.aload_n 0) 1 35 := by decide +kernel
theorem dX7_late_35 : jd cX7_late 35 (.getfield 49) 3 38 := by decide +kernel
theorem dX7_late_38 : jd cX7_late 38 (.getfield 211) 3 41 := by decide +kernel
theorem dX7_late_41 : jd cX7_late 41 (.iload_n 3) 1 42 := by decide +kernel
theorem dX7_late_42 : jd cX7_late 42 .iaload 1 43 := by decide +kernel
theorem dX7_late_43 : jd cX7_late 43 (.iload 4) 2 45 := by decide +kernel
theorem dX7_late_45 : jd cX7_late 45 (.iload 5) 2 47 := by decide +kernel
theorem dX7_late_47 : jd cX7_late 47 (.iload 6) 2 49 := by decide +kernel
theorem dX7_late_49 : jd cX7_late 49 (.invokestatic 219) 3 52 := by decide +kernel
theorem dX7_late_52 : jd cX7_late 52 .i2l 1 53 := by decide +kernel
theorem dX7_late_53 : jd cX7_late 53 (.invokevirtual 115) 3 56 := by decide +kernel
theorem dX7_late_56 : jt cX7_late 56 (.goto 5) 5 61 59 := by decide +kernel
theorem dX7_late_59 : jd cX7_late 59 (.bipush (-9)) 2 61 := by decide +kernel
theorem dX7_late_61 : jd cX7_late 61 .ireturn 1 62 := by decide +kernel
theorem dX7_bent_0 : jd cX7_bent 0 (.aload_n 0) 1 1 := by decide +kernel
theorem dX7_bent_1 : jd cX7_bent 1 (.iload_n 1) 1 2 := by decide +kernel
theorem dX7_bent_2 : jd cX7_bent 2 (.iload_n 2) 1 3 := by decide +kernel
theorem dX7_bent_3 : jd cX7_bent 3 (.iload 4) 2 5 := by decide +kernel
theorem dX7_bent_5 : jd cX7_bent 5 (.iload 5) 2 7 := by decide +kernel
theorem dX7_bent_7 : jd cX7_bent 7 (.iload 6) 2 9 := by decide +kernel
theorem dX7_bent_9 : jd cX7_bent 9 (.invokevirtual 212) 3 12 := by decide +kernel
theorem dX7_bent_12 : jd cX7_bent 12 (.istore 7) 2 14 := by decide +kernel
theorem dX7_bent_14 : jd cX7_bent 14 (.iload 7) 2 16 := by decide +kernel
theorem dX7_bent_16 : jt cX7_bent 16 (.ifCond .eq 6) 6 22 19 := by decide +kernel
theorem dX7_bent_19 : jd cX7_bent 19 (.iload 7) 2 21 := by decide +kernel
theorem dX7_bent_21 : jd cX7_bent 21 .ireturn 1 22 := by decide +kernel
theorem dX7_bent_22 : jd cX7_bent 22 (.aload_n 0) 1 23 := by decide +kernel
theorem dX7_bent_23 : jd cX7_bent 23 (.getfield 49) 3 26 := by decide +kernel
theorem dX7_bent_26 : jd cX7_bent 26 (.iload_n 3) 1 27 := by decide +kernel
theorem dX7_bent_27 : jd cX7_bent 27 (.invokevirtual 208) 3 30 := by decide +kernel
theorem dX7_bent_30 : jt cX7_bent 30 (.ifCond .eq 16) 16 46 33 := by decide +kernel
theorem dX7_bent_33 : jd cX7_bent 33 (.aload_n 0) 1 34 := by decide +kernel
theorem dX7_bent_34 : jd cX7_bent 34 (.getfield 49) 3 37 := by decide +kernel
theorem dX7_bent_37 : jd cX7_bent 37 (.iload_n 3) 1 38 := by decide +kernel
theorem dX7_bent_38 : jd cX7_bent 38 (.iconst 2) 1 39 := by decide +kernel
theorem dX7_bent_39 : jd cX7_bent 39 .iadd 1 40 := by decide +kernel
theorem dX7_bent_40 : jd cX7_bent 40 (.invokevirtual 208) 3 43 := by decide +kernel
theorem dX7_bent_43 : jt cX7_bent 43 (.ifCond .ne 6) 6 49 46 := by decide +kernel
theorem dX7_bent_46 : jd cX7_bent 46 (.bipush (-9)) 2 48 := by decide +kernel
theorem dX7_bent_48 : jd cX7_bent 48 .ireturn 1 49 := by decide +kernel
theorem dX7_bent_49 : jd cX7_bent 49 (.aload_n 0) 1 50 := by decide +kernel
theorem dX7_bent_50 : jd cX7_bent 50 (.getfield 49) 3 53 := by decide +kernel
theorem dX7_bent_53 : jd cX7_bent 53 (.getfield 211) 3 56 := by decide +kernel
theorem dX7_bent_56 : jd cX7_bent 56 (.iload_n 3) 1 57 := by decide +kernel
theorem dX7_bent_57 : jd cX7_bent 57 .iaload 1 58 := by decide +kernel
theorem dX7_bent_58 : jd cX7_bent 58 (.iload 4) 2 60 := by decide +kernel
theorem dX7_bent_60 : jd cX7_bent 60 (.iload 5) 2 62 := by decide +kernel
theorem dX7_bent_62 : jd cX7_bent 62 (.iload 6) 2 64 := by decide +kernel
theorem dX7_bent_64 : jd cX7_bent 64 (.invokestatic 219) 3 67 := by decide +kernel
theorem dX7_bent_67 : jd cX7_bent 67 (.istore 8) 2 69 := by decide +kernel
theorem dX7_bent_69 : jd cX7_bent 69 (.aload_n 0) 1 70 := by decide +kernel
theorem dX7_bent_70 : jd cX7_bent 70 (.getfield 49) 3 73 := by decide +kernel
theorem dX7_bent_73 : jd cX7_bent 73 (.getfield 211) 3 76 := by decide +kernel
theorem dX7_bent_76 : jd cX7_bent 76 (.iload_n 3) 1 77 := by decide +kernel
theorem dX7_bent_77 : jd cX7_bent 77 (.iconst 1) 1 78 := by decide +kernel
theorem dX7_bent_78 : jd cX7_bent 78 .iadd 1 79 := by decide +kernel
theorem dX7_bent_79 : jd cX7_bent 79 .iaload 1 80 := by decide +kernel
theorem dX7_bent_80 : jd cX7_bent 80 (.iload 4) 2 82 := by decide +kernel
theorem dX7_bent_82 : jd cX7_bent 82 (.iload 5) 2 84 := by decide +kernel
theorem dX7_bent_84 : jd cX7_bent 84 (.iload 6) 2 86 := by decide +kernel
theorem dX7_bent_86 : jd cX7_bent 86 (.invokestatic 219) 3 89 := by decide +kernel
theorem dX7_bent_89 : jd cX7_bent 89 (.istore 9) 2 91 := by decide +kernel
theorem dX7_bent_91 : jd cX7_bent 91 (.aload_n 0) 1 92 := by decide +kernel
theorem dX7_bent_92 : jd cX7_bent 92 (.getfield 49) 3 95 := by decide +kernel
theorem dX7_bent_95 : jd cX7_bent 95 (.getfield 211) 3 98 := by decide +kernel
theorem dX7_bent_98 : jd cX7_bent 98 (.iload_n 3) 1 99 := by decide +kernel
theorem dX7_bent_99 : jd cX7_bent 99 (.iconst 2) 1 100 := by decide +kernel
theorem dX7_bent_100 : jd cX7_bent 100 .iadd 1 101 := by decide +kernel
theorem dX7_bent_101 : jd cX7_bent 101 .iaload 1 102 := by decide +kernel
theorem dX7_bent_102 : jd cX7_bent 102 (.iload 4) 2 104 := by decide +kernel
theorem dX7_bent_104 : jd cX7_bent 104 (.iload 5) 2 106 := by decide +kernel
theorem dX7_bent_106 : jd cX7_bent 106 (.iload 6) 2 108 := by decide +kernel
theorem dX7_bent_108 : jd cX7_bent 108 (.invokestatic 219) 3 111 := by decide +kernel
theorem dX7_bent_111 : jd cX7_bent 111 (.istore 10) 2 113 := by decide +kernel
theorem dX7_bent_113 : jd cX7_bent 113 (.aload_n 0) 1 114 := by decide +kernel
theorem dX7_bent_114 : jd cX7_bent 114 (.iload 8) 2 116 := by decide +kernel
theorem dX7_bent_116 : jd cX7_bent 116 (.iconst 2) 1 117 := by decide +kernel
theorem dX7_bent_117 : jd cX7_bent 117 (.iload 9) 2 119 := by decide +kernel
theorem dX7_bent_119 : jd cX7_bent 119 .imul 1 120 := by decide +kernel
theorem dX7_bent_120 : jd cX7_bent 120 .isub 1 121 := by decide +kernel
theorem dX7_bent_121 : jd cX7_bent 121 (.iload 10) 2 123 := by decide +kernel
theorem dX7_bent_123 : jd cX7_bent 123 .iadd 1 124 := by decide +kernel
theorem dX7_bent_124 : jd cX7_bent 124 .i2l 1 125 := by decide +kernel
theorem dX7_bent_125 : jd cX7_bent 125 (.invokevirtual 115) 3 128 := by decide +kernel
theorem dX7_bent_128 : jd cX7_bent 128 .ireturn 1 129 := by decide +kernel
theorem dX7_rule_0 : jd cX7_rule 0 (.iload_n 1) 1 1 := by decide +kernel
theorem dX7_rule_1 : jt cX7_rule 1 (.ifCond .lt 25) 25 26 4 := by decide +kernel
theorem dX7_rule_4 : jd cX7_rule 4 (.iload_n 1) 1 5 := by decide +kernel
theorem dX7_rule_5 : jd cX7_rule 5 (.iconst 3) 1 6 := by decide +kernel
theorem dX7_rule_6 : jt cX7_rule 6 (.if_icmp .gt 20) 20 26 9 := by decide +kernel
theorem dX7_rule_9 : jd cX7_rule 9 (.iload 4) 2 11 := by decide +kernel
theorem dX7_rule_11 : jt cX7_rule 11 (.ifCond .lt 15) 15 26 14 := by decide +kernel
theorem dX7_rule_14 : jd cX7_rule 14 (.iload 4) 2 16 := by decide +kernel
theorem dX7_rule_16 : jd cX7_rule 16 (.bipush 9) 2 18 := by decide +kernel
theorem dX7_rule_18 : jt cX7_rule 18 (.if_icmp .gt 8) 8 26 21 := by decide +kernel
theorem dX7_rule_21 : jd cX7_rule 21 (.iload_n 2) 1 22 := by decide +kernel
theorem dX7_rule_22 : jd cX7_rule 22 (.iload_n 3) 1 23 := by decide +kernel
theorem dX7_rule_23 : jt cX7_rule 23 (.if_icmp .le 5) 5 28 26 := by decide +kernel
theorem dX7_rule_26 : jd cX7_rule 26 (.iconst (-1)) 1 27 := by decide +kernel
theorem dX7_rule_27 : jd cX7_rule 27 .ireturn 1 28 := by decide +kernel
theorem dX7_rule_28 : jd cX7_rule 28 (.aload_n 0) 1 29 := by decide +kernel
theorem dX7_rule_29 : jd cX7_rule 29 (.getfield 222) 3 32 := by decide +kernel
theorem dX7_rule_32 : jd cX7_rule 32 (.bipush 10) 2 34 := by decide +kernel
theorem dX7_rule_34 : jt cX7_rule 34 (.if_icmp .lt 6) 6 40 37 := by decide +kernel
theorem dX7_rule_37 : jd cX7_rule 37 (.bipush (-2)) 2 39 := by decide +kernel
theorem dX7_rule_39 : jd cX7_rule 39 .ireturn 1 40 := by decide +kernel
theorem dX7_rule_40 : jd cX7_rule 40 (.aload_n 0) 1 41 := by decide +kernel
theorem dX7_rule_41 : jd cX7_rule 41 (.getfield 17) 3 44 := by decide +kernel
theorem dX7_rule_44 : jd cX7_rule 44 (.aload_n 0) 1 45 := by decide +kernel
theorem dX7_rule_45 : jd cX7_rule 45 (.getfield 222) 3 48 := by decide +kernel
theorem dX7_rule_48 : jd cX7_rule 48 (.new 15) 3 51 := by decide +kernel
theorem dX7_rule_51 : jd cX7_rule 51 .dup 1 52 := by decide +kernel
theorem dX7_rule_52 : jd cX7_rule 52 (.iload_n 1) 1 53 := by decide +kernel
theorem dX7_rule_53 : jd cX7_rule 53 (.iload_n 2) 1 54 := by decide +kernel
theorem dX7_rule_54 : jd cX7_rule 54 (.iload_n 3) 1 55 := by decide +kernel
theorem dX7_rule_55 : jd cX7_rule 55 (.iload 4) 2 57 := by decide +kernel
theorem dX7_rule_57 : jd cX7_rule 57 (.invokespecial 225) 3 60 := by decide +kernel
theorem dX7_rule_60 : jd cX7_rule 60 .aastore 1 61 := by decide +kernel
theorem dX7_rule_61 : jd cX7_rule 61 (.aload_n 0) 1 62 := by decide +kernel
theorem dX7_rule_62 : jd cX7_rule 62 .dup 1 63 := by decide +kernel
theorem dX7_rule_63 : jd cX7_rule 63 (.getfield 222) 3 66 := by decide +kernel
theorem dX7_rule_66 : jd cX7_rule 66 (.iconst 1) 1 67 := by decide +kernel
theorem dX7_rule_67 : jd cX7_rule 67 .iadd 1 68 := by decide +kernel
theorem dX7_rule_68 : jd cX7_rule 68 (.putfield 222) 3 71 := by decide +kernel
theorem dX7_rule_71 : jd cX7_rule 71 (.aload_n 0) 1 72 := by decide +kernel
theorem dX7_rule_72 : jd cX7_rule 72 (.getfield 222) 3 75 := by decide +kernel
theorem dX7_rule_75 : jd cX7_rule 75 (.iconst 1) 1 76 := by decide +kernel
theorem dX7_rule_76 : jd cX7_rule 76 .isub 1 77 := by decide +kernel
theorem dX7_rule_77 : jd cX7_rule 77 .ireturn 1 78 := by decide +kernel
theorem dX7_classOf_0 : jd cX7_classOf 0 (.aload_n 0) 1 1 := by decide +kernel
theorem dX7_classOf_1 : jd cX7_classOf 1 (.iload_n 1) 1 2 := by decide +kernel
theorem dX7_classOf_2 : jd cX7_classOf 2 (.invokevirtual 142) 3 5 := by decide +kernel
theorem dX7_classOf_5 : jd cX7_classOf 5 (.istore_n 2) 1 6 := by decide +kernel
theorem dX7_classOf_6 : jd cX7_classOf 6 (.iload_n 2) 1 7 := by decide +kernel
theorem dX7_classOf_7 : jt cX7_classOf 7 (.ifCond .ne 10) 10 17 10 := by decide +kernel
theorem dX7_classOf_10 : jd cX7_classOf 10 (.aload_n 0) 1 11 := by decide +kernel
theorem dX7_classOf_11 : jd cX7_classOf 11 (.invokevirtual 228) 3 14 := by decide +kernel
theorem dX7_classOf_14 : jt cX7_classOf 14 (.goto 4) 4 18 17 := by decide +kernel
theorem dX7_classOf_17 : jd cX7_classOf 17 (.iload_n 2) 1 18 := by decide +kernel
theorem dX7_classOf_18 : jd cX7_classOf 18 .ireturn 1 19 := by decide +kernel
theorem dX7_watch_0 : jd cX7_watch 0 (.aload_n 0) 1 1 := by decide +kernel
theorem dX7_watch_1 : jd cX7_watch 1 .dup 1 2 := by decide +kernel
theorem dX7_watch_2 : jd cX7_watch 2 (.getfield 231) 3 5 := by decide +kernel
theorem dX7_watch_5 : jd cX7_watch 5 (.iconst 1) 1 6 := by decide +kernel
theorem dX7_watch_6 : jd cX7_watch 6 .iadd 1 7 := by decide +kernel
theorem dX7_watch_7 : jd cX7_watch 7 (.putfield 231) 3 10 := by decide +kernel
theorem dX7_watch_10 : jd cX7_watch 10 (.aload_n 0) 1 11 := by decide +kernel
theorem dX7_watch_11 : jd cX7_watch 11 (.iconst 0) 1 12 := by decide +kernel
theorem dX7_watch_12 : jd cX7_watch 12 (.putfield 234) 3 15 := by decide +kernel
theorem dX7_watch_15 : jd cX7_watch 15 (.iconst 0) 1 16 := by decide +kernel
theorem dX7_watch_16 : jd cX7_watch 16 (.istore_n 1) 1 17 := by decide +kernel
theorem dX7_watch_17 : jd cX7_watch 17 (.iconst 0) 1 18 := by decide +kernel
theorem dX7_watch_18 : jd cX7_watch 18 (.istore_n 2) 1 19 := by decide +kernel
theorem dX7_watch_19 : jd cX7_watch 19 (.iload_n 2) 1 20 := by decide +kernel
theorem dX7_watch_20 : jd cX7_watch 20 (.aload_n 0) 1 21 := by decide +kernel
theorem dX7_watch_21 : jd cX7_watch 21 (.getfield 73) 3 24 := by decide +kernel
theorem dX7_watch_24 : jt cX7_watch 24 (.if_icmp .ge 69) 69 93 27 := by decide +kernel
theorem dX7_watch_27 : jd cX7_watch 27 (.aload_n 0) 1 28 := by decide +kernel
theorem dX7_watch_28 : jd cX7_watch 28 (.getfield 28) 3 31 := by decide +kernel
theorem dX7_watch_31 : jd cX7_watch 31 (.aload_n 0) 1 32 := by decide +kernel
theorem dX7_watch_32 : jd cX7_watch 32 (.getfield 11) 3 35 := by decide +kernel
theorem dX7_watch_35 : jd cX7_watch 35 (.iload_n 2) 1 36 := by decide +kernel
theorem dX7_watch_36 : jd cX7_watch 36 .aaload 1 37 := by decide +kernel
theorem dX7_watch_37 : jd cX7_watch 37 (.aload_n 0) 1 38 := by decide +kernel
theorem dX7_watch_38 : jd cX7_watch 38 (.getfield 21) 3 41 := by decide +kernel
theorem dX7_watch_41 : jd cX7_watch 41 (.invokevirtual 237) 3 44 := by decide +kernel
theorem dX7_watch_44 : jd cX7_watch 44 (.aload_n 0) 1 45 := by decide +kernel
theorem dX7_watch_45 : jd cX7_watch 45 (.invokevirtual 228) 3 48 := by decide +kernel
theorem dX7_watch_48 : jd cX7_watch 48 (.istore_n 3) 1 49 := by decide +kernel
theorem dX7_watch_49 : jd cX7_watch 49 (.iload_n 3) 1 50 := by decide +kernel
theorem dX7_watch_50 : jd cX7_watch 50 (.aload_n 0) 1 51 := by decide +kernel
theorem dX7_watch_51 : jd cX7_watch 51 (.getfield 11) 3 54 := by decide +kernel
theorem dX7_watch_54 : jd cX7_watch 54 (.iload_n 2) 1 55 := by decide +kernel
theorem dX7_watch_55 : jd cX7_watch 55 .aaload 1 56 := by decide +kernel
theorem dX7_watch_56 : jd cX7_watch 56 (.getfield 241) 3 59 := by decide +kernel
theorem dX7_watch_59 : jt cX7_watch 59 (.if_icmp .eq 28) 28 87 62 := by decide +kernel
theorem dX7_watch_62 : jd cX7_watch 62 (.aload_n 0) 1 63 := by decide +kernel
theorem dX7_watch_63 : jd cX7_watch 63 (.getfield 11) 3 66 := by decide +kernel
theorem dX7_watch_66 : jd cX7_watch 66 (.iload_n 2) 1 67 := by decide +kernel
theorem dX7_watch_67 : jd cX7_watch 67 .aaload 1 68 := by decide +kernel
theorem dX7_watch_68 : jd cX7_watch 68 (.iload_n 3) 1 69 := by decide +kernel
theorem dX7_watch_69 : jd cX7_watch 69 (.putfield 241) 3 72 := by decide +kernel
theorem dX7_watch_72 : jd cX7_watch 72 (.aload_n 0) 1 73 := by decide +kernel
theorem dX7_watch_73 : jd cX7_watch 73 .dup 1 74 := by decide +kernel
theorem dX7_watch_74 : jd cX7_watch 74 (.getfield 234) 3 77 := by decide +kernel
theorem dX7_watch_77 : jd cX7_watch 77 (.iconst 1) 1 78 := by decide +kernel
theorem dX7_watch_78 : jd cX7_watch 78 (.iload_n 2) 1 79 := by decide +kernel
theorem dX7_watch_79 : jd cX7_watch 79 .ishl 1 80 := by decide +kernel
theorem dX7_watch_80 : jd cX7_watch 80 .ior 1 81 := by decide +kernel
theorem dX7_watch_81 : jd cX7_watch 81 (.putfield 234) 3 84 := by decide +kernel
theorem dX7_watch_84 : jd cX7_watch 84 (.iinc 1 1) 3 87 := by decide +kernel
theorem dX7_watch_87 : jd cX7_watch 87 (.iinc 2 1) 3 90 := by decide +kernel
theorem dX7_watch_90 : jt cX7_watch 90 (.goto (-71)) (-71) 19 93 := by decide +kernel
theorem dX7_watch_93 : jd cX7_watch 93 (.iload_n 1) 1 94 := by decide +kernel
theorem dX7_watch_94 : jd cX7_watch 94 .ireturn 1 95 := by decide +kernel
theorem dX7_alarms_0 : jd cX7_alarms 0 (.aload_n 0) 1 1 := by decide +kernel
theorem dX7_alarms_1 : jd cX7_alarms 1 (.getfield 234) 3 4 := by decide +kernel
theorem dX7_alarms_4 : jd cX7_alarms 4 .ireturn 1 5 := by decide +kernel
theorem dX7_asked_0 : jd cX7_asked 0 (.aload_n 0) 1 1 := by decide +kernel
theorem dX7_asked_1 : jd cX7_asked 1 (.getfield 244) 3 4 := by decide +kernel
theorem dX7_asked_4 : jd cX7_asked 4 .lreturn 1 5 := by decide +kernel
theorem dX7_count_0 : jd cX7_count 0 (.iload_n 1) 1 1 := by decide +kernel
theorem dX7_count_1 : jd cX7_count 1 (.tableswitch 60 0 4 #[35, 40, 45, 50, 55]) 35 36 := by decide +kernel
theorem dX7_count_36 : jd cX7_count 36 (.aload_n 0) 1 37 := by decide +kernel
theorem dX7_count_37 : jd cX7_count 37 (.getfield 73) 3 40 := by decide +kernel
theorem dX7_count_40 : jd cX7_count 40 .ireturn 1 41 := by decide +kernel
theorem dX7_count_41 : jd cX7_count 41 (.aload_n 0) 1 42 := by decide +kernel
theorem dX7_count_42 : jd cX7_count 42 (.invokevirtual 248) 3 45 := by decide +kernel
theorem dX7_count_45 : jd cX7_count 45 .ireturn 1 46 := by decide +kernel
theorem dX7_count_46 : jd cX7_count 46 (.aload_n 0) 1 47 := by decide +kernel
theorem dX7_count_47 : jd cX7_count 47 (.invokevirtual 251) 3 50 := by decide +kernel
theorem dX7_count_50 : jd cX7_count 50 .ireturn 1 51 := by decide +kernel
theorem dX7_count_51 : jd cX7_count 51 (.aload_n 0) 1 52 := by decide +kernel
theorem dX7_count_52 : jd cX7_count 52 (.getfield 222) 3 55 := by decide +kernel
theorem dX7_count_55 : jd cX7_count 55 .ireturn 1 56 := by decide +kernel
theorem dX7_count_56 : jd cX7_count 56 (.aload_n 0) 1 57 := by decide +kernel
theorem dX7_count_57 : jd cX7_count 57 (.getfield 231) 3 60 := by decide +kernel
theorem dX7_count_60 : jd cX7_count 60 .ireturn 1 61 := by decide +kernel
theorem dX7_count_61 : jd cX7_count 61 (.iconst (-1)) 1 62 := by decide +kernel
theorem dX7_count_62 : jd cX7_count 62 .ireturn 1 63 := by decide +kernel
theorem dX7_finding_0 : jd cX7_finding 0 (.aload_n 0) 1 1 := by decide +kernel
theorem dX7_finding_1 : jd cX7_finding 1 (.getfield 254) 3 4 := by decide +kernel
theorem dX7_finding_4 : jd cX7_finding 4 .ireturn 1 5 := by decide +kernel
theorem dX7_findings_0 : jd cX7_findings 0 (.iload_n 1) 1 1 := by decide +kernel
theorem dX7_findings_1 : jd cX7_findings 1 (.iconst 1) 1 2 := by decide +kernel
theorem dX7_findings_2 : jt cX7_findings 2 (.if_icmp .lt 8) 8 10 5 := by decide +kernel
theorem dX7_findings_5 : jd cX7_findings 5 (.iload_n 1) 1 6 := by decide +kernel
theorem dX7_findings_6 : jd cX7_findings 6 (.iconst 5) 1 7 := by decide +kernel
theorem dX7_findings_7 : jt cX7_findings 7 (.if_icmp .le 7) 7 14 10 := by decide +kernel
theorem dX7_findings_10 : jd cX7_findings 10 (.iconst (-1)) 1 11 := by decide +kernel
theorem dX7_findings_11 : jt cX7_findings 11 (.goto 9) 9 20 14 := by decide +kernel
theorem dX7_findings_14 : jd cX7_findings 14 (.aload_n 0) 1 15 := by decide +kernel
theorem dX7_findings_15 : jd cX7_findings 15 (.getfield 66) 3 18 := by decide +kernel
theorem dX7_findings_18 : jd cX7_findings 18 (.iload_n 1) 1 19 := by decide +kernel
theorem dX7_findings_19 : jd cX7_findings 19 .iaload 1 20 := by decide +kernel
theorem dX7_findings_20 : jd cX7_findings 20 .ireturn 1 21 := by decide +kernel
theorem dX7_digest_0 : jd cX7_digest 0 (.ldc2_w 257) 3 3 := by decide +kernel
theorem dX7_digest_3 : jd cX7_digest 3 (.lstore_n 1) 1 4 := by decide +kernel
theorem dX7_digest_4 : jd cX7_digest 4 (.iconst 0) 1 5 := by decide +kernel
theorem dX7_digest_5 : jd cX7_digest 5 (.istore_n 3) 1 6 := by decide +kernel
theorem dX7_digest_6 : jd cX7_digest 6 (.iload_n 3) 1 7 := by decide +kernel
theorem dX7_digest_7 : jd cX7_digest 7 (.aload_n 0) 1 8 := by decide +kernel
theorem dX7_digest_8 : jd cX7_digest 8 (.getfield 73) 3 11 := by decide +kernel
theorem dX7_digest_11 : jt cX7_digest 11 (.if_icmp .ge 20) 20 31 14 := by decide +kernel
theorem dX7_digest_14 : jd cX7_digest 14 (.aload_n 0) 1 15 := by decide +kernel
theorem dX7_digest_15 : jd cX7_digest 15 (.getfield 11) 3 18 := by decide +kernel
theorem dX7_digest_18 : jd cX7_digest 18 (.iload_n 3) 1 19 := by decide +kernel
theorem dX7_digest_19 : jd cX7_digest 19 .aaload 1 20 := by decide +kernel
theorem dX7_digest_20 : jd cX7_digest 20 (.lload_n 1) 1 21 := by decide +kernel
theorem dX7_digest_21 : jd cX7_digest 21 (.invokevirtual 259) 3 24 := by decide +kernel
theorem dX7_digest_24 : jd cX7_digest 24 (.lstore_n 1) 1 25 := by decide +kernel
theorem dX7_digest_25 : jd cX7_digest 25 (.iinc 3 1) 3 28 := by decide +kernel
theorem dX7_digest_28 : jt cX7_digest 28 (.goto (-22)) (-22) 6 31 := by decide +kernel
theorem dX7_digest_31 : jd cX7_digest 31 (.iconst 0) 1 32 := by decide +kernel
theorem dX7_digest_32 : jd cX7_digest 32 (.istore_n 3) 1 33 := by decide +kernel
theorem dX7_digest_33 : jd cX7_digest 33 (.iload_n 3) 1 34 := by decide +kernel
theorem dX7_digest_34 : jd cX7_digest 34 (.bipush 60) 2 36 := by decide +kernel
theorem dX7_digest_36 : jt cX7_digest 36 (.if_icmp .ge 23) 23 59 39 := by decide +kernel
theorem dX7_digest_39 : jd cX7_digest 39 (.ldc2_w 263) 3 42 := by decide +kernel
theorem dX7_digest_42 : jd cX7_digest 42 (.lload_n 1) 1 43 := by decide +kernel
theorem dX7_digest_43 : jd cX7_digest 43 .lmul 1 44 := by decide +kernel
theorem dX7_digest_44 : jd cX7_digest 44 (.aload_n 0) 1 45 := by decide +kernel
theorem dX7_digest_45 : jd cX7_digest 45 (.getfield 21) 3 48 := by decide +kernel
theorem dX7_digest_48 : jd cX7_digest 48 (.iload_n 3) 1 49 := by decide +kernel
theorem dX7_digest_49 : jd cX7_digest 49 .iaload 1 50 := by decide +kernel
theorem dX7_digest_50 : jd cX7_digest 50 .i2l 1 51 := by decide +kernel
theorem dX7_digest_51 : jd cX7_digest 51 .ladd 1 52 := by decide +kernel
theorem dX7_digest_52 : jd cX7_digest 52 (.lstore_n 1) 1 53 := by decide +kernel
theorem dX7_digest_53 : jd cX7_digest 53 (.iinc 3 1) 3 56 := by decide +kernel
theorem dX7_digest_56 : jt cX7_digest 56 (.goto (-23)) (-23) 33 59 := by decide +kernel
theorem dX7_digest_59 : jd cX7_digest 59 (.iconst 0) 1 60 := by decide +kernel
theorem dX7_digest_60 : jd cX7_digest 60 (.istore_n 3) 1 61 := by decide +kernel
theorem dX7_digest_61 : jd cX7_digest 61 (.iload_n 3) 1 62 := by decide +kernel
theorem dX7_digest_62 : jd cX7_digest 62 (.aload_n 0) 1 63 := by decide +kernel
theorem dX7_digest_63 : jd cX7_digest 63 (.getfield 73) 3 66 := by decide +kernel
theorem dX7_digest_66 : jt cX7_digest 66 (.if_icmp .ge 26) 26 92 69 := by decide +kernel
theorem dX7_digest_69 : jd cX7_digest 69 (.ldc2_w 263) 3 72 := by decide +kernel
theorem dX7_digest_72 : jd cX7_digest 72 (.lload_n 1) 1 73 := by decide +kernel
theorem dX7_digest_73 : jd cX7_digest 73 .lmul 1 74 := by decide +kernel
theorem dX7_digest_74 : jd cX7_digest 74 (.aload_n 0) 1 75 := by decide +kernel
theorem dX7_digest_75 : jd cX7_digest 75 (.getfield 11) 3 78 := by decide +kernel
theorem dX7_digest_78 : jd cX7_digest 78 (.iload_n 3) 1 79 := by decide +kernel
theorem dX7_digest_79 : jd cX7_digest 79 .aaload 1 80 := by decide +kernel
theorem dX7_digest_80 : jd cX7_digest 80 (.getfield 241) 3 83 := by decide +kernel
theorem dX7_digest_83 : jd cX7_digest 83 .i2l 1 84 := by decide +kernel
theorem dX7_digest_84 : jd cX7_digest 84 .ladd 1 85 := by decide +kernel
theorem dX7_digest_85 : jd cX7_digest 85 (.lstore_n 1) 1 86 := by decide +kernel
theorem dX7_digest_86 : jd cX7_digest 86 (.iinc 3 1) 3 89 := by decide +kernel
theorem dX7_digest_89 : jt cX7_digest 89 (.goto (-28)) (-28) 61 92 := by decide +kernel
theorem dX7_digest_92 : jd cX7_digest 92 (.lload_n 1) 1 93 := by decide +kernel
theorem dX7_digest_93 : jd cX7_digest 93 .lreturn 1 94 := by decide +kernel
theorem dX7_found_0 : jd cX7_found 0 (.aload_n 0) 1 1 := by decide +kernel
theorem dX7_found_1 : jd cX7_found 1 (.iload_n 1) 1 2 := by decide +kernel
theorem dX7_found_2 : jd cX7_found 2 (.putfield 254) 3 5 := by decide +kernel
theorem dX7_found_5 : jd cX7_found 5 (.iload_n 1) 1 6 := by decide +kernel
theorem dX7_found_6 : jd cX7_found 6 (.iconst 1) 1 7 := by decide +kernel
theorem dX7_found_7 : jt cX7_found 7 (.if_icmp .lt 18) 18 25 10 := by decide +kernel
theorem dX7_found_10 : jd cX7_found 10 (.iload_n 1) 1 11 := by decide +kernel
theorem dX7_found_11 : jd cX7_found 11 (.iconst 5) 1 12 := by decide +kernel
theorem dX7_found_12 : jt cX7_found 12 (.if_icmp .gt 13) 13 25 15 := by decide +kernel
theorem dX7_found_15 : jd cX7_found 15 (.aload_n 0) 1 16 := by decide +kernel
theorem dX7_found_16 : jd cX7_found 16 (.getfield 66) 3 19 := by decide +kernel
theorem dX7_found_19 : jd cX7_found 19 (.iload_n 1) 1 20 := by decide +kernel
theorem dX7_found_20 : jd cX7_found 20 .dup2 1 21 := by decide +kernel
theorem dX7_found_21 : jd cX7_found 21 .iaload 1 22 := by decide +kernel
theorem dX7_found_22 : jd cX7_found 22 (.iconst 1) 1 23 := by decide +kernel
theorem dX7_found_23 : jd cX7_found 23 .iadd 1 24 := by decide +kernel
theorem dX7_found_24 : jd cX7_found 24 .iastore 1 25 := by decide +kernel
theorem dX7_found_25 : jd cX7_found 25 (.bipush (-3)) 2 27 := by decide +kernel
theorem dX7_found_27 : jd cX7_found 27 .ireturn 1 28 := by decide +kernel
theorem dX7_tell_0 : jd cX7_tell 0 (.aload_n 0) 1 1 := by decide +kernel
theorem dX7_tell_1 : jd cX7_tell 1 (.lload_n 1) 1 2 := by decide +kernel
theorem dX7_tell_2 : jd cX7_tell 2 (.putfield 244) 3 5 := by decide +kernel
theorem dX7_tell_5 : jd cX7_tell 5 (.iconst 1) 1 6 := by decide +kernel
theorem dX7_tell_6 : jd cX7_tell 6 .ireturn 1 7 := by decide +kernel
theorem dX7_isKind_0 : jd cX7_isKind 0 (.iload_n 0) 1 1 := by decide +kernel
theorem dX7_isKind_1 : jt cX7_isKind 1 (.ifCond .lt 12) 12 13 4 := by decide +kernel
theorem dX7_isKind_4 : jd cX7_isKind 4 (.iload_n 0) 1 5 := by decide +kernel
theorem dX7_isKind_5 : jd cX7_isKind 5 (.iconst 3) 1 6 := by decide +kernel
theorem dX7_isKind_6 : jt cX7_isKind 6 (.if_icmp .gt 7) 7 13 9 := by decide +kernel
theorem dX7_isKind_9 : jd cX7_isKind 9 (.iconst 1) 1 10 := by decide +kernel
theorem dX7_isKind_10 : jt cX7_isKind 10 (.goto 4) 4 14 13 := by decide +kernel
theorem dX7_isKind_13 : jd cX7_isKind 13 (.iconst 0) 1 14 := by decide +kernel
theorem dX7_isKind_14 : jd cX7_isKind 14 .ireturn 1 15 := by decide +kernel
theorem dX7_isNight_0 : jd cX7_isNight 0 (.iload_n 0) 1 1 := by decide +kernel
theorem dX7_isNight_1 : jt cX7_isNight 1 (.ifCond .lt 13) 13 14 4 := by decide +kernel
theorem dX7_isNight_4 : jd cX7_isNight 4 (.iload_n 0) 1 5 := by decide +kernel
theorem dX7_isNight_5 : jd cX7_isNight 5 (.bipush 60) 2 7 := by decide +kernel
theorem dX7_isNight_7 : jt cX7_isNight 7 (.if_icmp .ge 7) 7 14 10 := by decide +kernel
theorem dX7_isNight_10 : jd cX7_isNight 10 (.iconst 1) 1 11 := by decide +kernel
theorem dX7_isNight_11 : jt cX7_isNight 11 (.goto 4) 4 15 14 := by decide +kernel
theorem dX7_isNight_14 : jd cX7_isNight 14 (.iconst 0) 1 15 := by decide +kernel
theorem dX7_isNight_15 : jd cX7_isNight 15 .ireturn 1 16 := by decide +kernel
theorem dX7_areNights_0 : jd cX7_areNights 0 (.iload_n 0) 1 1 := by decide +kernel
theorem dX7_areNights_1 : jt cX7_areNights 1 (.ifCond .lt 21) 21 22 4 := by decide +kernel
theorem dX7_areNights_4 : jd cX7_areNights 4 (.iload_n 0) 1 5 := by decide +kernel
theorem dX7_areNights_5 : jd cX7_areNights 5 (.bipush 60) 2 7 := by decide +kernel
theorem dX7_areNights_7 : jt cX7_areNights 7 (.if_icmp .gt 15) 15 22 10 := by decide +kernel
theorem dX7_areNights_10 : jd cX7_areNights 10 (.iload_n 1) 1 11 := by decide +kernel
theorem dX7_areNights_11 : jd cX7_areNights 11 (.bipush 60) 2 13 := by decide +kernel
theorem dX7_areNights_13 : jd cX7_areNights 13 (.iload_n 0) 1 14 := by decide +kernel
theorem dX7_areNights_14 : jd cX7_areNights 14 .isub 1 15 := by decide +kernel
theorem dX7_areNights_15 : jt cX7_areNights 15 (.if_icmp .gt 7) 7 22 18 := by decide +kernel
theorem dX7_areNights_18 : jd cX7_areNights 18 (.iconst 1) 1 19 := by decide +kernel
theorem dX7_areNights_19 : jt cX7_areNights 19 (.goto 4) 4 23 22 := by decide +kernel
theorem dX7_areNights_22 : jd cX7_areNights 22 (.iconst 0) 1 23 := by decide +kernel
theorem dX7_areNights_23 : jd cX7_areNights 23 .ireturn 1 24 := by decide +kernel
theorem dX7_isPeriod_0 : jd cX7_isPeriod 0 (.iload_n 0) 1 1 := by decide +kernel
theorem dX7_isPeriod_1 : jd cX7_isPeriod 1 (.iconst 1) 1 2 := by decide +kernel
theorem dX7_isPeriod_2 : jt cX7_isPeriod 2 (.if_icmp .lt 25) 25 27 5 := by decide +kernel
theorem dX7_isPeriod_5 : jd cX7_isPeriod 5 (.iload_n 0) 1 6 := by decide +kernel
theorem dX7_isPeriod_6 : jd cX7_isPeriod 6 (.sipush 600) 3 9 := by decide +kernel
theorem dX7_isPeriod_9 : jt cX7_isPeriod 9 (.if_icmp .gt 18) 18 27 12 := by decide +kernel
theorem dX7_isPeriod_12 : jd cX7_isPeriod 12 (.iload_n 1) 1 13 := by decide +kernel
theorem dX7_isPeriod_13 : jd cX7_isPeriod 13 (.iconst 1) 1 14 := by decide +kernel
theorem dX7_isPeriod_14 : jt cX7_isPeriod 14 (.if_icmp .lt 13) 13 27 17 := by decide +kernel
theorem dX7_isPeriod_17 : jd cX7_isPeriod 17 (.iload_n 1) 1 18 := by decide +kernel
theorem dX7_isPeriod_18 : jd cX7_isPeriod 18 (.bipush 60) 2 20 := by decide +kernel
theorem dX7_isPeriod_20 : jt cX7_isPeriod 20 (.if_icmp .gt 7) 7 27 23 := by decide +kernel
theorem dX7_isPeriod_23 : jd cX7_isPeriod 23 (.iconst 1) 1 24 := by decide +kernel
theorem dX7_isPeriod_24 : jt cX7_isPeriod 24 (.goto 4) 4 28 27 := by decide +kernel
theorem dX7_isPeriod_27 : jd cX7_isPeriod 27 (.iconst 0) 1 28 := by decide +kernel
theorem dX7_isPeriod_28 : jd cX7_isPeriod 28 .ireturn 1 29 := by decide +kernel
theorem dX7_starNumbered_0 : jd cX7_starNumbered 0 (.iload_n 1) 1 1 := by decide +kernel
theorem dX7_starNumbered_1 : jt cX7_starNumbered 1 (.ifCond .lt 20) 20 21 4 := by decide +kernel
theorem dX7_starNumbered_4 : jd cX7_starNumbered 4 (.iload_n 1) 1 5 := by decide +kernel
theorem dX7_starNumbered_5 : jd cX7_starNumbered 5 (.aload_n 0) 1 6 := by decide +kernel
theorem dX7_starNumbered_6 : jd cX7_starNumbered 6 (.getfield 73) 3 9 := by decide +kernel
theorem dX7_starNumbered_9 : jt cX7_starNumbered 9 (.if_icmp .ge 12) 12 21 12 := by decide +kernel
theorem dX7_starNumbered_12 : jd cX7_starNumbered 12 (.aload_n 0) 1 13 := by decide +kernel
theorem dX7_starNumbered_13 : jd cX7_starNumbered 13 (.getfield 11) 3 16 := by decide +kernel
theorem dX7_starNumbered_16 : jd cX7_starNumbered 16 (.iload_n 1) 1 17 := by decide +kernel
theorem dX7_starNumbered_17 : jd cX7_starNumbered 17 .aaload 1 18 := by decide +kernel
theorem dX7_starNumbered_18 : jt cX7_starNumbered 18 (.goto 4) 4 22 21 := by decide +kernel
theorem dX7_starNumbered_21 : jd cX7_starNumbered 21 .aconst_null 1 22 := by decide +kernel
theorem dX7_starNumbered_22 : jd cX7_starNumbered 22 .areturn 1 23 := by decide +kernel
theorem dX7_lookAtRow_0 : jd cX7_lookAtRow 0 (.aload_n 0) 1 1 := by decide +kernel
theorem dX7_lookAtRow_1 : jd cX7_lookAtRow 1 (.iload_n 1) 1 2 := by decide +kernel
theorem dX7_lookAtRow_2 : jd cX7_lookAtRow 2 (.invokevirtual 80) 3 5 := by decide +kernel
theorem dX7_lookAtRow_5 : jd cX7_lookAtRow 5 (.astore_n 2) 1 6 := by decide +kernel
theorem dX7_lookAtRow_6 : jd cX7_lookAtRow 6 (.aload_n 2) 1 7 := by decide +kernel
theorem dX7_lookAtRow_7 : jt cX7_lookAtRow 7 (.ifnonnull 5) 5 12 10 := by decide +kernel
theorem dX7_lookAtRow_10 : jd cX7_lookAtRow 10 (.iconst (-1)) 1 11 := by decide +kernel
theorem dX7_lookAtRow_11 : jd cX7_lookAtRow 11 .ireturn 1 12 := by decide +kernel
theorem dX7_lookAtRow_12 : jd cX7_lookAtRow 12 (.aload_n 2) 1 13 := by decide +kernel
theorem dX7_lookAtRow_13 : jd cX7_lookAtRow 13 (.getfield 100) 3 16 := by decide +kernel
theorem dX7_lookAtRow_16 : jt cX7_lookAtRow 16 (.ifCond .eq 7) 7 23 19 := by decide +kernel
theorem dX7_lookAtRow_19 : jd cX7_lookAtRow 19 (.iconst 0) 1 20 := by decide +kernel
theorem dX7_lookAtRow_20 : jt cX7_lookAtRow 20 (.goto 8) 8 28 23 := by decide +kernel
theorem dX7_lookAtRow_23 : jd cX7_lookAtRow 23 (.aload_n 0) 1 24 := by decide +kernel
theorem dX7_lookAtRow_24 : jd cX7_lookAtRow 24 (.iconst 1) 1 25 := by decide +kernel
theorem dX7_lookAtRow_25 : jd cX7_lookAtRow 25 (.invokevirtual 87) 3 28 := by decide +kernel
theorem dX7_lookAtRow_28 : jd cX7_lookAtRow 28 .ireturn 1 29 := by decide +kernel
theorem dX7_lookAtNight_0 : jd cX7_lookAtNight 0 (.aload_n 0) 1 1 := by decide +kernel
theorem dX7_lookAtNight_1 : jd cX7_lookAtNight 1 (.iload_n 1) 1 2 := by decide +kernel
theorem dX7_lookAtNight_2 : jd cX7_lookAtNight 2 (.invokevirtual 119) 3 5 := by decide +kernel
theorem dX7_lookAtNight_5 : jd cX7_lookAtNight 5 (.istore_n 3) 1 6 := by decide +kernel
theorem dX7_lookAtNight_6 : jd cX7_lookAtNight 6 (.iload_n 3) 1 7 := by decide +kernel
theorem dX7_lookAtNight_7 : jt cX7_lookAtNight 7 (.ifCond .ne 16) 16 23 10 := by decide +kernel
theorem dX7_lookAtNight_10 : jd cX7_lookAtNight 10 (.iload_n 2) 1 11 := by decide +kernel
theorem dX7_lookAtNight_11 : jd cX7_lookAtNight 11 (.invokestatic 132) 3 14 := by decide +kernel
theorem dX7_lookAtNight_14 : jt cX7_lookAtNight 14 (.ifCond .ne 9) 9 23 17 := by decide +kernel
theorem dX7_lookAtNight_17 : jd cX7_lookAtNight 17 (.aload_n 0) 1 18 := by decide +kernel
theorem dX7_lookAtNight_18 : jd cX7_lookAtNight 18 (.iconst 2) 1 19 := by decide +kernel
theorem dX7_lookAtNight_19 : jd cX7_lookAtNight 19 (.invokevirtual 87) 3 22 := by decide +kernel
theorem dX7_lookAtNight_22 : jd cX7_lookAtNight 22 .ireturn 1 23 := by decide +kernel
theorem dX7_lookAtNight_23 : jd cX7_lookAtNight 23 (.iload_n 3) 1 24 := by decide +kernel
theorem dX7_lookAtNight_24 : jd cX7_lookAtNight 24 .ireturn 1 25 := by decide +kernel
theorem dX7_gatherRow_0 : jd cX7_gatherRow 0 (.aload_n 0) 1 1 := by decide +kernel
theorem dX7_gatherRow_1 : jd cX7_gatherRow 1 (.iload_n 1) 1 2 := by decide +kernel
theorem dX7_gatherRow_2 : jd cX7_gatherRow 2 (.invokevirtual 119) 3 5 := by decide +kernel
theorem dX7_gatherRow_5 : jd cX7_gatherRow 5 (.istore_n 2) 1 6 := by decide +kernel
theorem dX7_gatherRow_6 : jd cX7_gatherRow 6 (.iload_n 2) 1 7 := by decide +kernel
theorem dX7_gatherRow_7 : jt cX7_gatherRow 7 (.ifCond .ne 20) 20 27 10 := by decide +kernel
theorem dX7_gatherRow_10 : jd cX7_gatherRow 10 (.aload_n 0) 1 11 := by decide +kernel
theorem dX7_gatherRow_11 : jd cX7_gatherRow 11 (.getfield 28) 3 14 := by decide +kernel
theorem dX7_gatherRow_14 : jd cX7_gatherRow 14 (.aload_n 0) 1 15 := by decide +kernel
theorem dX7_gatherRow_15 : jd cX7_gatherRow 15 (.getfield 11) 3 18 := by decide +kernel
theorem dX7_gatherRow_18 : jd cX7_gatherRow 18 (.iload_n 1) 1 19 := by decide +kernel
theorem dX7_gatherRow_19 : jd cX7_gatherRow 19 .aaload 1 20 := by decide +kernel
theorem dX7_gatherRow_20 : jd cX7_gatherRow 20 (.aload_n 0) 1 21 := by decide +kernel
theorem dX7_gatherRow_21 : jd cX7_gatherRow 21 (.getfield 21) 3 24 := by decide +kernel
theorem dX7_gatherRow_24 : jd cX7_gatherRow 24 (.invokevirtual 237) 3 27 := by decide +kernel
theorem dX7_gatherRow_27 : jd cX7_gatherRow 27 (.iload_n 2) 1 28 := by decide +kernel
theorem dX7_gatherRow_28 : jd cX7_gatherRow 28 .ireturn 1 29 := by decide +kernel
theorem dX7_gatherLights_0 : jd cX7_gatherLights 0 (.aload_n 0) 1 1 := by decide +kernel
theorem dX7_gatherLights_1 : jd cX7_gatherLights 1 (.iload_n 1) 1 2 := by decide +kernel
theorem dX7_gatherLights_2 : jd cX7_gatherLights 2 (.invokevirtual 94) 3 5 := by decide +kernel
theorem dX7_gatherLights_5 : jd cX7_gatherLights 5 (.istore_n 2) 1 6 := by decide +kernel
theorem dX7_gatherLights_6 : jd cX7_gatherLights 6 (.iload_n 2) 1 7 := by decide +kernel
theorem dX7_gatherLights_7 : jt cX7_gatherLights 7 (.ifCond .ne 19) 19 26 10 := by decide +kernel
theorem dX7_gatherLights_10 : jd cX7_gatherLights 10 (.aload_n 0) 1 11 := by decide +kernel
theorem dX7_gatherLights_11 : jd cX7_gatherLights 11 (.getfield 28) 3 14 := by decide +kernel
theorem dX7_gatherLights_14 : jd cX7_gatherLights 14 (.getfield 176) 3 17 := by decide +kernel
theorem dX7_gatherLights_17 : jt cX7_gatherLights 17 (.ifCond .ne 9) 9 26 20 := by decide +kernel
theorem dX7_gatherLights_20 : jd cX7_gatherLights 20 (.aload_n 0) 1 21 := by decide +kernel
theorem dX7_gatherLights_21 : jd cX7_gatherLights 21 (.iconst 4) 1 22 := by decide +kernel
theorem dX7_gatherLights_22 : jd cX7_gatherLights 22 (.invokevirtual 87) 3 25 := by decide +kernel
theorem dX7_gatherLights_25 : jd cX7_gatherLights 25 .ireturn 1 26 := by decide +kernel
theorem dX7_gatherLights_26 : jd cX7_gatherLights 26 (.iload_n 2) 1 27 := by decide +kernel
theorem dX7_gatherLights_27 : jd cX7_gatherLights 27 .ireturn 1 28 := by decide +kernel
theorem dX7_gatherLows_0 : jd cX7_gatherLows 0 (.iload_n 2) 1 1 := by decide +kernel
theorem dX7_gatherLows_1 : jd cX7_gatherLows 1 (.iconst 1) 1 2 := by decide +kernel
theorem dX7_gatherLows_2 : jt cX7_gatherLows 2 (.if_icmp .lt 10) 10 12 5 := by decide +kernel
theorem dX7_gatherLows_5 : jd cX7_gatherLows 5 (.iload_n 2) 1 6 := by decide +kernel
theorem dX7_gatherLows_6 : jd cX7_gatherLows 6 (.sipush 10000) 3 9 := by decide +kernel
theorem dX7_gatherLows_9 : jt cX7_gatherLows 9 (.if_icmp .le 5) 5 14 12 := by decide +kernel
theorem dX7_gatherLows_12 : jd cX7_gatherLows 12 (.iconst (-1)) 1 13 := by decide +kernel
theorem dX7_gatherLows_13 : jd cX7_gatherLows 13 .ireturn 1 14 := by decide +kernel
theorem dX7_gatherLows_14 : jd cX7_gatherLows 14 (.aload_n 0) 1 15 := by decide +kernel
theorem dX7_gatherLows_15 : jd cX7_gatherLows 15 (.iload_n 1) 1 16 := by decide +kernel
theorem dX7_gatherLows_16 : jd cX7_gatherLows 16 (.invokevirtual 142) 3 19 := by decide +kernel
theorem dX7_gatherLows_19 : jd cX7_gatherLows 19 (.istore_n 3) 1 20 := by decide +kernel
theorem dX7_gatherLows_20 : jd cX7_gatherLows 20 (.iload_n 3) 1 21 := by decide +kernel
theorem dX7_gatherLows_21 : jt cX7_gatherLows 21 (.ifCond .ne 20) 20 41 24 := by decide +kernel
theorem dX7_gatherLows_24 : jd cX7_gatherLows 24 (.aload_n 0) 1 25 := by decide +kernel
theorem dX7_gatherLows_25 : jd cX7_gatherLows 25 (.getfield 49) 3 28 := by decide +kernel
theorem dX7_gatherLows_28 : jd cX7_gatherLows 28 (.aload_n 0) 1 29 := by decide +kernel
theorem dX7_gatherLows_29 : jd cX7_gatherLows 29 (.getfield 28) 3 32 := by decide +kernel
theorem dX7_gatherLows_32 : jd cX7_gatherLows 32 (.aload_n 0) 1 33 := by decide +kernel
theorem dX7_gatherLows_33 : jd cX7_gatherLows 33 (.invokevirtual 145) 3 36 := by decide +kernel
theorem dX7_gatherLows_36 : jd cX7_gatherLows 36 (.iload_n 2) 1 37 := by decide +kernel
theorem dX7_gatherLows_37 : jd cX7_gatherLows 37 .isub 1 38 := by decide +kernel
theorem dX7_gatherLows_38 : jd cX7_gatherLows 38 (.invokevirtual 265) 3 41 := by decide +kernel
theorem dX7_gatherLows_41 : jd cX7_gatherLows 41 (.iload_n 3) 1 42 := by decide +kernel
theorem dX7_gatherLows_42 : jd cX7_gatherLows 42 .ireturn 1 43 := by decide +kernel
theorem dX7_gatherLowsOnClock_0 : jd cX7_gatherLowsOnClock 0 (.iload_n 3) 1 1 := by decide +kernel
theorem dX7_gatherLowsOnClock_1 : jd cX7_gatherLowsOnClock 1 (.invokestatic 132) 3 4 := by decide +kernel
theorem dX7_gatherLowsOnClock_4 : jt cX7_gatherLowsOnClock 4 (.ifCond .eq 22) 22 26 7 := by decide +kernel
theorem dX7_gatherLowsOnClock_7 : jd cX7_gatherLowsOnClock 7 (.iload 4) 2 9 := by decide +kernel
theorem dX7_gatherLowsOnClock_9 : jd cX7_gatherLowsOnClock 9 (.iload 5) 2 11 := by decide +kernel
theorem dX7_gatherLowsOnClock_11 : jd cX7_gatherLowsOnClock 11 (.invokestatic 153) 3 14 := by decide +kernel
theorem dX7_gatherLowsOnClock_14 : jt cX7_gatherLowsOnClock 14 (.ifCond .eq 12) 12 26 17 := by decide +kernel
theorem dX7_gatherLowsOnClock_17 : jd cX7_gatherLowsOnClock 17 (.aload_n 0) 1 18 := by decide +kernel
theorem dX7_gatherLowsOnClock_18 : jd cX7_gatherLowsOnClock 18 (.iload_n 1) 1 19 := by decide +kernel
theorem dX7_gatherLowsOnClock_19 : jd cX7_gatherLowsOnClock 19 (.iload_n 2) 1 20 := by decide +kernel
theorem dX7_gatherLowsOnClock_20 : jd cX7_gatherLowsOnClock 20 (.invokevirtual 204) 3 23 := by decide +kernel
theorem dX7_gatherLowsOnClock_23 : jt cX7_gatherLowsOnClock 23 (.goto 4) 4 27 26 := by decide +kernel
theorem dX7_gatherLowsOnClock_26 : jd cX7_gatherLowsOnClock 26 (.iconst (-1)) 1 27 := by decide +kernel
theorem dX7_gatherLowsOnClock_27 : jd cX7_gatherLowsOnClock 27 .ireturn 1 28 := by decide +kernel
theorem dX7_foldFromTo_0 : jd cX7_foldFromTo 0 (.iload_n 3) 1 1 := by decide +kernel
theorem dX7_foldFromTo_1 : jd cX7_foldFromTo 1 (.iload_n 2) 1 2 := by decide +kernel
theorem dX7_foldFromTo_2 : jd cX7_foldFromTo 2 (.invokestatic 153) 3 5 := by decide +kernel
theorem dX7_foldFromTo_5 : jt cX7_foldFromTo 5 (.ifCond .eq 18) 18 23 8 := by decide +kernel
theorem dX7_foldFromTo_8 : jd cX7_foldFromTo 8 (.iload 4) 2 10 := by decide +kernel
theorem dX7_foldFromTo_10 : jd cX7_foldFromTo 10 (.iload_n 2) 1 11 := by decide +kernel
theorem dX7_foldFromTo_11 : jd cX7_foldFromTo 11 (.invokestatic 153) 3 14 := by decide +kernel
theorem dX7_foldFromTo_14 : jt cX7_foldFromTo 14 (.ifCond .eq 9) 9 23 17 := by decide +kernel
theorem dX7_foldFromTo_17 : jd cX7_foldFromTo 17 (.iload_n 3) 1 18 := by decide +kernel
theorem dX7_foldFromTo_18 : jd cX7_foldFromTo 18 (.iload 4) 2 20 := by decide +kernel
theorem dX7_foldFromTo_20 : jt cX7_foldFromTo 20 (.if_icmp .le 5) 5 25 23 := by decide +kernel
theorem dX7_foldFromTo_23 : jd cX7_foldFromTo 23 (.iconst (-1)) 1 24 := by decide +kernel
theorem dX7_foldFromTo_24 : jd cX7_foldFromTo 24 .ireturn 1 25 := by decide +kernel
theorem dX7_foldFromTo_25 : jd cX7_foldFromTo 25 (.aload_n 0) 1 26 := by decide +kernel
theorem dX7_foldFromTo_26 : jd cX7_foldFromTo 26 (.iload_n 1) 1 27 := by decide +kernel
theorem dX7_foldFromTo_27 : jd cX7_foldFromTo 27 (.invokevirtual 94) 3 30 := by decide +kernel
theorem dX7_foldFromTo_30 : jd cX7_foldFromTo 30 (.istore 5) 2 32 := by decide +kernel
theorem dX7_foldFromTo_32 : jd cX7_foldFromTo 32 (.iload 5) 2 34 := by decide +kernel
theorem dX7_foldFromTo_34 : jt cX7_foldFromTo 34 (.ifCond .ne 18) 18 52 37 := by decide +kernel
theorem dX7_foldFromTo_37 : jd cX7_foldFromTo 37 (.aload_n 0) 1 38 := by decide +kernel
theorem dX7_foldFromTo_38 : jd cX7_foldFromTo 38 (.getfield 42) 3 41 := by decide +kernel
theorem dX7_foldFromTo_41 : jd cX7_foldFromTo 41 (.aload_n 0) 1 42 := by decide +kernel
theorem dX7_foldFromTo_42 : jd cX7_foldFromTo 42 (.getfield 28) 3 45 := by decide +kernel
theorem dX7_foldFromTo_45 : jd cX7_foldFromTo 45 (.iload_n 2) 1 46 := by decide +kernel
theorem dX7_foldFromTo_46 : jd cX7_foldFromTo 46 (.iload_n 3) 1 47 := by decide +kernel
theorem dX7_foldFromTo_47 : jd cX7_foldFromTo 47 (.iload 4) 2 49 := by decide +kernel
theorem dX7_foldFromTo_49 : jd cX7_foldFromTo 49 (.invokevirtual 268) 3 52 := by decide +kernel
theorem dX7_foldFromTo_52 : jd cX7_foldFromTo 52 (.iload 5) 2 54 := by decide +kernel
theorem dX7_foldFromTo_54 : jd cX7_foldFromTo 54 .ireturn 1 55 := by decide +kernel
theorem dX7_levelOfCurve_0 : jd cX7_levelOfCurve 0 (.aload_n 0) 1 1 := by decide +kernel
theorem dX7_levelOfCurve_1 : jd cX7_levelOfCurve 1 (.getfield 35) 3 4 := by decide +kernel
theorem dX7_levelOfCurve_4 : jd cX7_levelOfCurve 4 (.invokevirtual 272) 3 7 := by decide +kernel
theorem dX7_levelOfCurve_7 : jd cX7_levelOfCurve 7 (.iconst 0) 1 8 := by decide +kernel
theorem dX7_levelOfCurve_8 : jd cX7_levelOfCurve 8 (.istore_n 1) 1 9 := by decide +kernel
theorem dX7_levelOfCurve_9 : jd cX7_levelOfCurve 9 (.iload_n 1) 1 10 := by decide +kernel
theorem dX7_levelOfCurve_10 : jd cX7_levelOfCurve 10 (.aload_n 0) 1 11 := by decide +kernel
theorem dX7_levelOfCurve_11 : jd cX7_levelOfCurve 11 (.getfield 28) 3 14 := by decide +kernel
theorem dX7_levelOfCurve_14 : jd cX7_levelOfCurve 14 (.getfield 176) 3 17 := by decide +kernel
theorem dX7_levelOfCurve_17 : jt cX7_levelOfCurve 17 (.if_icmp .ge 25) 25 42 20 := by decide +kernel
theorem dX7_levelOfCurve_20 : jd cX7_levelOfCurve 20 (.aload_n 0) 1 21 := by decide +kernel
theorem dX7_levelOfCurve_21 : jd cX7_levelOfCurve 21 (.getfield 35) 3 24 := by decide +kernel
theorem dX7_levelOfCurve_24 : jd cX7_levelOfCurve 24 (.aload_n 0) 1 25 := by decide +kernel
theorem dX7_levelOfCurve_25 : jd cX7_levelOfCurve 25 (.getfield 28) 3 28 := by decide +kernel
theorem dX7_levelOfCurve_28 : jd cX7_levelOfCurve 28 (.getfield 187) 3 31 := by decide +kernel
theorem dX7_levelOfCurve_31 : jd cX7_levelOfCurve 31 (.iload_n 1) 1 32 := by decide +kernel
theorem dX7_levelOfCurve_32 : jd cX7_levelOfCurve 32 .iaload 1 33 := by decide +kernel
theorem dX7_levelOfCurve_33 : jd cX7_levelOfCurve 33 (.invokevirtual 275) 3 36 := by decide +kernel
theorem dX7_levelOfCurve_36 : jd cX7_levelOfCurve 36 (.iinc 1 1) 3 39 := by decide +kernel
theorem dX7_levelOfCurve_39 : jt cX7_levelOfCurve 39 (.goto (-30)) (-30) 9 42 := by decide +kernel
theorem dX7_levelOfCurve_42 : jd cX7_levelOfCurve 42 (.aload_n 0) 1 43 := by decide +kernel
theorem dX7_levelOfCurve_43 : jd cX7_levelOfCurve 43 (.getfield 35) 3 46 := by decide +kernel
theorem dX7_levelOfCurve_46 : jd cX7_levelOfCurve 46 (.invokevirtual 278) 3 49 := by decide +kernel
theorem dX7_levelOfCurve_49 : jd cX7_levelOfCurve 49 .ireturn 1 50 := by decide +kernel
theorem dX7_levelWithoutFootings_0 : jd cX7_levelWithoutFootings 0 (.aload_n 0) 1 1 := by decide +kernel
theorem dX7_levelWithoutFootings_1 : jd cX7_levelWithoutFootings 1 (.getfield 35) 3 4 := by decide +kernel
theorem dX7_levelWithoutFootings_4 : jd cX7_levelWithoutFootings 4 (.invokevirtual 272) 3 7 := by decide +kernel
theorem dX7_levelWithoutFootings_7 : jd cX7_levelWithoutFootings 7 (.iconst 0) 1 8 := by decide +kernel
theorem dX7_levelWithoutFootings_8 : jd cX7_levelWithoutFootings 8 (.istore_n 2) 1 9 := by decide +kernel
theorem dX7_levelWithoutFootings_9 : jd cX7_levelWithoutFootings 9 (.iload_n 2) 1 10 := by decide +kernel
theorem dX7_levelWithoutFootings_10 : jd cX7_levelWithoutFootings 10 (.bipush 60) 2 12 := by decide +kernel
theorem dX7_levelWithoutFootings_12 : jt cX7_levelWithoutFootings 12 (.if_icmp .ge 33) 33 45 15 := by decide +kernel
theorem dX7_levelWithoutFootings_15 : jd cX7_levelWithoutFootings 15 (.aload_n 1) 1 16 := by decide +kernel
theorem dX7_levelWithoutFootings_16 : jd cX7_levelWithoutFootings 16 (.getfield 112) 3 19 := by decide +kernel
theorem dX7_levelWithoutFootings_19 : jd cX7_levelWithoutFootings 19 (.iload_n 2) 1 20 := by decide +kernel
theorem dX7_levelWithoutFootings_20 : jd cX7_levelWithoutFootings 20 .iaload 1 21 := by decide +kernel
theorem dX7_levelWithoutFootings_21 : jd cX7_levelWithoutFootings 21 (.bipush (-9)) 2 23 := by decide +kernel
theorem dX7_levelWithoutFootings_23 : jt cX7_levelWithoutFootings 23 (.if_icmp .eq 16) 16 39 26 := by decide +kernel
theorem dX7_levelWithoutFootings_26 : jd cX7_levelWithoutFootings 26 (.aload_n 0) 1 27 := by decide +kernel
theorem dX7_levelWithoutFootings_27 : jd cX7_levelWithoutFootings 27 (.getfield 35) 3 30 := by decide +kernel
theorem dX7_levelWithoutFootings_30 : jd cX7_levelWithoutFootings 30 (.aload_n 1) 1 31 := by decide +kernel
theorem dX7_levelWithoutFootings_31 : jd cX7_levelWithoutFootings 31 (.getfield 112) 3 34 := by decide +kernel
theorem dX7_levelWithoutFootings_34 : jd cX7_levelWithoutFootings 34 (.iload_n 2) 1 35 := by decide +kernel
theorem dX7_levelWithoutFootings_35 : jd cX7_levelWithoutFootings 35 .iaload 1 36 := by decide +kernel
theorem dX7_levelWithoutFootings_36 : jd cX7_levelWithoutFootings 36 (.invokevirtual 275) 3 39 := by decide +kernel
theorem dX7_levelWithoutFootings_39 : jd cX7_levelWithoutFootings 39 (.iinc 2 1) 3 42 := by decide +kernel
theorem dX7_levelWithoutFootings_42 : jt cX7_levelWithoutFootings 42 (.goto (-33)) (-33) 9 45 := by decide +kernel
theorem dX7_levelWithoutFootings_45 : jd cX7_levelWithoutFootings 45 (.aload_n 0) 1 46 := by decide +kernel
theorem dX7_levelWithoutFootings_46 : jd cX7_levelWithoutFootings 46 (.getfield 35) 3 49 := by decide +kernel
theorem dX7_levelWithoutFootings_49 : jd cX7_levelWithoutFootings 49 (.invokevirtual 278) 3 52 := by decide +kernel
theorem dX7_levelWithoutFootings_52 : jd cX7_levelWithoutFootings 52 .ireturn 1 53 := by decide +kernel
theorem dX7_middleDifference_0 : jd cX7_middleDifference 0 (.aload_n 0) 1 1 := by decide +kernel
theorem dX7_middleDifference_1 : jd cX7_middleDifference 1 (.getfield 35) 3 4 := by decide +kernel
theorem dX7_middleDifference_4 : jd cX7_middleDifference 4 (.invokevirtual 272) 3 7 := by decide +kernel
theorem dX7_middleDifference_7 : jd cX7_middleDifference 7 (.iconst 0) 1 8 := by decide +kernel
theorem dX7_middleDifference_8 : jd cX7_middleDifference 8 (.istore_n 2) 1 9 := by decide +kernel
theorem dX7_middleDifference_9 : jd cX7_middleDifference 9 (.iload_n 2) 1 10 := by decide +kernel
theorem dX7_middleDifference_10 : jd cX7_middleDifference 10 (.aload_n 0) 1 11 := by decide +kernel
theorem dX7_middleDifference_11 : jd cX7_middleDifference 11 (.getfield 73) 3 14 := by decide +kernel
theorem dX7_middleDifference_14 : jt cX7_middleDifference 14 (.if_icmp .ge 63) 63 77 17 := by decide +kernel
theorem dX7_middleDifference_17 : jd cX7_middleDifference 17 (.aload_n 0) 1 18 := by decide +kernel
theorem dX7_middleDifference_18 : jd cX7_middleDifference 18 (.getfield 11) 3 21 := by decide +kernel
theorem dX7_middleDifference_21 : jd cX7_middleDifference 21 (.iload_n 2) 1 22 := by decide +kernel
theorem dX7_middleDifference_22 : jd cX7_middleDifference 22 .aaload 1 23 := by decide +kernel
theorem dX7_middleDifference_23 : jd cX7_middleDifference 23 (.iconst 1) 1 24 := by decide +kernel
theorem dX7_middleDifference_24 : jd cX7_middleDifference 24 (.invokevirtual 84) 3 27 := by decide +kernel
theorem dX7_middleDifference_27 : jt cX7_middleDifference 27 (.ifCond .eq 44) 44 71 30 := by decide +kernel
theorem dX7_middleDifference_30 : jd cX7_middleDifference 30 (.aload_n 0) 1 31 := by decide +kernel
theorem dX7_middleDifference_31 : jd cX7_middleDifference 31 (.getfield 11) 3 34 := by decide +kernel
theorem dX7_middleDifference_34 : jd cX7_middleDifference 34 (.iload_n 2) 1 35 := by decide +kernel
theorem dX7_middleDifference_35 : jd cX7_middleDifference 35 .aaload 1 36 := by decide +kernel
theorem dX7_middleDifference_36 : jd cX7_middleDifference 36 (.getfield 112) 3 39 := by decide +kernel
theorem dX7_middleDifference_39 : jd cX7_middleDifference 39 (.iload_n 1) 1 40 := by decide +kernel
theorem dX7_middleDifference_40 : jd cX7_middleDifference 40 .iaload 1 41 := by decide +kernel
theorem dX7_middleDifference_41 : jd cX7_middleDifference 41 (.bipush (-9)) 2 43 := by decide +kernel
theorem dX7_middleDifference_43 : jt cX7_middleDifference 43 (.if_icmp .eq 28) 28 71 46 := by decide +kernel
theorem dX7_middleDifference_46 : jd cX7_middleDifference 46 (.aload_n 0) 1 47 := by decide +kernel
theorem dX7_middleDifference_47 : jd cX7_middleDifference 47 (.getfield 35) 3 50 := by decide +kernel
theorem dX7_middleDifference_50 : jd cX7_middleDifference 50 (.aload_n 0) 1 51 := by decide +kernel
theorem dX7_middleDifference_51 : jd cX7_middleDifference 51 (.getfield 11) 3 54 := by decide +kernel
theorem dX7_middleDifference_54 : jd cX7_middleDifference 54 (.iload_n 2) 1 55 := by decide +kernel
theorem dX7_middleDifference_55 : jd cX7_middleDifference 55 .aaload 1 56 := by decide +kernel
theorem dX7_middleDifference_56 : jd cX7_middleDifference 56 (.getfield 112) 3 59 := by decide +kernel
theorem dX7_middleDifference_59 : jd cX7_middleDifference 59 (.iload_n 1) 1 60 := by decide +kernel
theorem dX7_middleDifference_60 : jd cX7_middleDifference 60 .iaload 1 61 := by decide +kernel
theorem dX7_middleDifference_61 : jd cX7_middleDifference 61 (.aload_n 0) 1 62 := by decide +kernel
theorem dX7_middleDifference_62 : jd cX7_middleDifference 62 (.getfield 63) 3 65 := by decide +kernel
theorem dX7_middleDifference_65 : jd cX7_middleDifference 65 (.iload_n 2) 1 66 := by decide +kernel
theorem dX7_middleDifference_66 : jd cX7_middleDifference 66 .iaload 1 67 := by decide +kernel
theorem dX7_middleDifference_67 : jd cX7_middleDifference 67 .isub 1 68 := by decide +kernel
theorem dX7_middleDifference_68 : jd cX7_middleDifference 68 (.invokevirtual 275) 3 71 := by decide +kernel
theorem dX7_middleDifference_71 : jd cX7_middleDifference 71 (.iinc 2 1) 3 74 := by decide +kernel
theorem dX7_middleDifference_74 : jt cX7_middleDifference 74 (.goto (-65)) (-65) 9 77 := by decide +kernel
theorem dX7_middleDifference_77 : jd cX7_middleDifference 77 (.aload_n 0) 1 78 := by decide +kernel
theorem dX7_middleDifference_78 : jd cX7_middleDifference 78 (.getfield 35) 3 81 := by decide +kernel
theorem dX7_middleDifference_81 : jd cX7_middleDifference 81 (.invokevirtual 278) 3 84 := by decide +kernel
theorem dX7_middleDifference_84 : jd cX7_middleDifference 84 .ireturn 1 85 := by decide +kernel
theorem dX7_measureCurve_0 : jd cX7_measureCurve 0 (.aload_n 0) 1 1 := by decide +kernel
theorem dX7_measureCurve_1 : jd cX7_measureCurve 1 (.invokevirtual 145) 3 4 := by decide +kernel
theorem dX7_measureCurve_4 : jd cX7_measureCurve 4 (.istore_n 1) 1 5 := by decide +kernel
theorem dX7_measureCurve_5 : jd cX7_measureCurve 5 (.aload_n 0) 1 6 := by decide +kernel
theorem dX7_measureCurve_6 : jd cX7_measureCurve 6 (.getfield 60) 3 9 := by decide +kernel
theorem dX7_measureCurve_9 : jd cX7_measureCurve 9 (.iconst 0) 1 10 := by decide +kernel
theorem dX7_measureCurve_10 : jd cX7_measureCurve 10 (.iload_n 1) 1 11 := by decide +kernel
theorem dX7_measureCurve_11 : jd cX7_measureCurve 11 .iastore 1 12 := by decide +kernel
theorem dX7_measureCurve_12 : jd cX7_measureCurve 12 (.aload_n 0) 1 13 := by decide +kernel
theorem dX7_measureCurve_13 : jd cX7_measureCurve 13 (.getfield 60) 3 16 := by decide +kernel
theorem dX7_measureCurve_16 : jd cX7_measureCurve 16 (.iconst 1) 1 17 := by decide +kernel
theorem dX7_measureCurve_17 : jd cX7_measureCurve 17 (.aload_n 0) 1 18 := by decide +kernel
theorem dX7_measureCurve_18 : jd cX7_measureCurve 18 (.getfield 35) 3 21 := by decide +kernel
theorem dX7_measureCurve_21 : jd cX7_measureCurve 21 (.invokevirtual 281) 3 24 := by decide +kernel
theorem dX7_measureCurve_24 : jd cX7_measureCurve 24 .iastore 1 25 := by decide +kernel
theorem dX7_measureCurve_25 : jd cX7_measureCurve 25 (.aload_n 0) 1 26 := by decide +kernel
theorem dX7_measureCurve_26 : jd cX7_measureCurve 26 (.getfield 60) 3 29 := by decide +kernel
theorem dX7_measureCurve_29 : jd cX7_measureCurve 29 (.iconst 2) 1 30 := by decide +kernel
theorem dX7_measureCurve_30 : jd cX7_measureCurve 30 (.aload_n 0) 1 31 := by decide +kernel
theorem dX7_measureCurve_31 : jd cX7_measureCurve 31 (.getfield 28) 3 34 := by decide +kernel
theorem dX7_measureCurve_34 : jd cX7_measureCurve 34 (.getfield 176) 3 37 := by decide +kernel
theorem dX7_measureCurve_37 : jd cX7_measureCurve 37 .iastore 1 38 := by decide +kernel
theorem dX7_measureCurve_38 : jd cX7_measureCurve 38 (.aload_n 0) 1 39 := by decide +kernel
theorem dX7_measureCurve_39 : jd cX7_measureCurve 39 (.getfield 49) 3 42 := by decide +kernel
theorem dX7_measureCurve_42 : jd cX7_measureCurve 42 (.aload_n 0) 1 43 := by decide +kernel
theorem dX7_measureCurve_43 : jd cX7_measureCurve 43 (.getfield 28) 3 46 := by decide +kernel
theorem dX7_measureCurve_46 : jd cX7_measureCurve 46 (.iload_n 1) 1 47 := by decide +kernel
theorem dX7_measureCurve_47 : jd cX7_measureCurve 47 (.bipush 100) 2 49 := by decide +kernel
theorem dX7_measureCurve_49 : jd cX7_measureCurve 49 .isub 1 50 := by decide +kernel
theorem dX7_measureCurve_50 : jd cX7_measureCurve 50 (.invokevirtual 265) 3 53 := by decide +kernel
theorem dX7_measureCurve_53 : jd cX7_measureCurve 53 (.aload_n 0) 1 54 := by decide +kernel
theorem dX7_measureCurve_54 : jd cX7_measureCurve 54 (.getfield 60) 3 57 := by decide +kernel
theorem dX7_measureCurve_57 : jd cX7_measureCurve 57 (.iconst 3) 1 58 := by decide +kernel
theorem dX7_measureCurve_58 : jd cX7_measureCurve 58 (.aload_n 0) 1 59 := by decide +kernel
theorem dX7_measureCurve_59 : jd cX7_measureCurve 59 (.getfield 49) 3 62 := by decide +kernel
theorem dX7_measureCurve_62 : jd cX7_measureCurve 62 (.getfield 207) 3 65 := by decide +kernel
theorem dX7_measureCurve_65 : jd cX7_measureCurve 65 .iastore 1 66 := by decide +kernel
theorem dX7_measureCurve_66 : jd cX7_measureCurve 66 .return_ 1 67 := by decide +kernel
theorem dX7_markOfCurve_0 : jd cX7_markOfCurve 0 (.aload_n 0) 1 1 := by decide +kernel
theorem dX7_markOfCurve_1 : jd cX7_markOfCurve 1 (.invokevirtual 284) 3 4 := by decide +kernel
theorem dX7_markOfCurve_4 : jd cX7_markOfCurve 4 (.iload_n 1) 1 5 := by decide +kernel
theorem dX7_markOfCurve_5 : jd cX7_markOfCurve 5 (.lookupswitch 41 #[(1, 27), (2, 34)]) 27 32 := by decide +kernel
theorem dX7_markOfCurve_32 : jd cX7_markOfCurve 32 (.aload_n 0) 1 33 := by decide +kernel
theorem dX7_markOfCurve_33 : jd cX7_markOfCurve 33 (.getfield 60) 3 36 := by decide +kernel
theorem dX7_markOfCurve_36 : jd cX7_markOfCurve 36 (.iconst 2) 1 37 := by decide +kernel
theorem dX7_markOfCurve_37 : jd cX7_markOfCurve 37 .iaload 1 38 := by decide +kernel
theorem dX7_markOfCurve_38 : jd cX7_markOfCurve 38 .ireturn 1 39 := by decide +kernel
theorem dX7_markOfCurve_39 : jd cX7_markOfCurve 39 (.aload_n 0) 1 40 := by decide +kernel
theorem dX7_markOfCurve_40 : jd cX7_markOfCurve 40 (.getfield 60) 3 43 := by decide +kernel
theorem dX7_markOfCurve_43 : jd cX7_markOfCurve 43 (.iconst 1) 1 44 := by decide +kernel
theorem dX7_markOfCurve_44 : jd cX7_markOfCurve 44 .iaload 1 45 := by decide +kernel
theorem dX7_markOfCurve_45 : jd cX7_markOfCurve 45 .ireturn 1 46 := by decide +kernel
theorem dX7_markOfCurve_46 : jd cX7_markOfCurve 46 (.aload_n 0) 1 47 := by decide +kernel
theorem dX7_markOfCurve_47 : jd cX7_markOfCurve 47 (.getfield 60) 3 50 := by decide +kernel
theorem dX7_markOfCurve_50 : jd cX7_markOfCurve 50 (.iconst 3) 1 51 := by decide +kernel
theorem dX7_markOfCurve_51 : jd cX7_markOfCurve 51 .iaload 1 52 := by decide +kernel
theorem dX7_markOfCurve_52 : jd cX7_markOfCurve 52 .ireturn 1 53 := by decide +kernel
theorem dX7_classOfCurve_0 : jd cX7_classOfCurve 0 (.aload_n 0) 1 1 := by decide +kernel
theorem dX7_classOfCurve_1 : jd cX7_classOfCurve 1 (.getfield 28) 3 4 := by decide +kernel
theorem dX7_classOfCurve_4 : jd cX7_classOfCurve 4 (.getfield 176) 3 7 := by decide +kernel
theorem dX7_classOfCurve_7 : jt cX7_classOfCurve 7 (.ifCond .ne 6) 6 13 10 := by decide +kernel
theorem dX7_classOfCurve_10 : jd cX7_classOfCurve 10 (.bipush (-9)) 2 12 := by decide +kernel
theorem dX7_classOfCurve_12 : jd cX7_classOfCurve 12 .ireturn 1 13 := by decide +kernel
theorem dX7_classOfCurve_13 : jd cX7_classOfCurve 13 (.aload_n 0) 1 14 := by decide +kernel
theorem dX7_classOfCurve_14 : jd cX7_classOfCurve 14 (.invokevirtual 284) 3 17 := by decide +kernel
theorem dX7_classOfCurve_17 : jd cX7_classOfCurve 17 (.iconst 0) 1 18 := by decide +kernel
theorem dX7_classOfCurve_18 : jd cX7_classOfCurve 18 (.istore_n 1) 1 19 := by decide +kernel
theorem dX7_classOfCurve_19 : jd cX7_classOfCurve 19 (.iload_n 1) 1 20 := by decide +kernel
theorem dX7_classOfCurve_20 : jd cX7_classOfCurve 20 (.aload_n 0) 1 21 := by decide +kernel
theorem dX7_classOfCurve_21 : jd cX7_classOfCurve 21 (.getfield 222) 3 24 := by decide +kernel
theorem dX7_classOfCurve_24 : jt cX7_classOfCurve 24 (.if_icmp .ge 35) 35 59 27 := by decide +kernel
theorem dX7_classOfCurve_27 : jd cX7_classOfCurve 27 (.aload_n 0) 1 28 := by decide +kernel
theorem dX7_classOfCurve_28 : jd cX7_classOfCurve 28 (.getfield 17) 3 31 := by decide +kernel
theorem dX7_classOfCurve_31 : jd cX7_classOfCurve 31 (.iload_n 1) 1 32 := by decide +kernel
theorem dX7_classOfCurve_32 : jd cX7_classOfCurve 32 .aaload 1 33 := by decide +kernel
theorem dX7_classOfCurve_33 : jd cX7_classOfCurve 33 (.aload_n 0) 1 34 := by decide +kernel
theorem dX7_classOfCurve_34 : jd cX7_classOfCurve 34 (.getfield 60) 3 37 := by decide +kernel
theorem dX7_classOfCurve_37 : jd cX7_classOfCurve 37 (.invokevirtual 287) 3 40 := by decide +kernel
theorem dX7_classOfCurve_40 : jt cX7_classOfCurve 40 (.ifCond .eq 13) 13 53 43 := by decide +kernel
theorem dX7_classOfCurve_43 : jd cX7_classOfCurve 43 (.aload_n 0) 1 44 := by decide +kernel
theorem dX7_classOfCurve_44 : jd cX7_classOfCurve 44 (.getfield 17) 3 47 := by decide +kernel
theorem dX7_classOfCurve_47 : jd cX7_classOfCurve 47 (.iload_n 1) 1 48 := by decide +kernel
theorem dX7_classOfCurve_48 : jd cX7_classOfCurve 48 .aaload 1 49 := by decide +kernel
theorem dX7_classOfCurve_49 : jd cX7_classOfCurve 49 (.getfield 291) 3 52 := by decide +kernel
theorem dX7_classOfCurve_52 : jd cX7_classOfCurve 52 .ireturn 1 53 := by decide +kernel
theorem dX7_classOfCurve_53 : jd cX7_classOfCurve 53 (.iinc 1 1) 3 56 := by decide +kernel
theorem dX7_classOfCurve_56 : jt cX7_classOfCurve 56 (.goto (-37)) (-37) 19 59 := by decide +kernel
theorem dX7_classOfCurve_59 : jd cX7_classOfCurve 59 (.bipush (-9)) 2 61 := by decide +kernel
theorem dX7_classOfCurve_61 : jd cX7_classOfCurve 61 .ireturn 1 62 := by decide +kernel
theorem dX7_phaseOfTime_0 : jd cX7_phaseOfTime 0 (.iload_n 1) 1 1 := by decide +kernel
theorem dX7_phaseOfTime_1 : jd cX7_phaseOfTime 1 (.iconst 1) 1 2 := by decide +kernel
theorem dX7_phaseOfTime_2 : jt cX7_phaseOfTime 2 (.if_icmp .ge 7) 7 9 5 := by decide +kernel
theorem dX7_phaseOfTime_5 : jd cX7_phaseOfTime 5 (.iconst 0) 1 6 := by decide +kernel
theorem dX7_phaseOfTime_6 : jt cX7_phaseOfTime 6 (.goto 8) 8 14 9 := by decide +kernel
theorem dX7_phaseOfTime_9 : jd cX7_phaseOfTime 9 (.iload_n 0) 1 10 := by decide +kernel
theorem dX7_phaseOfTime_10 : jd cX7_phaseOfTime 10 (.iload_n 2) 1 11 := by decide +kernel
theorem dX7_phaseOfTime_11 : jd cX7_phaseOfTime 11 .imul 1 12 := by decide +kernel
theorem dX7_phaseOfTime_12 : jd cX7_phaseOfTime 12 (.iload_n 1) 1 13 := by decide +kernel
theorem dX7_phaseOfTime_13 : jd cX7_phaseOfTime 13 .irem 1 14 := by decide +kernel
theorem dX7_phaseOfTime_14 : jd cX7_phaseOfTime 14 .ireturn 1 15 := by decide +kernel
theorem dX7_turnOfTime_0 : jd cX7_turnOfTime 0 (.iload_n 2) 1 1 := by decide +kernel
theorem dX7_turnOfTime_1 : jd cX7_turnOfTime 1 (.iconst 1) 1 2 := by decide +kernel
theorem dX7_turnOfTime_2 : jt cX7_turnOfTime 2 (.if_icmp .ge 7) 7 9 5 := by decide +kernel
theorem dX7_turnOfTime_5 : jd cX7_turnOfTime 5 (.iconst 0) 1 6 := by decide +kernel
theorem dX7_turnOfTime_6 : jt cX7_turnOfTime 6 (.goto 18) 18 24 9 := by decide +kernel
theorem dX7_turnOfTime_9 : jd cX7_turnOfTime 9 (.iconst 2) 1 10 := by decide +kernel
theorem dX7_turnOfTime_10 : jd cX7_turnOfTime 10 (.iload_n 0) 1 11 := by decide +kernel
theorem dX7_turnOfTime_11 : jd cX7_turnOfTime 11 (.iload_n 1) 1 12 := by decide +kernel
theorem dX7_turnOfTime_12 : jd cX7_turnOfTime 12 .isub 1 13 := by decide +kernel
theorem dX7_turnOfTime_13 : jd cX7_turnOfTime 13 .imul 1 14 := by decide +kernel
theorem dX7_turnOfTime_14 : jd cX7_turnOfTime 14 (.iload_n 3) 1 15 := by decide +kernel
theorem dX7_turnOfTime_15 : jd cX7_turnOfTime 15 .imul 1 16 := by decide +kernel
theorem dX7_turnOfTime_16 : jd cX7_turnOfTime 16 (.iload_n 2) 1 17 := by decide +kernel
theorem dX7_turnOfTime_17 : jd cX7_turnOfTime 17 .iadd 1 18 := by decide +kernel
theorem dX7_turnOfTime_18 : jd cX7_turnOfTime 18 (.iconst 2) 1 19 := by decide +kernel
theorem dX7_turnOfTime_19 : jd cX7_turnOfTime 19 (.iload_n 2) 1 20 := by decide +kernel
theorem dX7_turnOfTime_20 : jd cX7_turnOfTime 20 .imul 1 21 := by decide +kernel
theorem dX7_turnOfTime_21 : jd cX7_turnOfTime 21 (.invokestatic 294) 3 24 := by decide +kernel
theorem dX7_turnOfTime_24 : jd cX7_turnOfTime 24 .ireturn 1 25 := by decide +kernel
theorem dX7_lateOfTime_0 : jd cX7_lateOfTime 0 (.iload_n 3) 1 1 := by decide +kernel
theorem dX7_lateOfTime_1 : jd cX7_lateOfTime 1 (.iload_n 0) 1 2 := by decide +kernel
theorem dX7_lateOfTime_2 : jd cX7_lateOfTime 2 (.iload_n 1) 1 3 := by decide +kernel
theorem dX7_lateOfTime_3 : jd cX7_lateOfTime 3 .isub 1 4 := by decide +kernel
theorem dX7_lateOfTime_4 : jd cX7_lateOfTime 4 .imul 1 5 := by decide +kernel
theorem dX7_lateOfTime_5 : jd cX7_lateOfTime 5 (.iload_n 0) 1 6 := by decide +kernel
theorem dX7_lateOfTime_6 : jd cX7_lateOfTime 6 (.iload_n 1) 1 7 := by decide +kernel
theorem dX7_lateOfTime_7 : jd cX7_lateOfTime 7 (.iload_n 2) 1 8 := by decide +kernel
theorem dX7_lateOfTime_8 : jd cX7_lateOfTime 8 (.iload_n 3) 1 9 := by decide +kernel
theorem dX7_lateOfTime_9 : jd cX7_lateOfTime 9 (.invokestatic 216) 3 12 := by decide +kernel
theorem dX7_lateOfTime_12 : jd cX7_lateOfTime 12 (.iload_n 2) 1 13 := by decide +kernel
theorem dX7_lateOfTime_13 : jd cX7_lateOfTime 13 .imul 1 14 := by decide +kernel
theorem dX7_lateOfTime_14 : jd cX7_lateOfTime 14 .isub 1 15 := by decide +kernel
theorem dX7_lateOfTime_15 : jd cX7_lateOfTime 15 .ireturn 1 16 := by decide +kernel
theorem dX7_countOfRows_0 : jd cX7_countOfRows 0 (.iconst 0) 1 1 := by decide +kernel
theorem dX7_countOfRows_1 : jd cX7_countOfRows 1 (.istore_n 1) 1 2 := by decide +kernel
theorem dX7_countOfRows_2 : jd cX7_countOfRows 2 (.iconst 0) 1 3 := by decide +kernel
theorem dX7_countOfRows_3 : jd cX7_countOfRows 3 (.istore_n 2) 1 4 := by decide +kernel
theorem dX7_countOfRows_4 : jd cX7_countOfRows 4 (.iload_n 2) 1 5 := by decide +kernel
theorem dX7_countOfRows_5 : jd cX7_countOfRows 5 (.aload_n 0) 1 6 := by decide +kernel
theorem dX7_countOfRows_6 : jd cX7_countOfRows 6 (.getfield 73) 3 9 := by decide +kernel
theorem dX7_countOfRows_9 : jt cX7_countOfRows 9 (.if_icmp .ge 24) 24 33 12 := by decide +kernel
theorem dX7_countOfRows_12 : jd cX7_countOfRows 12 (.aload_n 0) 1 13 := by decide +kernel
theorem dX7_countOfRows_13 : jd cX7_countOfRows 13 (.getfield 11) 3 16 := by decide +kernel
theorem dX7_countOfRows_16 : jd cX7_countOfRows 16 (.iload_n 2) 1 17 := by decide +kernel
theorem dX7_countOfRows_17 : jd cX7_countOfRows 17 .aaload 1 18 := by decide +kernel
theorem dX7_countOfRows_18 : jd cX7_countOfRows 18 (.getfield 100) 3 21 := by decide +kernel
theorem dX7_countOfRows_21 : jt cX7_countOfRows 21 (.ifCond .eq 6) 6 27 24 := by decide +kernel
theorem dX7_countOfRows_24 : jd cX7_countOfRows 24 (.iinc 1 1) 3 27 := by decide +kernel
theorem dX7_countOfRows_27 : jd cX7_countOfRows 27 (.iinc 2 1) 3 30 := by decide +kernel
theorem dX7_countOfRows_30 : jt cX7_countOfRows 30 (.goto (-26)) (-26) 4 33 := by decide +kernel
theorem dX7_countOfRows_33 : jd cX7_countOfRows 33 (.iload_n 1) 1 34 := by decide +kernel
theorem dX7_countOfRows_34 : jd cX7_countOfRows 34 .ireturn 1 35 := by decide +kernel
theorem dX7_countOfLights_0 : jd cX7_countOfLights 0 (.iconst 0) 1 1 := by decide +kernel
theorem dX7_countOfLights_1 : jd cX7_countOfLights 1 (.istore_n 1) 1 2 := by decide +kernel
theorem dX7_countOfLights_2 : jd cX7_countOfLights 2 (.iconst 0) 1 3 := by decide +kernel
theorem dX7_countOfLights_3 : jd cX7_countOfLights 3 (.istore_n 2) 1 4 := by decide +kernel
theorem dX7_countOfLights_4 : jd cX7_countOfLights 4 (.iload_n 2) 1 5 := by decide +kernel
theorem dX7_countOfLights_5 : jd cX7_countOfLights 5 (.aload_n 0) 1 6 := by decide +kernel
theorem dX7_countOfLights_6 : jd cX7_countOfLights 6 (.getfield 73) 3 9 := by decide +kernel
theorem dX7_countOfLights_9 : jt cX7_countOfLights 9 (.if_icmp .ge 42) 42 51 12 := by decide +kernel
theorem dX7_countOfLights_12 : jd cX7_countOfLights 12 (.iconst 0) 1 13 := by decide +kernel
theorem dX7_countOfLights_13 : jd cX7_countOfLights 13 (.istore_n 3) 1 14 := by decide +kernel
theorem dX7_countOfLights_14 : jd cX7_countOfLights 14 (.iload_n 3) 1 15 := by decide +kernel
theorem dX7_countOfLights_15 : jd cX7_countOfLights 15 (.bipush 60) 2 17 := by decide +kernel
theorem dX7_countOfLights_17 : jt cX7_countOfLights 17 (.if_icmp .ge 28) 28 45 20 := by decide +kernel
theorem dX7_countOfLights_20 : jd cX7_countOfLights 20 (.aload_n 0) 1 21 := by decide +kernel
theorem dX7_countOfLights_21 : jd cX7_countOfLights 21 (.getfield 11) 3 24 := by decide +kernel
theorem dX7_countOfLights_24 : jd cX7_countOfLights 24 (.iload_n 2) 1 25 := by decide +kernel
theorem dX7_countOfLights_25 : jd cX7_countOfLights 25 .aaload 1 26 := by decide +kernel
theorem dX7_countOfLights_26 : jd cX7_countOfLights 26 (.getfield 112) 3 29 := by decide +kernel
theorem dX7_countOfLights_29 : jd cX7_countOfLights 29 (.iload_n 3) 1 30 := by decide +kernel
theorem dX7_countOfLights_30 : jd cX7_countOfLights 30 .iaload 1 31 := by decide +kernel
theorem dX7_countOfLights_31 : jd cX7_countOfLights 31 (.bipush (-9)) 2 33 := by decide +kernel
theorem dX7_countOfLights_33 : jt cX7_countOfLights 33 (.if_icmp .eq 6) 6 39 36 := by decide +kernel
theorem dX7_countOfLights_36 : jd cX7_countOfLights 36 (.iinc 1 1) 3 39 := by decide +kernel
theorem dX7_countOfLights_39 : jd cX7_countOfLights 39 (.iinc 3 1) 3 42 := by decide +kernel
theorem dX7_countOfLights_42 : jt cX7_countOfLights 42 (.goto (-28)) (-28) 14 45 := by decide +kernel
theorem dX7_countOfLights_45 : jd cX7_countOfLights 45 (.iinc 2 1) 3 48 := by decide +kernel
theorem dX7_countOfLights_48 : jt cX7_countOfLights 48 (.goto (-44)) (-44) 4 51 := by decide +kernel
theorem dX7_countOfLights_51 : jd cX7_countOfLights 51 (.iload_n 1) 1 52 := by decide +kernel
theorem dX7_countOfLights_52 : jd cX7_countOfLights 52 .ireturn 1 53 := by decide +kernel
theorem dJ9_floorDiv_7cf53_0 : jd cJ9_floorDiv_7cf53 0 (.iload_n 0) 1 1 := by decide +kernel
theorem dJ9_floorDiv_7cf53_1 : jd cJ9_floorDiv_7cf53 1 (.iload_n 1) 1 2 := by decide +kernel
theorem dJ9_floorDiv_7cf53_2 : jd cJ9_floorDiv_7cf53 2 .idiv 1 3 := by decide +kernel
theorem dJ9_floorDiv_7cf53_3 : jd cJ9_floorDiv_7cf53 3 (.istore_n 2) 1 4 := by decide +kernel
theorem dJ9_floorDiv_7cf53_4 : jd cJ9_floorDiv_7cf53 4 (.iload_n 0) 1 5 := by decide +kernel
theorem dJ9_floorDiv_7cf53_5 : jd cJ9_floorDiv_7cf53 5 (.iload_n 1) 1 6 := by decide +kernel
theorem dJ9_floorDiv_7cf53_6 : jd cJ9_floorDiv_7cf53 6 .ixor 1 7 := by decide +kernel
theorem dJ9_floorDiv_7cf53_7 : jt cJ9_floorDiv_7cf53 7 (.ifCond .ge 14) 14 21 10 := by decide +kernel
theorem dJ9_floorDiv_7cf53_10 : jd cJ9_floorDiv_7cf53 10 (.iload_n 2) 1 11 := by decide +kernel
theorem dJ9_floorDiv_7cf53_11 : jd cJ9_floorDiv_7cf53 11 (.iload_n 1) 1 12 := by decide +kernel
theorem dJ9_floorDiv_7cf53_12 : jd cJ9_floorDiv_7cf53 12 .imul 1 13 := by decide +kernel
theorem dJ9_floorDiv_7cf53_13 : jd cJ9_floorDiv_7cf53 13 (.iload_n 0) 1 14 := by decide +kernel
theorem dJ9_floorDiv_7cf53_14 : jt cJ9_floorDiv_7cf53 14 (.if_icmp .eq 7) 7 21 17 := by decide +kernel
theorem dJ9_floorDiv_7cf53_17 : jd cJ9_floorDiv_7cf53 17 (.iload_n 2) 1 18 := by decide +kernel
theorem dJ9_floorDiv_7cf53_18 : jd cJ9_floorDiv_7cf53 18 (.iconst 1) 1 19 := by decide +kernel
theorem dJ9_floorDiv_7cf53_19 : jd cJ9_floorDiv_7cf53 19 .isub 1 20 := by decide +kernel
theorem dJ9_floorDiv_7cf53_20 : jd cJ9_floorDiv_7cf53 20 .ireturn 1 21 := by decide +kernel
theorem dJ9_floorDiv_7cf53_21 : jd cJ9_floorDiv_7cf53 21 (.iload_n 2) 1 22 := by decide +kernel
theorem dJ9_floorDiv_7cf53_22 : jd cJ9_floorDiv_7cf53 22 .ireturn 1 23 := by decide +kernel
theorem dJ9_floorMod_7cf53_0 : jd cJ9_floorMod_7cf53 0 (.iload_n 0) 1 1 := by decide +kernel
theorem dJ9_floorMod_7cf53_1 : jd cJ9_floorMod_7cf53 1 (.iload_n 1) 1 2 := by decide +kernel
theorem dJ9_floorMod_7cf53_2 : jd cJ9_floorMod_7cf53 2 .irem 1 3 := by decide +kernel
theorem dJ9_floorMod_7cf53_3 : jd cJ9_floorMod_7cf53 3 (.istore_n 2) 1 4 := by decide +kernel
theorem dJ9_floorMod_7cf53_4 : jd cJ9_floorMod_7cf53 4 (.iload_n 0) 1 5 := by decide +kernel
theorem dJ9_floorMod_7cf53_5 : jd cJ9_floorMod_7cf53 5 (.iload_n 1) 1 6 := by decide +kernel
theorem dJ9_floorMod_7cf53_6 : jd cJ9_floorMod_7cf53 6 .ixor 1 7 := by decide +kernel
theorem dJ9_floorMod_7cf53_7 : jt cJ9_floorMod_7cf53 7 (.ifCond .ge 11) 11 18 10 := by decide +kernel
theorem dJ9_floorMod_7cf53_10 : jd cJ9_floorMod_7cf53 10 (.iload_n 2) 1 11 := by decide +kernel
theorem dJ9_floorMod_7cf53_11 : jt cJ9_floorMod_7cf53 11 (.ifCond .eq 7) 7 18 14 := by decide +kernel
theorem dJ9_floorMod_7cf53_14 : jd cJ9_floorMod_7cf53 14 (.iload_n 2) 1 15 := by decide +kernel
theorem dJ9_floorMod_7cf53_15 : jd cJ9_floorMod_7cf53 15 (.iload_n 1) 1 16 := by decide +kernel
theorem dJ9_floorMod_7cf53_16 : jd cJ9_floorMod_7cf53 16 .iadd 1 17 := by decide +kernel
theorem dJ9_floorMod_7cf53_17 : jd cJ9_floorMod_7cf53 17 .ireturn 1 18 := by decide +kernel
theorem dJ9_floorMod_7cf53_18 : jd cJ9_floorMod_7cf53 18 (.iload_n 2) 1 19 := by decide +kernel
theorem dJ9_floorMod_7cf53_19 : jd cJ9_floorMod_7cf53 19 .ireturn 1 20 := by decide +kernel
theorem dJ9_abs_0f7a4_0 : jd cJ9_abs_0f7a4 0 (.iload_n 0) 1 1 := by decide +kernel
theorem dJ9_abs_0f7a4_1 : jt cJ9_abs_0f7a4 1 (.ifCond .ge 8) 8 9 4 := by decide +kernel
theorem dJ9_abs_0f7a4_4 : jd cJ9_abs_0f7a4 4 (.iload_n 0) 1 5 := by decide +kernel
theorem dJ9_abs_0f7a4_5 : jd cJ9_abs_0f7a4 5 .ineg 1 6 := by decide +kernel
theorem dJ9_abs_0f7a4_6 : jt cJ9_abs_0f7a4 6 (.goto 4) 4 10 9 := by decide +kernel
theorem dJ9_abs_0f7a4_9 : jd cJ9_abs_0f7a4 9 (.iload_n 0) 1 10 := by decide +kernel
theorem dJ9_abs_0f7a4_10 : jd cJ9_abs_0f7a4 10 .ireturn 1 11 := by decide +kernel
theorem dJ9_min_7cf53_0 : jd cJ9_min_7cf53 0 (.iload_n 0) 1 1 := by decide +kernel
theorem dJ9_min_7cf53_1 : jd cJ9_min_7cf53 1 (.iload_n 1) 1 2 := by decide +kernel
theorem dJ9_min_7cf53_2 : jt cJ9_min_7cf53 2 (.if_icmp .gt 7) 7 9 5 := by decide +kernel
theorem dJ9_min_7cf53_5 : jd cJ9_min_7cf53 5 (.iload_n 0) 1 6 := by decide +kernel
theorem dJ9_min_7cf53_6 : jt cJ9_min_7cf53 6 (.goto 4) 4 10 9 := by decide +kernel
theorem dJ9_min_7cf53_9 : jd cJ9_min_7cf53 9 (.iload_n 1) 1 10 := by decide +kernel
theorem dJ9_min_7cf53_10 : jd cJ9_min_7cf53 10 .ireturn 1 11 := by decide +kernel
theorem dJ7_fill_53178_0 : jd cJ7_fill_53178 0 (.iconst 0) 1 1 := by decide +kernel
theorem dJ7_fill_53178_1 : jd cJ7_fill_53178 1 (.istore_n 2) 1 2 := by decide +kernel
theorem dJ7_fill_53178_2 : jd cJ7_fill_53178 2 (.aload_n 0) 1 3 := by decide +kernel
theorem dJ7_fill_53178_3 : jd cJ7_fill_53178 3 .arraylength 1 4 := by decide +kernel
theorem dJ7_fill_53178_4 : jd cJ7_fill_53178 4 (.istore_n 3) 1 5 := by decide +kernel
theorem dJ7_fill_53178_5 : jd cJ7_fill_53178 5 (.iload_n 2) 1 6 := by decide +kernel
theorem dJ7_fill_53178_6 : jd cJ7_fill_53178 6 (.iload_n 3) 1 7 := by decide +kernel
theorem dJ7_fill_53178_7 : jt cJ7_fill_53178 7 (.if_icmp .ge 13) 13 20 10 := by decide +kernel
theorem dJ7_fill_53178_10 : jd cJ7_fill_53178 10 (.aload_n 0) 1 11 := by decide +kernel
theorem dJ7_fill_53178_11 : jd cJ7_fill_53178 11 (.iload_n 2) 1 12 := by decide +kernel
theorem dJ7_fill_53178_12 : jd cJ7_fill_53178 12 (.iload_n 1) 1 13 := by decide +kernel
theorem dJ7_fill_53178_13 : jd cJ7_fill_53178 13 .iastore 1 14 := by decide +kernel
theorem dJ7_fill_53178_14 : jd cJ7_fill_53178 14 (.iinc 2 1) 3 17 := by decide +kernel
theorem dJ7_fill_53178_17 : jt cJ7_fill_53178 17 (.goto (-12)) (-12) 5 20 := by decide +kernel
theorem dJ7_fill_53178_20 : jd cJ7_fill_53178 20 .return_ 1 21 := by decide +kernel
end
section
theorem dX8_init_0 : jd cX8_init 0 (.aload_n 0) 1 1 := by decide +kernel
theorem dX8_init_1 : jd cX8_init 1 (.invokespecial 1) 3 4 := by decide +kernel
theorem dX8_init_4 : jd cX8_init 4 (.aload_n 0) 1 5 := by decide +kernel
theorem dX8_init_5 : jd cX8_init 5 (.bipush 6) 2 7 := by decide +kernel
theorem dX8_init_7 : jd cX8_init 7 (.newarray .int) 2 9 := by decide +kernel
theorem dX8_init_9 : jd cX8_init 9 (.putfield 7) 3 12 := by decide +kernel
theorem dX8_init_12 : jd cX8_init 12 (.aload_n 0) 1 13 := by decide +kernel
theorem dX8_init_13 : jd cX8_init 13 (.bipush 12) 2 15 := by decide +kernel
theorem dX8_init_15 : jd cX8_init 15 (.newarray .int) 2 17 := by decide +kernel
theorem dX8_init_17 : jd cX8_init 17 (.putfield 13) 3 20 := by decide +kernel
theorem dX8_init_20 : jd cX8_init 20 (.aload_n 0) 1 21 := by decide +kernel
theorem dX8_init_21 : jd cX8_init 21 (.bipush 12) 2 23 := by decide +kernel
theorem dX8_init_23 : jd cX8_init 23 (.newarray .boolean) 2 25 := by decide +kernel
theorem dX8_init_25 : jd cX8_init 25 (.putfield 16) 3 28 := by decide +kernel
theorem dX8_init_28 : jd cX8_init 28 (.aload_n 0) 1 29 := by decide +kernel
theorem dX8_init_29 : jd cX8_init 29 (.sipush 720) 3 32 := by decide +kernel
theorem dX8_init_32 : jd cX8_init 32 (.newarray .int) 2 34 := by decide +kernel
theorem dX8_init_34 : jd cX8_init 34 (.putfield 20) 3 37 := by decide +kernel
theorem dX8_init_37 : jd cX8_init 37 (.aload_n 0) 1 38 := by decide +kernel
theorem dX8_init_38 : jd cX8_init 38 (.bipush 60) 2 40 := by decide +kernel
theorem dX8_init_40 : jd cX8_init 40 (.newarray .int) 2 42 := by decide +kernel
theorem dX8_init_42 : jd cX8_init 42 (.putfield 23) 3 45 := by decide +kernel
theorem dX8_init_45 : jd cX8_init 45 (.aload_n 0) 1 46 := by decide +kernel
theorem dX8_init_46 : jd cX8_init 46 (.bipush 60) 2 48 := by decide +kernel
theorem dX8_init_48 : jd cX8_init 48 (.newarray .int) 2 50 := by decide +kernel
theorem dX8_init_50 : jd cX8_init 50 (.putfield 26) 3 53 := by decide +kernel
theorem dX8_init_53 : jd cX8_init 53 (.aload_n 0) 1 54 := by decide +kernel
theorem dX8_init_54 : jd cX8_init 54 (.bipush 60) 2 56 := by decide +kernel
theorem dX8_init_56 : jd cX8_init 56 (.newarray .int) 2 58 := by decide +kernel
theorem dX8_init_58 : jd cX8_init 58 (.putfield 29) 3 61 := by decide +kernel
theorem dX8_init_61 : jd cX8_init 61 (.aload_n 0) 1 62 := by decide +kernel
theorem dX8_init_62 : jd cX8_init 62 (.bipush 12) 2 64 := by decide +kernel
theorem dX8_init_64 : jd cX8_init 64 (.newarray .int) 2 66 := by decide +kernel
theorem dX8_init_66 : jd cX8_init 66 (.putfield 32) 3 69 := by decide +kernel
theorem dX8_init_69 : jd cX8_init 69 (.aload_n 0) 1 70 := by decide +kernel
theorem dX8_init_70 : jd cX8_init 70 (.bipush 60) 2 72 := by decide +kernel
theorem dX8_init_72 : jd cX8_init 72 (.newarray .int) 2 74 := by decide +kernel
theorem dX8_init_74 : jd cX8_init 74 (.putfield 35) 3 77 := by decide +kernel
theorem dX8_init_77 : jd cX8_init 77 (.aload_n 0) 1 78 := by decide +kernel
theorem dX8_init_78 : jd cX8_init 78 (.bipush (-9)) 2 80 := by decide +kernel
theorem dX8_init_80 : jd cX8_init 80 (.putfield 38) 3 83 := by decide +kernel
theorem dX8_init_83 : jd cX8_init 83 (.aload_n 0) 1 84 := by decide +kernel
theorem dX8_init_84 : jd cX8_init 84 (.bipush (-9)) 2 86 := by decide +kernel
theorem dX8_init_86 : jd cX8_init 86 (.putfield 42) 3 89 := by decide +kernel
theorem dX8_init_89 : jd cX8_init 89 (.aload_n 0) 1 90 := by decide +kernel
theorem dX8_init_90 : jd cX8_init 90 (.bipush (-9)) 2 92 := by decide +kernel
theorem dX8_init_92 : jd cX8_init 92 (.putfield 45) 3 95 := by decide +kernel
theorem dX8_init_95 : jd cX8_init 95 (.aload_n 0) 1 96 := by decide +kernel
theorem dX8_init_96 : jd cX8_init 96 (.bipush 60) 2 98 := by decide +kernel
theorem dX8_init_98 : jd cX8_init 98 (.newarray .int) 2 100 := by decide +kernel
theorem dX8_init_100 : jd cX8_init 100 (.putfield 48) 3 103 := by decide +kernel
theorem dX8_init_103 : jd cX8_init 103 (.aload_n 0) 1 104 := by decide +kernel
theorem dX8_init_104 : jd cX8_init 104 (.bipush 10) 2 106 := by decide +kernel
theorem dX8_init_106 : jd cX8_init 106 (.newarray .int) 2 108 := by decide +kernel
theorem dX8_init_108 : jd cX8_init 108 (.putfield 51) 3 111 := by decide +kernel
theorem dX8_init_111 : jd cX8_init 111 (.aload_n 0) 1 112 := by decide +kernel
theorem dX8_init_112 : jd cX8_init 112 (.bipush 10) 2 114 := by decide +kernel
theorem dX8_init_114 : jd cX8_init 114 (.newarray .int) 2 116 := by decide +kernel
theorem dX8_init_116 : jd cX8_init 116 (.putfield 54) 3 119 := by decide +kernel
theorem dX8_init_119 : jd cX8_init 119 (.aload_n 0) 1 120 := by decide +kernel
theorem dX8_init_120 : jd cX8_init 120 (.bipush 10) 2 122 := by decide +kernel
theorem dX8_init_122 : jd cX8_init 122 (.newarray .int) 2 124 := by decide +kernel
theorem dX8_init_124 : jd cX8_init 124 (.putfield 57) 3 127 := by decide +kernel
theorem dX8_init_127 : jd cX8_init 127 (.aload_n 0) 1 128 := by decide +kernel
theorem dX8_init_128 : jd cX8_init 128 (.bipush 10) 2 130 := by decide +kernel
theorem dX8_init_130 : jd cX8_init 130 (.newarray .int) 2 132 := by decide +kernel
theorem dX8_init_132 : jd cX8_init 132 (.putfield 60) 3 135 := by decide +kernel
theorem dX8_init_135 : jd cX8_init 135 (.aload_n 0) 1 136 := by decide +kernel
theorem dX8_init_136 : jd cX8_init 136 (.bipush 12) 2 138 := by decide +kernel
theorem dX8_init_138 : jd cX8_init 138 (.newarray .int) 2 140 := by decide +kernel
theorem dX8_init_140 : jd cX8_init 140 (.putfield 63) 3 143 := by decide +kernel
theorem dX8_init_143 : jd cX8_init 143 (.iconst 0) 1 144 := by decide +kernel
theorem dX8_init_144 : jd cX8_init 144 (.istore_n 1) 1 145 := by decide +kernel
theorem dX8_init_145 : jd cX8_init 145 (.iload_n 1) 1 146 := by decide +kernel
theorem dX8_init_146 : jd cX8_init 146 (.bipush 12) 2 148 := by decide +kernel
theorem dX8_init_148 : jt cX8_init 148 (.if_icmp .ge 17) 17 165 151 := by decide +kernel
theorem dX8_init_151 : jd cX8_init 151 (.aload_n 0) 1 152 := by decide +kernel
theorem dX8_init_152 : jd cX8_init 152 (.getfield 63) 3 155 := by decide +kernel
theorem dX8_init_155 : jd cX8_init 155 (.iload_n 1) 1 156 := by decide +kernel
theorem dX8_init_156 : jd cX8_init 156 (.bipush (-9)) 2 158 := by decide +kernel
theorem dX8_init_158 : jd cX8_init 158 .iastore 1 159 := by decide +kernel
theorem dX8_init_159 : jd cX8_init 159 (.iinc 1 1) 3 162 := by decide +kernel
theorem dX8_init_162 : jt cX8_init 162 (.goto (-17)) (-17) 145 165 := by decide +kernel
theorem dX8_init_165 : jd cX8_init 165 .return_ 1 166 := by decide +kernel
theorem dX8_in_0 : jd cX8_in 0 (.iload_n 0) 1 1 := by decide +kernel
theorem dX8_in_1 : jd cX8_in 1 (.iload_n 1) 1 2 := by decide +kernel
theorem dX8_in_2 : jt cX8_in 2 (.if_icmp .lt 12) 12 14 5 := by decide +kernel
theorem dX8_in_5 : jd cX8_in 5 (.iload_n 0) 1 6 := by decide +kernel
theorem dX8_in_6 : jd cX8_in 6 (.iload_n 2) 1 7 := by decide +kernel
theorem dX8_in_7 : jt cX8_in 7 (.if_icmp .gt 7) 7 14 10 := by decide +kernel
theorem dX8_in_10 : jd cX8_in 10 (.iconst 1) 1 11 := by decide +kernel
theorem dX8_in_11 : jt cX8_in 11 (.goto 4) 4 15 14 := by decide +kernel
theorem dX8_in_14 : jd cX8_in 14 (.iconst 0) 1 15 := by decide +kernel
theorem dX8_in_15 : jd cX8_in 15 .ireturn 1 16 := by decide +kernel
theorem dX8_meets_0 : jd cX8_meets 0 (.aload_n 0) 1 1 := by decide +kernel
theorem dX8_meets_1 : jd cX8_meets 1 (.iload_n 1) 1 2 := by decide +kernel
theorem dX8_meets_2 : jd cX8_meets 2 (.putfield 66) 3 5 := by decide +kernel
theorem dX8_meets_5 : jd cX8_meets 5 (.aload_n 0) 1 6 := by decide +kernel
theorem dX8_meets_6 : jd cX8_meets 6 (.getfield 7) 3 9 := by decide +kernel
theorem dX8_meets_9 : jd cX8_meets 9 (.iload_n 1) 1 10 := by decide +kernel
theorem dX8_meets_10 : jd cX8_meets 10 .dup2 1 11 := by decide +kernel
theorem dX8_meets_11 : jd cX8_meets 11 .iaload 1 12 := by decide +kernel
theorem dX8_meets_12 : jd cX8_meets 12 (.iconst 1) 1 13 := by decide +kernel
theorem dX8_meets_13 : jd cX8_meets 13 .iadd 1 14 := by decide +kernel
theorem dX8_meets_14 : jd cX8_meets 14 .iastore 1 15 := by decide +kernel
theorem dX8_meets_15 : jd cX8_meets 15 (.bipush (-3)) 2 17 := by decide +kernel
theorem dX8_meets_17 : jd cX8_meets 17 .ireturn 1 18 := by decide +kernel
theorem dX8_tell_0 : jd cX8_tell 0 (.aload_n 0) 1 1 := by decide +kernel
theorem dX8_tell_1 : jd cX8_tell 1 (.lload_n 1) 1 2 := by decide +kernel
theorem dX8_tell_2 : jd cX8_tell 2 (.putfield 69) 3 5 := by decide +kernel
theorem dX8_tell_5 : jd cX8_tell 5 (.iconst 1) 1 6 := by decide +kernel
theorem dX8_tell_6 : jd cX8_tell 6 .ireturn 1 7 := by decide +kernel
theorem dX8_isStar_0 : jd cX8_isStar 0 (.iload_n 1) 1 1 := by decide +kernel
theorem dX8_isStar_1 : jd cX8_isStar 1 (.iconst 0) 1 2 := by decide +kernel
theorem dX8_isStar_2 : jd cX8_isStar 2 (.aload_n 0) 1 3 := by decide +kernel
theorem dX8_isStar_3 : jd cX8_isStar 3 (.getfield 73) 3 6 := by decide +kernel
theorem dX8_isStar_6 : jd cX8_isStar 6 (.iconst 1) 1 7 := by decide +kernel
theorem dX8_isStar_7 : jd cX8_isStar 7 .isub 1 8 := by decide +kernel
theorem dX8_isStar_8 : jd cX8_isStar 8 (.invokestatic 76) 3 11 := by decide +kernel
theorem dX8_isStar_11 : jd cX8_isStar 11 .ireturn 1 12 := by decide +kernel
theorem dX8_star_0 : jd cX8_star 0 (.iload_n 1) 1 1 := by decide +kernel
theorem dX8_star_1 : jd cX8_star 1 (.iconst 0) 1 2 := by decide +kernel
theorem dX8_star_2 : jd cX8_star 2 (.iconst 3) 1 3 := by decide +kernel
theorem dX8_star_3 : jd cX8_star 3 (.invokestatic 76) 3 6 := by decide +kernel
theorem dX8_star_6 : jt cX8_star 6 (.ifCond .ne 5) 5 11 9 := by decide +kernel
theorem dX8_star_9 : jd cX8_star 9 (.iconst (-1)) 1 10 := by decide +kernel
theorem dX8_star_10 : jd cX8_star 10 .ireturn 1 11 := by decide +kernel
theorem dX8_star_11 : jd cX8_star 11 (.aload_n 0) 1 12 := by decide +kernel
theorem dX8_star_12 : jd cX8_star 12 (.getfield 73) 3 15 := by decide +kernel
theorem dX8_star_15 : jd cX8_star 15 (.bipush 12) 2 17 := by decide +kernel
theorem dX8_star_17 : jt cX8_star 17 (.if_icmp .ne 6) 6 23 20 := by decide +kernel
theorem dX8_star_20 : jd cX8_star 20 (.bipush (-2)) 2 22 := by decide +kernel
theorem dX8_star_22 : jd cX8_star 22 .ireturn 1 23 := by decide +kernel
theorem dX8_star_23 : jd cX8_star 23 (.aload_n 0) 1 24 := by decide +kernel
theorem dX8_star_24 : jd cX8_star 24 (.getfield 13) 3 27 := by decide +kernel
theorem dX8_star_27 : jd cX8_star 27 (.aload_n 0) 1 28 := by decide +kernel
theorem dX8_star_28 : jd cX8_star 28 (.getfield 73) 3 31 := by decide +kernel
theorem dX8_star_31 : jd cX8_star 31 (.iload_n 1) 1 32 := by decide +kernel
theorem dX8_star_32 : jd cX8_star 32 .iastore 1 33 := by decide +kernel
theorem dX8_star_33 : jd cX8_star 33 (.aload_n 0) 1 34 := by decide +kernel
theorem dX8_star_34 : jd cX8_star 34 .dup 1 35 := by decide +kernel
theorem dX8_star_35 : jd cX8_star 35 (.getfield 73) 3 38 := by decide +kernel
theorem dX8_star_38 : jd cX8_star 38 (.iconst 1) 1 39 := by decide +kernel
theorem dX8_star_39 : jd cX8_star 39 .iadd 1 40 := by decide +kernel
theorem dX8_star_40 : jd cX8_star 40 (.putfield 73) 3 43 := by decide +kernel
theorem dX8_star_43 : jd cX8_star 43 (.aload_n 0) 1 44 := by decide +kernel
theorem dX8_star_44 : jd cX8_star 44 (.getfield 73) 3 47 := by decide +kernel
theorem dX8_star_47 : jd cX8_star 47 (.iconst 1) 1 48 := by decide +kernel
theorem dX8_star_48 : jd cX8_star 48 .isub 1 49 := by decide +kernel
theorem dX8_star_49 : jd cX8_star 49 .ireturn 1 50 := by decide +kernel
theorem dX8_fits_0 : jd cX8_fits 0 (.iload_n 2) 1 1 := by decide +kernel
theorem dX8_fits_1 : jt cX8_fits 1 (.ifCond .eq 28) 28 29 4 := by decide +kernel
theorem dX8_fits_4 : jd cX8_fits 4 (.iload_n 2) 1 5 := by decide +kernel
theorem dX8_fits_5 : jd cX8_fits 5 (.aload_n 0) 1 6 := by decide +kernel
theorem dX8_fits_6 : jd cX8_fits 6 (.getfield 13) 3 9 := by decide +kernel
theorem dX8_fits_9 : jd cX8_fits 9 (.iload_n 1) 1 10 := by decide +kernel
theorem dX8_fits_10 : jd cX8_fits 10 .iaload 1 11 := by decide +kernel
theorem dX8_fits_11 : jt cX8_fits 11 (.if_icmp .eq 18) 18 29 14 := by decide +kernel
theorem dX8_fits_14 : jd cX8_fits 14 (.iload_n 2) 1 15 := by decide +kernel
theorem dX8_fits_15 : jd cX8_fits 15 (.iconst 2) 1 16 := by decide +kernel
theorem dX8_fits_16 : jt cX8_fits 16 (.if_icmp .ne 17) 17 33 19 := by decide +kernel
theorem dX8_fits_19 : jd cX8_fits 19 (.aload_n 0) 1 20 := by decide +kernel
theorem dX8_fits_20 : jd cX8_fits 20 (.getfield 13) 3 23 := by decide +kernel
theorem dX8_fits_23 : jd cX8_fits 23 (.iload_n 1) 1 24 := by decide +kernel
theorem dX8_fits_24 : jd cX8_fits 24 .iaload 1 25 := by decide +kernel
theorem dX8_fits_25 : jd cX8_fits 25 (.iconst 3) 1 26 := by decide +kernel
theorem dX8_fits_26 : jt cX8_fits 26 (.if_icmp .ne 7) 7 33 29 := by decide +kernel
theorem dX8_fits_29 : jd cX8_fits 29 (.iconst 1) 1 30 := by decide +kernel
theorem dX8_fits_30 : jt cX8_fits 30 (.goto 4) 4 34 33 := by decide +kernel
theorem dX8_fits_33 : jd cX8_fits 33 (.iconst 0) 1 34 := by decide +kernel
theorem dX8_fits_34 : jd cX8_fits 34 .ireturn 1 35 := by decide +kernel
theorem dX8_is_0 : jd cX8_is 0 (.aload_n 0) 1 1 := by decide +kernel
theorem dX8_is_1 : jd cX8_is 1 (.iload_n 1) 1 2 := by decide +kernel
theorem dX8_is_2 : jd cX8_is 2 (.invokevirtual 80) 3 5 := by decide +kernel
theorem dX8_is_5 : jt cX8_is 5 (.ifCond .eq 29) 29 34 8 := by decide +kernel
theorem dX8_is_8 : jd cX8_is 8 (.iload_n 2) 1 9 := by decide +kernel
theorem dX8_is_9 : jd cX8_is 9 (.iconst 0) 1 10 := by decide +kernel
theorem dX8_is_10 : jd cX8_is 10 (.iconst 3) 1 11 := by decide +kernel
theorem dX8_is_11 : jd cX8_is 11 (.invokestatic 76) 3 14 := by decide +kernel
theorem dX8_is_14 : jt cX8_is 14 (.ifCond .eq 20) 20 34 17 := by decide +kernel
theorem dX8_is_17 : jd cX8_is 17 (.aload_n 0) 1 18 := by decide +kernel
theorem dX8_is_18 : jd cX8_is 18 (.iload_n 1) 1 19 := by decide +kernel
theorem dX8_is_19 : jd cX8_is 19 (.iload_n 2) 1 20 := by decide +kernel
theorem dX8_is_20 : jd cX8_is 20 (.invokevirtual 84) 3 23 := by decide +kernel
theorem dX8_is_23 : jt cX8_is 23 (.ifCond .eq 7) 7 30 26 := by decide +kernel
theorem dX8_is_26 : jd cX8_is 26 (.iconst 1) 1 27 := by decide +kernel
theorem dX8_is_27 : jt cX8_is 27 (.goto 8) 8 35 30 := by decide +kernel
theorem dX8_is_30 : jd cX8_is 30 (.iconst 0) 1 31 := by decide +kernel
theorem dX8_is_31 : jt cX8_is 31 (.goto 4) 4 35 34 := by decide +kernel
theorem dX8_is_34 : jd cX8_is 34 (.iconst (-1)) 1 35 := by decide +kernel
theorem dX8_is_35 : jd cX8_is 35 .ireturn 1 36 := by decide +kernel
theorem dX8_isNight_0 : jd cX8_isNight 0 (.iload_n 0) 1 1 := by decide +kernel
theorem dX8_isNight_1 : jd cX8_isNight 1 (.iconst 0) 1 2 := by decide +kernel
theorem dX8_isNight_2 : jd cX8_isNight 2 (.bipush 59) 2 4 := by decide +kernel
theorem dX8_isNight_4 : jd cX8_isNight 4 (.invokestatic 76) 3 7 := by decide +kernel
theorem dX8_isNight_7 : jd cX8_isNight 7 .ireturn 1 8 := by decide +kernel
theorem dX8_has_0 : jd cX8_has 0 (.aload_n 0) 1 1 := by decide +kernel
theorem dX8_has_1 : jd cX8_has 1 (.getfield 20) 3 4 := by decide +kernel
theorem dX8_has_4 : jd cX8_has 4 (.bipush 60) 2 6 := by decide +kernel
theorem dX8_has_6 : jd cX8_has 6 (.iload_n 1) 1 7 := by decide +kernel
theorem dX8_has_7 : jd cX8_has 7 .imul 1 8 := by decide +kernel
theorem dX8_has_8 : jd cX8_has 8 (.iload_n 2) 1 9 := by decide +kernel
theorem dX8_has_9 : jd cX8_has 9 .iadd 1 10 := by decide +kernel
theorem dX8_has_10 : jd cX8_has 10 .iaload 1 11 := by decide +kernel
theorem dX8_has_11 : jd cX8_has 11 (.bipush (-9)) 2 13 := by decide +kernel
theorem dX8_has_13 : jt cX8_has 13 (.if_icmp .eq 7) 7 20 16 := by decide +kernel
theorem dX8_has_16 : jd cX8_has 16 (.iconst 1) 1 17 := by decide +kernel
theorem dX8_has_17 : jt cX8_has 17 (.goto 4) 4 21 20 := by decide +kernel
theorem dX8_has_20 : jd cX8_has 20 (.iconst 0) 1 21 := by decide +kernel
theorem dX8_has_21 : jd cX8_has 21 .ireturn 1 22 := by decide +kernel
theorem dX8_lightOf_0 : jd cX8_lightOf 0 (.aload_n 0) 1 1 := by decide +kernel
theorem dX8_lightOf_1 : jd cX8_lightOf 1 (.getfield 20) 3 4 := by decide +kernel
theorem dX8_lightOf_4 : jd cX8_lightOf 4 (.bipush 60) 2 6 := by decide +kernel
theorem dX8_lightOf_6 : jd cX8_lightOf 6 (.iload_n 1) 1 7 := by decide +kernel
theorem dX8_lightOf_7 : jd cX8_lightOf 7 .imul 1 8 := by decide +kernel
theorem dX8_lightOf_8 : jd cX8_lightOf 8 (.iload_n 2) 1 9 := by decide +kernel
theorem dX8_lightOf_9 : jd cX8_lightOf 9 .iadd 1 10 := by decide +kernel
theorem dX8_lightOf_10 : jd cX8_lightOf 10 .iaload 1 11 := by decide +kernel
theorem dX8_lightOf_11 : jd cX8_lightOf 11 (.aload_n 0) 1 12 := by decide +kernel
theorem dX8_lightOf_12 : jd cX8_lightOf 12 (.getfield 23) 3 15 := by decide +kernel
theorem dX8_lightOf_15 : jd cX8_lightOf 15 (.iload_n 2) 1 16 := by decide +kernel
theorem dX8_lightOf_16 : jd cX8_lightOf 16 .iaload 1 17 := by decide +kernel
theorem dX8_lightOf_17 : jd cX8_lightOf 17 .isub 1 18 := by decide +kernel
theorem dX8_lightOf_18 : jd cX8_lightOf 18 .ireturn 1 19 := by decide +kernel
theorem dX8_many_0 : jd cX8_many 0 (.iconst 0) 1 1 := by decide +kernel
theorem dX8_many_1 : jd cX8_many 1 (.istore_n 2) 1 2 := by decide +kernel
theorem dX8_many_2 : jd cX8_many 2 (.iconst 0) 1 3 := by decide +kernel
theorem dX8_many_3 : jd cX8_many 3 (.istore_n 3) 1 4 := by decide +kernel
theorem dX8_many_4 : jd cX8_many 4 (.iload_n 3) 1 5 := by decide +kernel
theorem dX8_many_5 : jd cX8_many 5 (.bipush 60) 2 7 := by decide +kernel
theorem dX8_many_7 : jt cX8_many 7 (.if_icmp .ge 26) 26 33 10 := by decide +kernel
theorem dX8_many_10 : jd cX8_many 10 (.iload_n 2) 1 11 := by decide +kernel
theorem dX8_many_11 : jd cX8_many 11 (.aload_n 0) 1 12 := by decide +kernel
theorem dX8_many_12 : jd cX8_many 12 (.iload_n 1) 1 13 := by decide +kernel
theorem dX8_many_13 : jd cX8_many 13 (.iload_n 3) 1 14 := by decide +kernel
theorem dX8_many_14 : jd cX8_many 14 (.invokevirtual 88) 3 17 := by decide +kernel
theorem dX8_many_17 : jt cX8_many 17 (.ifCond .eq 7) 7 24 20 := by decide +kernel
theorem dX8_many_20 : jd cX8_many 20 (.iconst 1) 1 21 := by decide +kernel
theorem dX8_many_21 : jt cX8_many 21 (.goto 4) 4 25 24 := by decide +kernel
theorem dX8_many_24 : jd cX8_many 24 (.iconst 0) 1 25 := by decide +kernel
theorem dX8_many_25 : jd cX8_many 25 .iadd 1 26 := by decide +kernel
theorem dX8_many_26 : jd cX8_many 26 (.istore_n 2) 1 27 := by decide +kernel
theorem dX8_many_27 : jd cX8_many 27 (.iinc 3 1) 3 30 := by decide +kernel
theorem dX8_many_30 : jt cX8_many 30 (.goto (-26)) (-26) 4 33 := by decide +kernel
theorem dX8_many_33 : jd cX8_many 33 (.iload_n 2) 1 34 := by decide +kernel
theorem dX8_many_34 : jd cX8_many 34 .ireturn 1 35 := by decide +kernel
theorem dX8_swing_0 : jd cX8_swing 0 (.iconst 0) 1 1 := by decide +kernel
theorem dX8_swing_1 : jd cX8_swing 1 (.istore_n 2) 1 2 := by decide +kernel
theorem dX8_swing_2 : jd cX8_swing 2 (.iconst 0) 1 3 := by decide +kernel
theorem dX8_swing_3 : jd cX8_swing 3 (.istore_n 3) 1 4 := by decide +kernel
theorem dX8_swing_4 : jd cX8_swing 4 (.iconst 0) 1 5 := by decide +kernel
theorem dX8_swing_5 : jd cX8_swing 5 (.istore 4) 2 7 := by decide +kernel
theorem dX8_swing_7 : jd cX8_swing 7 (.iconst 0) 1 8 := by decide +kernel
theorem dX8_swing_8 : jd cX8_swing 8 (.istore 5) 2 10 := by decide +kernel
theorem dX8_swing_10 : jd cX8_swing 10 (.iload 5) 2 12 := by decide +kernel
theorem dX8_swing_12 : jd cX8_swing 12 (.bipush 60) 2 14 := by decide +kernel
theorem dX8_swing_14 : jt cX8_swing 14 (.if_icmp .ge 78) 78 92 17 := by decide +kernel
theorem dX8_swing_17 : jd cX8_swing 17 (.aload_n 0) 1 18 := by decide +kernel
theorem dX8_swing_18 : jd cX8_swing 18 (.iload_n 1) 1 19 := by decide +kernel
theorem dX8_swing_19 : jd cX8_swing 19 (.iload 5) 2 21 := by decide +kernel
theorem dX8_swing_21 : jd cX8_swing 21 (.invokevirtual 88) 3 24 := by decide +kernel
theorem dX8_swing_24 : jt cX8_swing 24 (.ifCond .eq 62) 62 86 27 := by decide +kernel
theorem dX8_swing_27 : jd cX8_swing 27 (.iload 4) 2 29 := by decide +kernel
theorem dX8_swing_29 : jt cX8_swing 29 (.ifCond .eq 14) 14 43 32 := by decide +kernel
theorem dX8_swing_32 : jd cX8_swing 32 (.aload_n 0) 1 33 := by decide +kernel
theorem dX8_swing_33 : jd cX8_swing 33 (.iload_n 1) 1 34 := by decide +kernel
theorem dX8_swing_34 : jd cX8_swing 34 (.iload 5) 2 36 := by decide +kernel
theorem dX8_swing_36 : jd cX8_swing 36 (.invokevirtual 91) 3 39 := by decide +kernel
theorem dX8_swing_39 : jd cX8_swing 39 (.iload_n 2) 1 40 := by decide +kernel
theorem dX8_swing_40 : jt cX8_swing 40 (.if_icmp .ge 13) 13 53 43 := by decide +kernel
theorem dX8_swing_43 : jd cX8_swing 43 (.aload_n 0) 1 44 := by decide +kernel
theorem dX8_swing_44 : jd cX8_swing 44 (.iload_n 1) 1 45 := by decide +kernel
theorem dX8_swing_45 : jd cX8_swing 45 (.iload 5) 2 47 := by decide +kernel
theorem dX8_swing_47 : jd cX8_swing 47 (.invokevirtual 91) 3 50 := by decide +kernel
theorem dX8_swing_50 : jt cX8_swing 50 (.goto 4) 4 54 53 := by decide +kernel
theorem dX8_swing_53 : jd cX8_swing 53 (.iload_n 2) 1 54 := by decide +kernel
theorem dX8_swing_54 : jd cX8_swing 54 (.istore_n 2) 1 55 := by decide +kernel
theorem dX8_swing_55 : jd cX8_swing 55 (.iload 4) 2 57 := by decide +kernel
theorem dX8_swing_57 : jt cX8_swing 57 (.ifCond .eq 14) 14 71 60 := by decide +kernel
theorem dX8_swing_60 : jd cX8_swing 60 (.aload_n 0) 1 61 := by decide +kernel
theorem dX8_swing_61 : jd cX8_swing 61 (.iload_n 1) 1 62 := by decide +kernel
theorem dX8_swing_62 : jd cX8_swing 62 (.iload 5) 2 64 := by decide +kernel
theorem dX8_swing_64 : jd cX8_swing 64 (.invokevirtual 91) 3 67 := by decide +kernel
theorem dX8_swing_67 : jd cX8_swing 67 (.iload_n 3) 1 68 := by decide +kernel
theorem dX8_swing_68 : jt cX8_swing 68 (.if_icmp .le 13) 13 81 71 := by decide +kernel
theorem dX8_swing_71 : jd cX8_swing 71 (.aload_n 0) 1 72 := by decide +kernel
theorem dX8_swing_72 : jd cX8_swing 72 (.iload_n 1) 1 73 := by decide +kernel
theorem dX8_swing_73 : jd cX8_swing 73 (.iload 5) 2 75 := by decide +kernel
theorem dX8_swing_75 : jd cX8_swing 75 (.invokevirtual 91) 3 78 := by decide +kernel
theorem dX8_swing_78 : jt cX8_swing 78 (.goto 4) 4 82 81 := by decide +kernel
theorem dX8_swing_81 : jd cX8_swing 81 (.iload_n 3) 1 82 := by decide +kernel
theorem dX8_swing_82 : jd cX8_swing 82 (.istore_n 3) 1 83 := by decide +kernel
theorem dX8_swing_83 : jd cX8_swing 83 (.iinc 4 1) 3 86 := by decide +kernel
theorem dX8_swing_86 : jd cX8_swing 86 (.iinc 5 1) 3 89 := by decide +kernel
theorem dX8_swing_89 : jt cX8_swing 89 (.goto (-79)) (-79) 10 92 := by decide +kernel
theorem dX8_swing_92 : jd cX8_swing 92 (.iload_n 3) 1 93 := by decide +kernel
theorem dX8_swing_93 : jd cX8_swing 93 (.iload_n 2) 1 94 := by decide +kernel
theorem dX8_swing_94 : jd cX8_swing 94 .isub 1 95 := by decide +kernel
theorem dX8_swing_95 : jd cX8_swing 95 .ireturn 1 96 := by decide +kernel
theorem dX8_mark_0 : jd cX8_mark 0 (.aload_n 0) 1 1 := by decide +kernel
theorem dX8_mark_1 : jd cX8_mark 1 (.iload_n 1) 1 2 := by decide +kernel
theorem dX8_mark_2 : jd cX8_mark 2 (.invokevirtual 80) 3 5 := by decide +kernel
theorem dX8_mark_5 : jt cX8_mark 5 (.ifCond .eq 12) 12 17 8 := by decide +kernel
theorem dX8_mark_8 : jd cX8_mark 8 (.iload_n 2) 1 9 := by decide +kernel
theorem dX8_mark_9 : jd cX8_mark 9 (.iconst 0) 1 10 := by decide +kernel
theorem dX8_mark_10 : jd cX8_mark 10 (.iconst 3) 1 11 := by decide +kernel
theorem dX8_mark_11 : jd cX8_mark 11 (.invokestatic 76) 3 14 := by decide +kernel
theorem dX8_mark_14 : jt cX8_mark 14 (.ifCond .ne 5) 5 19 17 := by decide +kernel
theorem dX8_mark_17 : jd cX8_mark 17 (.iconst (-1)) 1 18 := by decide +kernel
theorem dX8_mark_18 : jd cX8_mark 18 .ireturn 1 19 := by decide +kernel
theorem dX8_mark_19 : jd cX8_mark 19 (.aload_n 0) 1 20 := by decide +kernel
theorem dX8_mark_20 : jd cX8_mark 20 (.iload_n 1) 1 21 := by decide +kernel
theorem dX8_mark_21 : jd cX8_mark 21 (.iload_n 2) 1 22 := by decide +kernel
theorem dX8_mark_22 : jd cX8_mark 22 (.invokevirtual 84) 3 25 := by decide +kernel
theorem dX8_mark_25 : jt cX8_mark 25 (.ifCond .ne 9) 9 34 28 := by decide +kernel
theorem dX8_mark_28 : jd cX8_mark 28 (.aload_n 0) 1 29 := by decide +kernel
theorem dX8_mark_29 : jd cX8_mark 29 (.iconst 3) 1 30 := by decide +kernel
theorem dX8_mark_30 : jd cX8_mark 30 (.invokevirtual 95) 3 33 := by decide +kernel
theorem dX8_mark_33 : jd cX8_mark 33 .ireturn 1 34 := by decide +kernel
theorem dX8_mark_34 : jd cX8_mark 34 (.iload_n 2) 1 35 := by decide +kernel
theorem dX8_mark_35 : jt cX8_mark 35 (.ifCond .ne 10) 10 45 38 := by decide +kernel
theorem dX8_mark_38 : jd cX8_mark 38 (.aload_n 0) 1 39 := by decide +kernel
theorem dX8_mark_39 : jd cX8_mark 39 (.getfield 13) 3 42 := by decide +kernel
theorem dX8_mark_42 : jd cX8_mark 42 (.iload_n 1) 1 43 := by decide +kernel
theorem dX8_mark_43 : jd cX8_mark 43 .iaload 1 44 := by decide +kernel
theorem dX8_mark_44 : jd cX8_mark 44 .ireturn 1 45 := by decide +kernel
theorem dX8_mark_45 : jd cX8_mark 45 (.aload_n 0) 1 46 := by decide +kernel
theorem dX8_mark_46 : jd cX8_mark 46 (.getfield 16) 3 49 := by decide +kernel
theorem dX8_mark_49 : jd cX8_mark 49 (.iload_n 1) 1 50 := by decide +kernel
theorem dX8_mark_50 : jd cX8_mark 50 .baload 1 51 := by decide +kernel
theorem dX8_mark_51 : jt cX8_mark 51 (.ifCond .ne 9) 9 60 54 := by decide +kernel
theorem dX8_mark_54 : jd cX8_mark 54 (.aload_n 0) 1 55 := by decide +kernel
theorem dX8_mark_55 : jd cX8_mark 55 (.iconst 1) 1 56 := by decide +kernel
theorem dX8_mark_56 : jd cX8_mark 56 (.invokevirtual 95) 3 59 := by decide +kernel
theorem dX8_mark_59 : jd cX8_mark 59 .ireturn 1 60 := by decide +kernel
theorem dX8_mark_60 : jd cX8_mark 60 (.iload_n 2) 1 61 := by decide +kernel
theorem dX8_mark_61 : jd cX8_mark 61 (.iconst 1) 1 62 := by decide +kernel
theorem dX8_mark_62 : jt cX8_mark 62 (.if_icmp .ne 11) 11 73 65 := by decide +kernel
theorem dX8_mark_65 : jd cX8_mark 65 (.aload_n 0) 1 66 := by decide +kernel
theorem dX8_mark_66 : jd cX8_mark 66 (.iload_n 1) 1 67 := by decide +kernel
theorem dX8_mark_67 : jd cX8_mark 67 (.invokevirtual 99) 3 70 := by decide +kernel
theorem dX8_mark_70 : jt cX8_mark 70 (.goto 35) 35 105 73 := by decide +kernel
theorem dX8_mark_73 : jd cX8_mark 73 (.iload_n 2) 1 74 := by decide +kernel
theorem dX8_mark_74 : jd cX8_mark 74 (.iconst 2) 1 75 := by decide +kernel
theorem dX8_mark_75 : jt cX8_mark 75 (.if_icmp .ne 11) 11 86 78 := by decide +kernel
theorem dX8_mark_78 : jd cX8_mark 78 (.aload_n 0) 1 79 := by decide +kernel
theorem dX8_mark_79 : jd cX8_mark 79 (.iload_n 1) 1 80 := by decide +kernel
theorem dX8_mark_80 : jd cX8_mark 80 (.invokevirtual 102) 3 83 := by decide +kernel
theorem dX8_mark_83 : jt cX8_mark 83 (.goto 22) 22 105 86 := by decide +kernel
theorem dX8_mark_86 : jd cX8_mark 86 (.aload_n 0) 1 87 := by decide +kernel
theorem dX8_mark_87 : jd cX8_mark 87 (.iload_n 1) 1 88 := by decide +kernel
theorem dX8_mark_88 : jd cX8_mark 88 (.invokevirtual 99) 3 91 := by decide +kernel
theorem dX8_mark_91 : jt cX8_mark 91 (.ifCond .ne 7) 7 98 94 := by decide +kernel
theorem dX8_mark_94 : jd cX8_mark 94 (.iconst 0) 1 95 := by decide +kernel
theorem dX8_mark_95 : jt cX8_mark 95 (.goto 10) 10 105 98 := by decide +kernel
theorem dX8_mark_98 : jd cX8_mark 98 (.aload_n 0) 1 99 := by decide +kernel
theorem dX8_mark_99 : jd cX8_mark 99 (.iload_n 1) 1 100 := by decide +kernel
theorem dX8_mark_100 : jd cX8_mark 100 (.bipush 100) 2 102 := by decide +kernel
theorem dX8_mark_102 : jd cX8_mark 102 (.invokevirtual 105) 3 105 := by decide +kernel
theorem dX8_mark_105 : jd cX8_mark 105 .ireturn 1 106 := by decide +kernel
theorem dX8_looked_0 : jd cX8_looked 0 (.aload_n 0) 1 1 := by decide +kernel
theorem dX8_looked_1 : jd cX8_looked 1 (.iload_n 1) 1 2 := by decide +kernel
theorem dX8_looked_2 : jd cX8_looked 2 (.invokevirtual 80) 3 5 := by decide +kernel
theorem dX8_looked_5 : jt cX8_looked 5 (.ifCond .ne 7) 7 12 8 := by decide +kernel
theorem dX8_looked_8 : jd cX8_looked 8 (.iconst (-1)) 1 9 := by decide +kernel
theorem dX8_looked_9 : jt cX8_looked 9 (.goto 21) 21 30 12 := by decide +kernel
theorem dX8_looked_12 : jd cX8_looked 12 (.aload_n 0) 1 13 := by decide +kernel
theorem dX8_looked_13 : jd cX8_looked 13 (.getfield 16) 3 16 := by decide +kernel
theorem dX8_looked_16 : jd cX8_looked 16 (.iload_n 1) 1 17 := by decide +kernel
theorem dX8_looked_17 : jd cX8_looked 17 .baload 1 18 := by decide +kernel
theorem dX8_looked_18 : jt cX8_looked 18 (.ifCond .eq 7) 7 25 21 := by decide +kernel
theorem dX8_looked_21 : jd cX8_looked 21 (.iconst 0) 1 22 := by decide +kernel
theorem dX8_looked_22 : jt cX8_looked 22 (.goto 8) 8 30 25 := by decide +kernel
theorem dX8_looked_25 : jd cX8_looked 25 (.aload_n 0) 1 26 := by decide +kernel
theorem dX8_looked_26 : jd cX8_looked 26 (.iconst 1) 1 27 := by decide +kernel
theorem dX8_looked_27 : jd cX8_looked 27 (.invokevirtual 95) 3 30 := by decide +kernel
theorem dX8_looked_30 : jd cX8_looked 30 .ireturn 1 31 := by decide +kernel
theorem dX8_row_0 : jd cX8_row 0 (.aload_n 0) 1 1 := by decide +kernel
theorem dX8_row_1 : jd cX8_row 1 (.iload_n 1) 1 2 := by decide +kernel
theorem dX8_row_2 : jd cX8_row 2 (.invokevirtual 80) 3 5 := by decide +kernel
theorem dX8_row_5 : jt cX8_row 5 (.ifCond .ne 5) 5 10 8 := by decide +kernel
theorem dX8_row_8 : jd cX8_row 8 (.iconst (-1)) 1 9 := by decide +kernel
theorem dX8_row_9 : jd cX8_row 9 .ireturn 1 10 := by decide +kernel
theorem dX8_row_10 : jd cX8_row 10 (.aload_n 0) 1 11 := by decide +kernel
theorem dX8_row_11 : jd cX8_row 11 (.getfield 16) 3 14 := by decide +kernel
theorem dX8_row_14 : jd cX8_row 14 (.iload_n 1) 1 15 := by decide +kernel
theorem dX8_row_15 : jd cX8_row 15 .baload 1 16 := by decide +kernel
theorem dX8_row_16 : jt cX8_row 16 (.ifCond .eq 7) 7 23 19 := by decide +kernel
theorem dX8_row_19 : jd cX8_row 19 (.iconst 1) 1 20 := by decide +kernel
theorem dX8_row_20 : jt cX8_row 20 (.goto 4) 4 24 23 := by decide +kernel
theorem dX8_row_23 : jd cX8_row 23 (.iconst 0) 1 24 := by decide +kernel
theorem dX8_row_24 : jd cX8_row 24 (.istore_n 2) 1 25 := by decide +kernel
theorem dX8_row_25 : jd cX8_row 25 (.aload_n 0) 1 26 := by decide +kernel
theorem dX8_row_26 : jd cX8_row 26 (.getfield 16) 3 29 := by decide +kernel
theorem dX8_row_29 : jd cX8_row 29 (.iload_n 1) 1 30 := by decide +kernel
theorem dX8_row_30 : jd cX8_row 30 (.iconst 1) 1 31 := by decide +kernel
theorem dX8_row_31 : jd cX8_row 31 .bastore 1 32 := by decide +kernel
theorem dX8_row_32 : jd cX8_row 32 (.iconst 0) 1 33 := by decide +kernel
theorem dX8_row_33 : jd cX8_row 33 (.istore_n 3) 1 34 := by decide +kernel
theorem dX8_row_34 : jd cX8_row 34 (.iload_n 3) 1 35 := by decide +kernel
theorem dX8_row_35 : jd cX8_row 35 (.bipush 60) 2 37 := by decide +kernel
theorem dX8_row_37 : jt cX8_row 37 (.if_icmp .ge 22) 22 59 40 := by decide +kernel
theorem dX8_row_40 : jd cX8_row 40 (.aload_n 0) 1 41 := by decide +kernel
theorem dX8_row_41 : jd cX8_row 41 (.getfield 20) 3 44 := by decide +kernel
theorem dX8_row_44 : jd cX8_row 44 (.bipush 60) 2 46 := by decide +kernel
theorem dX8_row_46 : jd cX8_row 46 (.iload_n 1) 1 47 := by decide +kernel
theorem dX8_row_47 : jd cX8_row 47 .imul 1 48 := by decide +kernel
theorem dX8_row_48 : jd cX8_row 48 (.iload_n 3) 1 49 := by decide +kernel
theorem dX8_row_49 : jd cX8_row 49 .iadd 1 50 := by decide +kernel
theorem dX8_row_50 : jd cX8_row 50 (.bipush (-9)) 2 52 := by decide +kernel
theorem dX8_row_52 : jd cX8_row 52 .iastore 1 53 := by decide +kernel
theorem dX8_row_53 : jd cX8_row 53 (.iinc 3 1) 3 56 := by decide +kernel
theorem dX8_row_56 : jt cX8_row 56 (.goto (-22)) (-22) 34 59 := by decide +kernel
theorem dX8_row_59 : jd cX8_row 59 (.iload_n 2) 1 60 := by decide +kernel
theorem dX8_row_60 : jd cX8_row 60 .ireturn 1 61 := by decide +kernel
theorem dX8_lay_0 : jd cX8_lay 0 (.iload_n 3) 1 1 := by decide +kernel
theorem dX8_lay_1 : jd cX8_lay 1 (.bipush (-9)) 2 3 := by decide +kernel
theorem dX8_lay_3 : jt cX8_lay 3 (.if_icmp .eq 16) 16 19 6 := by decide +kernel
theorem dX8_lay_6 : jd cX8_lay 6 (.iload_n 3) 1 7 := by decide +kernel
theorem dX8_lay_7 : jd cX8_lay 7 (.iconst 0) 1 8 := by decide +kernel
theorem dX8_lay_8 : jd cX8_lay 8 (.sipush 10000) 3 11 := by decide +kernel
theorem dX8_lay_11 : jd cX8_lay 11 (.invokestatic 76) 3 14 := by decide +kernel
theorem dX8_lay_14 : jt cX8_lay 14 (.ifCond .ne 5) 5 19 17 := by decide +kernel
theorem dX8_lay_17 : jd cX8_lay 17 (.iconst (-1)) 1 18 := by decide +kernel
theorem dX8_lay_18 : jd cX8_lay 18 .ireturn 1 19 := by decide +kernel
theorem dX8_lay_19 : jd cX8_lay 19 (.aload_n 0) 1 20 := by decide +kernel
theorem dX8_lay_20 : jd cX8_lay 20 (.iload_n 1) 1 21 := by decide +kernel
theorem dX8_lay_21 : jd cX8_lay 21 (.invokevirtual 108) 3 24 := by decide +kernel
theorem dX8_lay_24 : jd cX8_lay 24 (.istore 4) 2 26 := by decide +kernel
theorem dX8_lay_26 : jd cX8_lay 26 (.iload 4) 2 28 := by decide +kernel
theorem dX8_lay_28 : jt cX8_lay 28 (.ifCond .ge 6) 6 34 31 := by decide +kernel
theorem dX8_lay_31 : jd cX8_lay 31 (.iload 4) 2 33 := by decide +kernel
theorem dX8_lay_33 : jd cX8_lay 33 .ireturn 1 34 := by decide +kernel
theorem dX8_lay_34 : jd cX8_lay 34 (.iload_n 2) 1 35 := by decide +kernel
theorem dX8_lay_35 : jd cX8_lay 35 (.invokestatic 111) 3 38 := by decide +kernel
theorem dX8_lay_38 : jt cX8_lay 38 (.ifCond .ne 9) 9 47 41 := by decide +kernel
theorem dX8_lay_41 : jd cX8_lay 41 (.aload_n 0) 1 42 := by decide +kernel
theorem dX8_lay_42 : jd cX8_lay 42 (.iconst 2) 1 43 := by decide +kernel
theorem dX8_lay_43 : jd cX8_lay 43 (.invokevirtual 95) 3 46 := by decide +kernel
theorem dX8_lay_46 : jd cX8_lay 46 .ireturn 1 47 := by decide +kernel
theorem dX8_lay_47 : jd cX8_lay 47 (.aload_n 0) 1 48 := by decide +kernel
theorem dX8_lay_48 : jd cX8_lay 48 (.getfield 20) 3 51 := by decide +kernel
theorem dX8_lay_51 : jd cX8_lay 51 (.bipush 60) 2 53 := by decide +kernel
theorem dX8_lay_53 : jd cX8_lay 53 (.iload_n 1) 1 54 := by decide +kernel
theorem dX8_lay_54 : jd cX8_lay 54 .imul 1 55 := by decide +kernel
theorem dX8_lay_55 : jd cX8_lay 55 (.iload_n 2) 1 56 := by decide +kernel
theorem dX8_lay_56 : jd cX8_lay 56 .iadd 1 57 := by decide +kernel
theorem dX8_lay_57 : jd cX8_lay 57 .iaload 1 58 := by decide +kernel
theorem dX8_lay_58 : jd cX8_lay 58 (.istore 5) 2 60 := by decide +kernel
theorem dX8_lay_60 : jd cX8_lay 60 (.aload_n 0) 1 61 := by decide +kernel
theorem dX8_lay_61 : jd cX8_lay 61 (.getfield 20) 3 64 := by decide +kernel
theorem dX8_lay_64 : jd cX8_lay 64 (.bipush 60) 2 66 := by decide +kernel
theorem dX8_lay_66 : jd cX8_lay 66 (.iload_n 1) 1 67 := by decide +kernel
theorem dX8_lay_67 : jd cX8_lay 67 .imul 1 68 := by decide +kernel
theorem dX8_lay_68 : jd cX8_lay 68 (.iload_n 2) 1 69 := by decide +kernel
theorem dX8_lay_69 : jd cX8_lay 69 .iadd 1 70 := by decide +kernel
theorem dX8_lay_70 : jd cX8_lay 70 (.iload_n 3) 1 71 := by decide +kernel
theorem dX8_lay_71 : jd cX8_lay 71 .iastore 1 72 := by decide +kernel
theorem dX8_lay_72 : jd cX8_lay 72 (.iload 5) 2 74 := by decide +kernel
theorem dX8_lay_74 : jd cX8_lay 74 .ireturn 1 75 := by decide +kernel
theorem dX8_at_0 : jd cX8_at 0 (.aload_n 0) 1 1 := by decide +kernel
theorem dX8_at_1 : jd cX8_at 1 (.iload_n 1) 1 2 := by decide +kernel
theorem dX8_at_2 : jd cX8_at 2 (.invokevirtual 108) 3 5 := by decide +kernel
theorem dX8_at_5 : jd cX8_at 5 (.istore_n 3) 1 6 := by decide +kernel
theorem dX8_at_6 : jd cX8_at 6 (.iload_n 3) 1 7 := by decide +kernel
theorem dX8_at_7 : jt cX8_at 7 (.ifCond .ge 7) 7 14 10 := by decide +kernel
theorem dX8_at_10 : jd cX8_at 10 (.iload_n 3) 1 11 := by decide +kernel
theorem dX8_at_11 : jt cX8_at 11 (.goto 29) 29 40 14 := by decide +kernel
theorem dX8_at_14 : jd cX8_at 14 (.iload_n 2) 1 15 := by decide +kernel
theorem dX8_at_15 : jd cX8_at 15 (.invokestatic 111) 3 18 := by decide +kernel
theorem dX8_at_18 : jt cX8_at 18 (.ifCond .eq 17) 17 35 21 := by decide +kernel
theorem dX8_at_21 : jd cX8_at 21 (.aload_n 0) 1 22 := by decide +kernel
theorem dX8_at_22 : jd cX8_at 22 (.getfield 20) 3 25 := by decide +kernel
theorem dX8_at_25 : jd cX8_at 25 (.bipush 60) 2 27 := by decide +kernel
theorem dX8_at_27 : jd cX8_at 27 (.iload_n 1) 1 28 := by decide +kernel
theorem dX8_at_28 : jd cX8_at 28 .imul 1 29 := by decide +kernel
theorem dX8_at_29 : jd cX8_at 29 (.iload_n 2) 1 30 := by decide +kernel
theorem dX8_at_30 : jd cX8_at 30 .iadd 1 31 := by decide +kernel
theorem dX8_at_31 : jd cX8_at 31 .iaload 1 32 := by decide +kernel
theorem dX8_at_32 : jt cX8_at 32 (.goto 8) 8 40 35 := by decide +kernel
theorem dX8_at_35 : jd cX8_at 35 (.aload_n 0) 1 36 := by decide +kernel
theorem dX8_at_36 : jd cX8_at 36 (.iconst 2) 1 37 := by decide +kernel
theorem dX8_at_37 : jd cX8_at 37 (.invokevirtual 95) 3 40 := by decide +kernel
theorem dX8_at_40 : jd cX8_at 40 .ireturn 1 41 := by decide +kernel
theorem dX8_light_0 : jd cX8_light 0 (.aload_n 0) 1 1 := by decide +kernel
theorem dX8_light_1 : jd cX8_light 1 (.iload_n 1) 1 2 := by decide +kernel
theorem dX8_light_2 : jd cX8_light 2 (.invokevirtual 108) 3 5 := by decide +kernel
theorem dX8_light_5 : jd cX8_light 5 (.istore_n 3) 1 6 := by decide +kernel
theorem dX8_light_6 : jd cX8_light 6 (.iload_n 3) 1 7 := by decide +kernel
theorem dX8_light_7 : jt cX8_light 7 (.ifCond .ge 5) 5 12 10 := by decide +kernel
theorem dX8_light_10 : jd cX8_light 10 (.iload_n 3) 1 11 := by decide +kernel
theorem dX8_light_11 : jd cX8_light 11 .ireturn 1 12 := by decide +kernel
theorem dX8_light_12 : jd cX8_light 12 (.iload_n 2) 1 13 := by decide +kernel
theorem dX8_light_13 : jd cX8_light 13 (.invokestatic 111) 3 16 := by decide +kernel
theorem dX8_light_16 : jt cX8_light 16 (.ifCond .ne 9) 9 25 19 := by decide +kernel
theorem dX8_light_19 : jd cX8_light 19 (.aload_n 0) 1 20 := by decide +kernel
theorem dX8_light_20 : jd cX8_light 20 (.iconst 2) 1 21 := by decide +kernel
theorem dX8_light_21 : jd cX8_light 21 (.invokevirtual 95) 3 24 := by decide +kernel
theorem dX8_light_24 : jd cX8_light 24 .ireturn 1 25 := by decide +kernel
theorem dX8_light_25 : jd cX8_light 25 (.aload_n 0) 1 26 := by decide +kernel
theorem dX8_light_26 : jd cX8_light 26 (.iload_n 1) 1 27 := by decide +kernel
theorem dX8_light_27 : jd cX8_light 27 (.iload_n 2) 1 28 := by decide +kernel
theorem dX8_light_28 : jd cX8_light 28 (.invokevirtual 88) 3 31 := by decide +kernel
theorem dX8_light_31 : jt cX8_light 31 (.ifCond .eq 17) 17 48 34 := by decide +kernel
theorem dX8_light_34 : jd cX8_light 34 (.aload_n 0) 1 35 := by decide +kernel
theorem dX8_light_35 : jd cX8_light 35 (.aload_n 0) 1 36 := by decide +kernel
theorem dX8_light_36 : jd cX8_light 36 (.iload_n 1) 1 37 := by decide +kernel
theorem dX8_light_37 : jd cX8_light 37 (.iload_n 2) 1 38 := by decide +kernel
theorem dX8_light_38 : jd cX8_light 38 (.invokevirtual 91) 3 41 := by decide +kernel
theorem dX8_light_41 : jd cX8_light 41 .i2l 1 42 := by decide +kernel
theorem dX8_light_42 : jd cX8_light 42 (.invokevirtual 114) 3 45 := by decide +kernel
theorem dX8_light_45 : jt cX8_light 45 (.goto 5) 5 50 48 := by decide +kernel
theorem dX8_light_48 : jd cX8_light 48 (.bipush (-9)) 2 50 := by decide +kernel
theorem dX8_light_50 : jd cX8_light 50 .ireturn 1 51 := by decide +kernel
theorem dX8_tear_0 : jd cX8_tear 0 (.aload_n 0) 1 1 := by decide +kernel
theorem dX8_tear_1 : jd cX8_tear 1 (.iload_n 1) 1 2 := by decide +kernel
theorem dX8_tear_2 : jd cX8_tear 2 (.invokevirtual 108) 3 5 := by decide +kernel
theorem dX8_tear_5 : jd cX8_tear 5 (.istore_n 2) 1 6 := by decide +kernel
theorem dX8_tear_6 : jd cX8_tear 6 (.iload_n 2) 1 7 := by decide +kernel
theorem dX8_tear_7 : jt cX8_tear 7 (.ifCond .ge 5) 5 12 10 := by decide +kernel
theorem dX8_tear_10 : jd cX8_tear 10 (.iload_n 2) 1 11 := by decide +kernel
theorem dX8_tear_11 : jd cX8_tear 11 .ireturn 1 12 := by decide +kernel
theorem dX8_tear_12 : jd cX8_tear 12 (.aload_n 0) 1 13 := by decide +kernel
theorem dX8_tear_13 : jd cX8_tear 13 (.getfield 16) 3 16 := by decide +kernel
theorem dX8_tear_16 : jd cX8_tear 16 (.iload_n 1) 1 17 := by decide +kernel
theorem dX8_tear_17 : jd cX8_tear 17 (.iconst 0) 1 18 := by decide +kernel
theorem dX8_tear_18 : jd cX8_tear 18 .bastore 1 19 := by decide +kernel
theorem dX8_tear_19 : jd cX8_tear 19 (.iconst 1) 1 20 := by decide +kernel
theorem dX8_tear_20 : jd cX8_tear 20 .ireturn 1 21 := by decide +kernel
theorem dX8_copy_0 : jd cX8_copy 0 (.aload_n 0) 1 1 := by decide +kernel
theorem dX8_copy_1 : jd cX8_copy 1 (.iload_n 1) 1 2 := by decide +kernel
theorem dX8_copy_2 : jd cX8_copy 2 (.invokevirtual 80) 3 5 := by decide +kernel
theorem dX8_copy_5 : jt cX8_copy 5 (.ifCond .eq 11) 11 16 8 := by decide +kernel
theorem dX8_copy_8 : jd cX8_copy 8 (.aload_n 0) 1 9 := by decide +kernel
theorem dX8_copy_9 : jd cX8_copy 9 (.iload_n 3) 1 10 := by decide +kernel
theorem dX8_copy_10 : jd cX8_copy 10 (.invokevirtual 80) 3 13 := by decide +kernel
theorem dX8_copy_13 : jt cX8_copy 13 (.ifCond .ne 5) 5 18 16 := by decide +kernel
theorem dX8_copy_16 : jd cX8_copy 16 (.iconst (-1)) 1 17 := by decide +kernel
theorem dX8_copy_17 : jd cX8_copy 17 .ireturn 1 18 := by decide +kernel
theorem dX8_copy_18 : jd cX8_copy 18 (.iload 5) 2 20 := by decide +kernel
theorem dX8_copy_20 : jt cX8_copy 20 (.ifCond .ge 9) 9 29 23 := by decide +kernel
theorem dX8_copy_23 : jd cX8_copy 23 (.aload_n 0) 1 24 := by decide +kernel
theorem dX8_copy_24 : jd cX8_copy 24 (.iconst 5) 1 25 := by decide +kernel
theorem dX8_copy_25 : jd cX8_copy 25 (.invokevirtual 95) 3 28 := by decide +kernel
theorem dX8_copy_28 : jd cX8_copy 28 .ireturn 1 29 := by decide +kernel
theorem dX8_copy_29 : jd cX8_copy 29 (.aload_n 0) 1 30 := by decide +kernel
theorem dX8_copy_30 : jd cX8_copy 30 (.getfield 16) 3 33 := by decide +kernel
theorem dX8_copy_33 : jd cX8_copy 33 (.iload_n 1) 1 34 := by decide +kernel
theorem dX8_copy_34 : jd cX8_copy 34 .baload 1 35 := by decide +kernel
theorem dX8_copy_35 : jt cX8_copy 35 (.ifCond .eq 12) 12 47 38 := by decide +kernel
theorem dX8_copy_38 : jd cX8_copy 38 (.aload_n 0) 1 39 := by decide +kernel
theorem dX8_copy_39 : jd cX8_copy 39 (.getfield 16) 3 42 := by decide +kernel
theorem dX8_copy_42 : jd cX8_copy 42 (.iload_n 3) 1 43 := by decide +kernel
theorem dX8_copy_43 : jd cX8_copy 43 .baload 1 44 := by decide +kernel
theorem dX8_copy_44 : jt cX8_copy 44 (.ifCond .ne 9) 9 53 47 := by decide +kernel
theorem dX8_copy_47 : jd cX8_copy 47 (.aload_n 0) 1 48 := by decide +kernel
theorem dX8_copy_48 : jd cX8_copy 48 (.iconst 1) 1 49 := by decide +kernel
theorem dX8_copy_49 : jd cX8_copy 49 (.invokevirtual 95) 3 52 := by decide +kernel
theorem dX8_copy_52 : jd cX8_copy 52 .ireturn 1 53 := by decide +kernel
theorem dX8_copy_53 : jd cX8_copy 53 (.iload_n 2) 1 54 := by decide +kernel
theorem dX8_copy_54 : jt cX8_copy 54 (.ifCond .lt 35) 35 89 57 := by decide +kernel
theorem dX8_copy_57 : jd cX8_copy 57 (.iload 4) 2 59 := by decide +kernel
theorem dX8_copy_59 : jt cX8_copy 59 (.ifCond .lt 30) 30 89 62 := by decide +kernel
theorem dX8_copy_62 : jd cX8_copy 62 (.iload_n 2) 1 63 := by decide +kernel
theorem dX8_copy_63 : jd cX8_copy 63 .i2l 1 64 := by decide +kernel
theorem dX8_copy_64 : jd cX8_copy 64 (.iload 5) 2 66 := by decide +kernel
theorem dX8_copy_66 : jd cX8_copy 66 .i2l 1 67 := by decide +kernel
theorem dX8_copy_67 : jd cX8_copy 67 .ladd 1 68 := by decide +kernel
theorem dX8_copy_68 : jd cX8_copy 68 (.ldc2_w 118) 3 71 := by decide +kernel
theorem dX8_copy_71 : jd cX8_copy 71 .lcmp 1 72 := by decide +kernel
theorem dX8_copy_72 : jt cX8_copy 72 (.ifCond .gt 17) 17 89 75 := by decide +kernel
theorem dX8_copy_75 : jd cX8_copy 75 (.iload 4) 2 77 := by decide +kernel
theorem dX8_copy_77 : jd cX8_copy 77 .i2l 1 78 := by decide +kernel
theorem dX8_copy_78 : jd cX8_copy 78 (.iload 5) 2 80 := by decide +kernel
theorem dX8_copy_80 : jd cX8_copy 80 .i2l 1 81 := by decide +kernel
theorem dX8_copy_81 : jd cX8_copy 81 .ladd 1 82 := by decide +kernel
theorem dX8_copy_82 : jd cX8_copy 82 (.ldc2_w 118) 3 85 := by decide +kernel
theorem dX8_copy_85 : jd cX8_copy 85 .lcmp 1 86 := by decide +kernel
theorem dX8_copy_86 : jt cX8_copy 86 (.ifCond .le 9) 9 95 89 := by decide +kernel
theorem dX8_copy_89 : jd cX8_copy 89 (.aload_n 0) 1 90 := by decide +kernel
theorem dX8_copy_90 : jd cX8_copy 90 (.iconst 2) 1 91 := by decide +kernel
theorem dX8_copy_91 : jd cX8_copy 91 (.invokevirtual 95) 3 94 := by decide +kernel
theorem dX8_copy_94 : jd cX8_copy 94 .ireturn 1 95 := by decide +kernel
theorem dX8_copy_95 : jd cX8_copy 95 (.iconst 0) 1 96 := by decide +kernel
theorem dX8_copy_96 : jd cX8_copy 96 (.istore 6) 2 98 := by decide +kernel
theorem dX8_copy_98 : jd cX8_copy 98 (.iload 6) 2 100 := by decide +kernel
theorem dX8_copy_100 : jd cX8_copy 100 (.iload 5) 2 102 := by decide +kernel
theorem dX8_copy_102 : jt cX8_copy 102 (.if_icmp .ge 30) 30 132 105 := by decide +kernel
theorem dX8_copy_105 : jd cX8_copy 105 (.aload_n 0) 1 106 := by decide +kernel
theorem dX8_copy_106 : jd cX8_copy 106 (.getfield 26) 3 109 := by decide +kernel
theorem dX8_copy_109 : jd cX8_copy 109 (.iload 6) 2 111 := by decide +kernel
theorem dX8_copy_111 : jd cX8_copy 111 (.aload_n 0) 1 112 := by decide +kernel
theorem dX8_copy_112 : jd cX8_copy 112 (.getfield 20) 3 115 := by decide +kernel
theorem dX8_copy_115 : jd cX8_copy 115 (.bipush 60) 2 117 := by decide +kernel
theorem dX8_copy_117 : jd cX8_copy 117 (.iload_n 1) 1 118 := by decide +kernel
theorem dX8_copy_118 : jd cX8_copy 118 .imul 1 119 := by decide +kernel
theorem dX8_copy_119 : jd cX8_copy 119 (.iload_n 2) 1 120 := by decide +kernel
theorem dX8_copy_120 : jd cX8_copy 120 .iadd 1 121 := by decide +kernel
theorem dX8_copy_121 : jd cX8_copy 121 (.iload 6) 2 123 := by decide +kernel
theorem dX8_copy_123 : jd cX8_copy 123 .iadd 1 124 := by decide +kernel
theorem dX8_copy_124 : jd cX8_copy 124 .iaload 1 125 := by decide +kernel
theorem dX8_copy_125 : jd cX8_copy 125 .iastore 1 126 := by decide +kernel
theorem dX8_copy_126 : jd cX8_copy 126 (.iinc 6 1) 3 129 := by decide +kernel
theorem dX8_copy_129 : jt cX8_copy 129 (.goto (-31)) (-31) 98 132 := by decide +kernel
theorem dX8_copy_132 : jd cX8_copy 132 (.iconst 0) 1 133 := by decide +kernel
theorem dX8_copy_133 : jd cX8_copy 133 (.istore 6) 2 135 := by decide +kernel
theorem dX8_copy_135 : jd cX8_copy 135 (.iload 6) 2 137 := by decide +kernel
theorem dX8_copy_137 : jd cX8_copy 137 (.iload 5) 2 139 := by decide +kernel
theorem dX8_copy_139 : jt cX8_copy 139 (.if_icmp .ge 31) 31 170 142 := by decide +kernel
theorem dX8_copy_142 : jd cX8_copy 142 (.aload_n 0) 1 143 := by decide +kernel
theorem dX8_copy_143 : jd cX8_copy 143 (.getfield 20) 3 146 := by decide +kernel
theorem dX8_copy_146 : jd cX8_copy 146 (.bipush 60) 2 148 := by decide +kernel
theorem dX8_copy_148 : jd cX8_copy 148 (.iload_n 3) 1 149 := by decide +kernel
theorem dX8_copy_149 : jd cX8_copy 149 .imul 1 150 := by decide +kernel
theorem dX8_copy_150 : jd cX8_copy 150 (.iload 4) 2 152 := by decide +kernel
theorem dX8_copy_152 : jd cX8_copy 152 .iadd 1 153 := by decide +kernel
theorem dX8_copy_153 : jd cX8_copy 153 (.iload 6) 2 155 := by decide +kernel
theorem dX8_copy_155 : jd cX8_copy 155 .iadd 1 156 := by decide +kernel
theorem dX8_copy_156 : jd cX8_copy 156 (.aload_n 0) 1 157 := by decide +kernel
theorem dX8_copy_157 : jd cX8_copy 157 (.getfield 26) 3 160 := by decide +kernel
theorem dX8_copy_160 : jd cX8_copy 160 (.iload 6) 2 162 := by decide +kernel
theorem dX8_copy_162 : jd cX8_copy 162 .iaload 1 163 := by decide +kernel
theorem dX8_copy_163 : jd cX8_copy 163 .iastore 1 164 := by decide +kernel
theorem dX8_copy_164 : jd cX8_copy 164 (.iinc 6 1) 3 167 := by decide +kernel
theorem dX8_copy_167 : jt cX8_copy 167 (.goto (-32)) (-32) 135 170 := by decide +kernel
theorem dX8_copy_170 : jd cX8_copy 170 (.iconst 1) 1 171 := by decide +kernel
theorem dX8_copy_171 : jd cX8_copy 171 .ireturn 1 172 := by decide +kernel
theorem dX8_foot_0 : jd cX8_foot 0 (.iload_n 1) 1 1 := by decide +kernel
theorem dX8_foot_1 : jd cX8_foot 1 (.invokestatic 111) 3 4 := by decide +kernel
theorem dX8_foot_4 : jt cX8_foot 4 (.ifCond .eq 16) 16 20 7 := by decide +kernel
theorem dX8_foot_7 : jd cX8_foot 7 (.iload_n 2) 1 8 := by decide +kernel
theorem dX8_foot_8 : jd cX8_foot 8 (.sipush (-10000)) 3 11 := by decide +kernel
theorem dX8_foot_11 : jd cX8_foot 11 (.sipush 10000) 3 14 := by decide +kernel
theorem dX8_foot_14 : jd cX8_foot 14 (.invokestatic 76) 3 17 := by decide +kernel
theorem dX8_foot_17 : jt cX8_foot 17 (.ifCond .ne 5) 5 22 20 := by decide +kernel
theorem dX8_foot_20 : jd cX8_foot 20 (.iconst (-1)) 1 21 := by decide +kernel
theorem dX8_foot_21 : jd cX8_foot 21 .ireturn 1 22 := by decide +kernel
theorem dX8_foot_22 : jd cX8_foot 22 (.aload_n 0) 1 23 := by decide +kernel
theorem dX8_foot_23 : jd cX8_foot 23 (.getfield 23) 3 26 := by decide +kernel
theorem dX8_foot_26 : jd cX8_foot 26 (.iload_n 1) 1 27 := by decide +kernel
theorem dX8_foot_27 : jd cX8_foot 27 (.iload_n 2) 1 28 := by decide +kernel
theorem dX8_foot_28 : jd cX8_foot 28 .iastore 1 29 := by decide +kernel
theorem dX8_foot_29 : jd cX8_foot 29 (.iconst 1) 1 30 := by decide +kernel
theorem dX8_foot_30 : jd cX8_foot 30 .ireturn 1 31 := by decide +kernel
theorem dX8_footing_0 : jd cX8_footing 0 (.iload_n 1) 1 1 := by decide +kernel
theorem dX8_footing_1 : jd cX8_footing 1 (.invokestatic 111) 3 4 := by decide +kernel
theorem dX8_footing_4 : jt cX8_footing 4 (.ifCond .eq 17) 17 21 7 := by decide +kernel
theorem dX8_footing_7 : jd cX8_footing 7 (.aload_n 0) 1 8 := by decide +kernel
theorem dX8_footing_8 : jd cX8_footing 8 (.aload_n 0) 1 9 := by decide +kernel
theorem dX8_footing_9 : jd cX8_footing 9 (.getfield 23) 3 12 := by decide +kernel
theorem dX8_footing_12 : jd cX8_footing 12 (.iload_n 1) 1 13 := by decide +kernel
theorem dX8_footing_13 : jd cX8_footing 13 .iaload 1 14 := by decide +kernel
theorem dX8_footing_14 : jd cX8_footing 14 .i2l 1 15 := by decide +kernel
theorem dX8_footing_15 : jd cX8_footing 15 (.invokevirtual 114) 3 18 := by decide +kernel
theorem dX8_footing_18 : jt cX8_footing 18 (.goto 4) 4 22 21 := by decide +kernel
theorem dX8_footing_21 : jd cX8_footing 21 (.iconst (-1)) 1 22 := by decide +kernel
theorem dX8_footing_22 : jd cX8_footing 22 .ireturn 1 23 := by decide +kernel
theorem dX8_sort_0 : jd cX8_sort 0 (.iload_n 1) 1 1 := by decide +kernel
theorem dX8_sort_1 : jd cX8_sort 1 (.istore_n 3) 1 2 := by decide +kernel
theorem dX8_sort_2 : jd cX8_sort 2 (.iload_n 3) 1 3 := by decide +kernel
theorem dX8_sort_3 : jt cX8_sort 3 (.ifCond .le 35) 35 38 6 := by decide +kernel
theorem dX8_sort_6 : jd cX8_sort 6 (.aload_n 0) 1 7 := by decide +kernel
theorem dX8_sort_7 : jd cX8_sort 7 (.getfield 29) 3 10 := by decide +kernel
theorem dX8_sort_10 : jd cX8_sort 10 (.iload_n 3) 1 11 := by decide +kernel
theorem dX8_sort_11 : jd cX8_sort 11 (.iconst 1) 1 12 := by decide +kernel
theorem dX8_sort_12 : jd cX8_sort 12 .isub 1 13 := by decide +kernel
theorem dX8_sort_13 : jd cX8_sort 13 .iaload 1 14 := by decide +kernel
theorem dX8_sort_14 : jd cX8_sort 14 (.iload_n 2) 1 15 := by decide +kernel
theorem dX8_sort_15 : jt cX8_sort 15 (.if_icmp .le 23) 23 38 18 := by decide +kernel
theorem dX8_sort_18 : jd cX8_sort 18 (.aload_n 0) 1 19 := by decide +kernel
theorem dX8_sort_19 : jd cX8_sort 19 (.getfield 29) 3 22 := by decide +kernel
theorem dX8_sort_22 : jd cX8_sort 22 (.iload_n 3) 1 23 := by decide +kernel
theorem dX8_sort_23 : jd cX8_sort 23 (.aload_n 0) 1 24 := by decide +kernel
theorem dX8_sort_24 : jd cX8_sort 24 (.getfield 29) 3 27 := by decide +kernel
theorem dX8_sort_27 : jd cX8_sort 27 (.iload_n 3) 1 28 := by decide +kernel
theorem dX8_sort_28 : jd cX8_sort 28 (.iconst 1) 1 29 := by decide +kernel
theorem dX8_sort_29 : jd cX8_sort 29 .isub 1 30 := by decide +kernel
theorem dX8_sort_30 : jd cX8_sort 30 .iaload 1 31 := by decide +kernel
theorem dX8_sort_31 : jd cX8_sort 31 .iastore 1 32 := by decide +kernel
theorem dX8_sort_32 : jd cX8_sort 32 (.iinc 3 (-1)) 3 35 := by decide +kernel
theorem dX8_sort_35 : jt cX8_sort 35 (.goto (-33)) (-33) 2 38 := by decide +kernel
theorem dX8_sort_38 : jd cX8_sort 38 (.aload_n 0) 1 39 := by decide +kernel
theorem dX8_sort_39 : jd cX8_sort 39 (.getfield 29) 3 42 := by decide +kernel
theorem dX8_sort_42 : jd cX8_sort 42 (.iload_n 3) 1 43 := by decide +kernel
theorem dX8_sort_43 : jd cX8_sort 43 (.iload_n 2) 1 44 := by decide +kernel
theorem dX8_sort_44 : jd cX8_sort 44 .iastore 1 45 := by decide +kernel
theorem dX8_sort_45 : jd cX8_sort 45 (.iload_n 1) 1 46 := by decide +kernel
theorem dX8_sort_46 : jd cX8_sort 46 (.iconst 1) 1 47 := by decide +kernel
theorem dX8_sort_47 : jd cX8_sort 47 .iadd 1 48 := by decide +kernel
theorem dX8_sort_48 : jd cX8_sort 48 .ireturn 1 49 := by decide +kernel
theorem dX8_middle_0 : jd cX8_middle 0 (.iconst 0) 1 1 := by decide +kernel
theorem dX8_middle_1 : jd cX8_middle 1 (.istore_n 3) 1 2 := by decide +kernel
theorem dX8_middle_2 : jd cX8_middle 2 (.iconst 0) 1 3 := by decide +kernel
theorem dX8_middle_3 : jd cX8_middle 3 (.istore 4) 2 5 := by decide +kernel
theorem dX8_middle_5 : jd cX8_middle 5 (.iload 4) 2 7 := by decide +kernel
theorem dX8_middle_7 : jd cX8_middle 7 (.bipush 60) 2 9 := by decide +kernel
theorem dX8_middle_9 : jt cX8_middle 9 (.if_icmp .ge 55) 55 64 12 := by decide +kernel
theorem dX8_middle_12 : jd cX8_middle 12 (.aload_n 0) 1 13 := by decide +kernel
theorem dX8_middle_13 : jd cX8_middle 13 (.iload_n 1) 1 14 := by decide +kernel
theorem dX8_middle_14 : jd cX8_middle 14 (.iload 4) 2 16 := by decide +kernel
theorem dX8_middle_16 : jd cX8_middle 16 (.invokevirtual 88) 3 19 := by decide +kernel
theorem dX8_middle_19 : jt cX8_middle 19 (.ifCond .eq 37) 37 56 22 := by decide +kernel
theorem dX8_middle_22 : jd cX8_middle 22 (.aload_n 0) 1 23 := by decide +kernel
theorem dX8_middle_23 : jd cX8_middle 23 (.iload_n 3) 1 24 := by decide +kernel
theorem dX8_middle_24 : jd cX8_middle 24 (.iload_n 2) 1 25 := by decide +kernel
theorem dX8_middle_25 : jt cX8_middle 25 (.ifCond .eq 18) 18 43 28 := by decide +kernel
theorem dX8_middle_28 : jd cX8_middle 28 (.aload_n 0) 1 29 := by decide +kernel
theorem dX8_middle_29 : jd cX8_middle 29 (.getfield 20) 3 32 := by decide +kernel
theorem dX8_middle_32 : jd cX8_middle 32 (.bipush 60) 2 34 := by decide +kernel
theorem dX8_middle_34 : jd cX8_middle 34 (.iload_n 1) 1 35 := by decide +kernel
theorem dX8_middle_35 : jd cX8_middle 35 .imul 1 36 := by decide +kernel
theorem dX8_middle_36 : jd cX8_middle 36 (.iload 4) 2 38 := by decide +kernel
theorem dX8_middle_38 : jd cX8_middle 38 .iadd 1 39 := by decide +kernel
theorem dX8_middle_39 : jd cX8_middle 39 .iaload 1 40 := by decide +kernel
theorem dX8_middle_40 : jt cX8_middle 40 (.goto 10) 10 50 43 := by decide +kernel
theorem dX8_middle_43 : jd cX8_middle 43 (.aload_n 0) 1 44 := by decide +kernel
theorem dX8_middle_44 : jd cX8_middle 44 (.iload_n 1) 1 45 := by decide +kernel
theorem dX8_middle_45 : jd cX8_middle 45 (.iload 4) 2 47 := by decide +kernel
theorem dX8_middle_47 : jd cX8_middle 47 (.invokevirtual 91) 3 50 := by decide +kernel
theorem dX8_middle_50 : jd cX8_middle 50 (.invokevirtual 120) 3 53 := by decide +kernel
theorem dX8_middle_53 : jt cX8_middle 53 (.goto 4) 4 57 56 := by decide +kernel
theorem dX8_middle_56 : jd cX8_middle 56 (.iload_n 3) 1 57 := by decide +kernel
theorem dX8_middle_57 : jd cX8_middle 57 (.istore_n 3) 1 58 := by decide +kernel
theorem dX8_middle_58 : jd cX8_middle 58 (.iinc 4 1) 3 61 := by decide +kernel
theorem dX8_middle_61 : jt cX8_middle 61 (.goto (-56)) (-56) 5 64 := by decide +kernel
theorem dX8_middle_64 : jd cX8_middle 64 (.aload_n 0) 1 65 := by decide +kernel
theorem dX8_middle_65 : jd cX8_middle 65 (.getfield 29) 3 68 := by decide +kernel
theorem dX8_middle_68 : jd cX8_middle 68 (.iload_n 3) 1 69 := by decide +kernel
theorem dX8_middle_69 : jd cX8_middle 69 (.iconst 2) 1 70 := by decide +kernel
theorem dX8_middle_70 : jd cX8_middle 70 .idiv 1 71 := by decide +kernel
theorem dX8_middle_71 : jd cX8_middle 71 .iaload 1 72 := by decide +kernel
theorem dX8_middle_72 : jd cX8_middle 72 .ireturn 1 73 := by decide +kernel
theorem dX8_level_0 : jd cX8_level 0 (.iconst 0) 1 1 := by decide +kernel
theorem dX8_level_1 : jd cX8_level 1 (.istore_n 1) 1 2 := by decide +kernel
theorem dX8_level_2 : jd cX8_level 2 (.iload_n 1) 1 3 := by decide +kernel
theorem dX8_level_3 : jd cX8_level 3 (.aload_n 0) 1 4 := by decide +kernel
theorem dX8_level_4 : jd cX8_level 4 (.getfield 73) 3 7 := by decide +kernel
theorem dX8_level_7 : jt cX8_level 7 (.if_icmp .ge 42) 42 49 10 := by decide +kernel
theorem dX8_level_10 : jd cX8_level 10 (.aload_n 0) 1 11 := by decide +kernel
theorem dX8_level_11 : jd cX8_level 11 (.getfield 32) 3 14 := by decide +kernel
theorem dX8_level_14 : jd cX8_level 14 (.iload_n 1) 1 15 := by decide +kernel
theorem dX8_level_15 : jd cX8_level 15 (.aload_n 0) 1 16 := by decide +kernel
theorem dX8_level_16 : jd cX8_level 16 (.getfield 16) 3 19 := by decide +kernel
theorem dX8_level_19 : jd cX8_level 19 (.iload_n 1) 1 20 := by decide +kernel
theorem dX8_level_20 : jd cX8_level 20 .baload 1 21 := by decide +kernel
theorem dX8_level_21 : jt cX8_level 21 (.ifCond .eq 20) 20 41 24 := by decide +kernel
theorem dX8_level_24 : jd cX8_level 24 (.aload_n 0) 1 25 := by decide +kernel
theorem dX8_level_25 : jd cX8_level 25 (.iload_n 1) 1 26 := by decide +kernel
theorem dX8_level_26 : jd cX8_level 26 (.invokevirtual 99) 3 29 := by decide +kernel
theorem dX8_level_29 : jt cX8_level 29 (.ifCond .le 12) 12 41 32 := by decide +kernel
theorem dX8_level_32 : jd cX8_level 32 (.aload_n 0) 1 33 := by decide +kernel
theorem dX8_level_33 : jd cX8_level 33 (.iload_n 1) 1 34 := by decide +kernel
theorem dX8_level_34 : jd cX8_level 34 (.iconst 1) 1 35 := by decide +kernel
theorem dX8_level_35 : jd cX8_level 35 (.invokevirtual 123) 3 38 := by decide +kernel
theorem dX8_level_38 : jt cX8_level 38 (.goto 4) 4 42 41 := by decide +kernel
theorem dX8_level_41 : jd cX8_level 41 (.iconst 0) 1 42 := by decide +kernel
theorem dX8_level_42 : jd cX8_level 42 .iastore 1 43 := by decide +kernel
theorem dX8_level_43 : jd cX8_level 43 (.iinc 1 1) 3 46 := by decide +kernel
theorem dX8_level_46 : jt cX8_level 46 (.goto (-44)) (-44) 2 49 := by decide +kernel
theorem dX8_level_49 : jd cX8_level 49 (.iconst 0) 1 50 := by decide +kernel
theorem dX8_level_50 : jd cX8_level 50 (.istore_n 1) 1 51 := by decide +kernel
theorem dX8_level_51 : jd cX8_level 51 (.iconst 0) 1 52 := by decide +kernel
theorem dX8_level_52 : jd cX8_level 52 (.istore_n 2) 1 53 := by decide +kernel
theorem dX8_level_53 : jd cX8_level 53 (.iload_n 2) 1 54 := by decide +kernel
theorem dX8_level_54 : jd cX8_level 54 (.bipush 60) 2 56 := by decide +kernel
theorem dX8_level_56 : jt cX8_level 56 (.if_icmp .ge 129) 129 185 59 := by decide +kernel
theorem dX8_level_59 : jd cX8_level 59 (.iconst 0) 1 60 := by decide +kernel
theorem dX8_level_60 : jd cX8_level 60 (.istore_n 3) 1 61 := by decide +kernel
theorem dX8_level_61 : jd cX8_level 61 (.iconst 0) 1 62 := by decide +kernel
theorem dX8_level_62 : jd cX8_level 62 (.istore 4) 2 64 := by decide +kernel
theorem dX8_level_64 : jd cX8_level 64 (.iload 4) 2 66 := by decide +kernel
theorem dX8_level_66 : jd cX8_level 66 (.aload_n 0) 1 67 := by decide +kernel
theorem dX8_level_67 : jd cX8_level 67 (.getfield 73) 3 70 := by decide +kernel
theorem dX8_level_70 : jt cX8_level 70 (.if_icmp .ge 70) 70 140 73 := by decide +kernel
theorem dX8_level_73 : jd cX8_level 73 (.aload_n 0) 1 74 := by decide +kernel
theorem dX8_level_74 : jd cX8_level 74 (.getfield 13) 3 77 := by decide +kernel
theorem dX8_level_77 : jd cX8_level 77 (.iload 4) 2 79 := by decide +kernel
theorem dX8_level_79 : jd cX8_level 79 .iaload 1 80 := by decide +kernel
theorem dX8_level_80 : jd cX8_level 80 (.iconst 1) 1 81 := by decide +kernel
theorem dX8_level_81 : jt cX8_level 81 (.if_icmp .ne 51) 51 132 84 := by decide +kernel
theorem dX8_level_84 : jd cX8_level 84 (.aload_n 0) 1 85 := by decide +kernel
theorem dX8_level_85 : jd cX8_level 85 (.getfield 16) 3 88 := by decide +kernel
theorem dX8_level_88 : jd cX8_level 88 (.iload 4) 2 90 := by decide +kernel
theorem dX8_level_90 : jd cX8_level 90 .baload 1 91 := by decide +kernel
theorem dX8_level_91 : jt cX8_level 91 (.ifCond .eq 41) 41 132 94 := by decide +kernel
theorem dX8_level_94 : jd cX8_level 94 (.aload_n 0) 1 95 := by decide +kernel
theorem dX8_level_95 : jd cX8_level 95 (.iload 4) 2 97 := by decide +kernel
theorem dX8_level_97 : jd cX8_level 97 (.iload_n 2) 1 98 := by decide +kernel
theorem dX8_level_98 : jd cX8_level 98 (.invokevirtual 88) 3 101 := by decide +kernel
theorem dX8_level_101 : jt cX8_level 101 (.ifCond .eq 31) 31 132 104 := by decide +kernel
theorem dX8_level_104 : jd cX8_level 104 (.aload_n 0) 1 105 := by decide +kernel
theorem dX8_level_105 : jd cX8_level 105 (.iload_n 3) 1 106 := by decide +kernel
theorem dX8_level_106 : jd cX8_level 106 (.aload_n 0) 1 107 := by decide +kernel
theorem dX8_level_107 : jd cX8_level 107 (.getfield 20) 3 110 := by decide +kernel
theorem dX8_level_110 : jd cX8_level 110 (.bipush 60) 2 112 := by decide +kernel
theorem dX8_level_112 : jd cX8_level 112 (.iload 4) 2 114 := by decide +kernel
theorem dX8_level_114 : jd cX8_level 114 .imul 1 115 := by decide +kernel
theorem dX8_level_115 : jd cX8_level 115 (.iload_n 2) 1 116 := by decide +kernel
theorem dX8_level_116 : jd cX8_level 116 .iadd 1 117 := by decide +kernel
theorem dX8_level_117 : jd cX8_level 117 .iaload 1 118 := by decide +kernel
theorem dX8_level_118 : jd cX8_level 118 (.aload_n 0) 1 119 := by decide +kernel
theorem dX8_level_119 : jd cX8_level 119 (.getfield 32) 3 122 := by decide +kernel
theorem dX8_level_122 : jd cX8_level 122 (.iload 4) 2 124 := by decide +kernel
theorem dX8_level_124 : jd cX8_level 124 .iaload 1 125 := by decide +kernel
theorem dX8_level_125 : jd cX8_level 125 .isub 1 126 := by decide +kernel
theorem dX8_level_126 : jd cX8_level 126 (.invokevirtual 120) 3 129 := by decide +kernel
theorem dX8_level_129 : jt cX8_level 129 (.goto 4) 4 133 132 := by decide +kernel
theorem dX8_level_132 : jd cX8_level 132 (.iload_n 3) 1 133 := by decide +kernel
theorem dX8_level_133 : jd cX8_level 133 (.istore_n 3) 1 134 := by decide +kernel
theorem dX8_level_134 : jd cX8_level 134 (.iinc 4 1) 3 137 := by decide +kernel
theorem dX8_level_137 : jt cX8_level 137 (.goto (-73)) (-73) 64 140 := by decide +kernel
theorem dX8_level_140 : jd cX8_level 140 (.aload_n 0) 1 141 := by decide +kernel
theorem dX8_level_141 : jd cX8_level 141 (.getfield 23) 3 144 := by decide +kernel
theorem dX8_level_144 : jd cX8_level 144 (.iload_n 2) 1 145 := by decide +kernel
theorem dX8_level_145 : jd cX8_level 145 (.iload_n 3) 1 146 := by decide +kernel
theorem dX8_level_146 : jt cX8_level 146 (.ifCond .ne 7) 7 153 149 := by decide +kernel
theorem dX8_level_149 : jd cX8_level 149 (.iconst 0) 1 150 := by decide +kernel
theorem dX8_level_150 : jt cX8_level 150 (.goto 11) 11 161 153 := by decide +kernel
theorem dX8_level_153 : jd cX8_level 153 (.aload_n 0) 1 154 := by decide +kernel
theorem dX8_level_154 : jd cX8_level 154 (.getfield 29) 3 157 := by decide +kernel
theorem dX8_level_157 : jd cX8_level 157 (.iload_n 3) 1 158 := by decide +kernel
theorem dX8_level_158 : jd cX8_level 158 (.iconst 2) 1 159 := by decide +kernel
theorem dX8_level_159 : jd cX8_level 159 .idiv 1 160 := by decide +kernel
theorem dX8_level_160 : jd cX8_level 160 .iaload 1 161 := by decide +kernel
theorem dX8_level_161 : jd cX8_level 161 .iastore 1 162 := by decide +kernel
theorem dX8_level_162 : jd cX8_level 162 (.iload_n 1) 1 163 := by decide +kernel
theorem dX8_level_163 : jd cX8_level 163 (.aload_n 0) 1 164 := by decide +kernel
theorem dX8_level_164 : jd cX8_level 164 (.getfield 23) 3 167 := by decide +kernel
theorem dX8_level_167 : jd cX8_level 167 (.iload_n 2) 1 168 := by decide +kernel
theorem dX8_level_168 : jd cX8_level 168 .iaload 1 169 := by decide +kernel
theorem dX8_level_169 : jt cX8_level 169 (.ifCond .eq 7) 7 176 172 := by decide +kernel
theorem dX8_level_172 : jd cX8_level 172 (.iconst 1) 1 173 := by decide +kernel
theorem dX8_level_173 : jt cX8_level 173 (.goto 4) 4 177 176 := by decide +kernel
theorem dX8_level_176 : jd cX8_level 176 (.iconst 0) 1 177 := by decide +kernel
theorem dX8_level_177 : jd cX8_level 177 .iadd 1 178 := by decide +kernel
theorem dX8_level_178 : jd cX8_level 178 (.istore_n 1) 1 179 := by decide +kernel
theorem dX8_level_179 : jd cX8_level 179 (.iinc 2 1) 3 182 := by decide +kernel
theorem dX8_level_182 : jt cX8_level 182 (.goto (-129)) (-129) 53 185 := by decide +kernel
theorem dX8_level_185 : jd cX8_level 185 (.iload_n 1) 1 186 := by decide +kernel
theorem dX8_level_186 : jd cX8_level 186 .ireturn 1 187 := by decide +kernel
theorem dX8_levelOf_0 : jd cX8_levelOf 0 (.aload_n 0) 1 1 := by decide +kernel
theorem dX8_levelOf_1 : jd cX8_levelOf 1 (.iload_n 1) 1 2 := by decide +kernel
theorem dX8_levelOf_2 : jd cX8_levelOf 2 (.invokevirtual 108) 3 5 := by decide +kernel
theorem dX8_levelOf_5 : jd cX8_levelOf 5 (.istore_n 2) 1 6 := by decide +kernel
theorem dX8_levelOf_6 : jd cX8_levelOf 6 (.iload_n 2) 1 7 := by decide +kernel
theorem dX8_levelOf_7 : jt cX8_levelOf 7 (.ifCond .ge 7) 7 14 10 := by decide +kernel
theorem dX8_levelOf_10 : jd cX8_levelOf 10 (.iload_n 2) 1 11 := by decide +kernel
theorem dX8_levelOf_11 : jt cX8_levelOf 11 (.goto 30) 30 41 14 := by decide +kernel
theorem dX8_levelOf_14 : jd cX8_levelOf 14 (.aload_n 0) 1 15 := by decide +kernel
theorem dX8_levelOf_15 : jd cX8_levelOf 15 (.iload_n 1) 1 16 := by decide +kernel
theorem dX8_levelOf_16 : jd cX8_levelOf 16 (.invokevirtual 99) 3 19 := by decide +kernel
theorem dX8_levelOf_19 : jt cX8_levelOf 19 (.ifCond .ne 11) 11 30 22 := by decide +kernel
theorem dX8_levelOf_22 : jd cX8_levelOf 22 (.aload_n 0) 1 23 := by decide +kernel
theorem dX8_levelOf_23 : jd cX8_levelOf 23 (.iconst 4) 1 24 := by decide +kernel
theorem dX8_levelOf_24 : jd cX8_levelOf 24 (.invokevirtual 95) 3 27 := by decide +kernel
theorem dX8_levelOf_27 : jt cX8_levelOf 27 (.goto 14) 14 41 30 := by decide +kernel
theorem dX8_levelOf_30 : jd cX8_levelOf 30 (.aload_n 0) 1 31 := by decide +kernel
theorem dX8_levelOf_31 : jd cX8_levelOf 31 (.aload_n 0) 1 32 := by decide +kernel
theorem dX8_levelOf_32 : jd cX8_levelOf 32 (.iload_n 1) 1 33 := by decide +kernel
theorem dX8_levelOf_33 : jd cX8_levelOf 33 (.iconst 0) 1 34 := by decide +kernel
theorem dX8_levelOf_34 : jd cX8_levelOf 34 (.invokevirtual 123) 3 37 := by decide +kernel
theorem dX8_levelOf_37 : jd cX8_levelOf 37 .i2l 1 38 := by decide +kernel
theorem dX8_levelOf_38 : jd cX8_levelOf 38 (.invokevirtual 114) 3 41 := by decide +kernel
theorem dX8_levelOf_41 : jd cX8_levelOf 41 .ireturn 1 42 := by decide +kernel
theorem dX8_mean_0 : jd cX8_mean 0 (.aload_n 0) 1 1 := by decide +kernel
theorem dX8_mean_1 : jd cX8_mean 1 (.iload_n 1) 1 2 := by decide +kernel
theorem dX8_mean_2 : jd cX8_mean 2 (.invokevirtual 108) 3 5 := by decide +kernel
theorem dX8_mean_5 : jd cX8_mean 5 (.istore_n 2) 1 6 := by decide +kernel
theorem dX8_mean_6 : jd cX8_mean 6 (.iload_n 2) 1 7 := by decide +kernel
theorem dX8_mean_7 : jt cX8_mean 7 (.ifCond .ge 5) 5 12 10 := by decide +kernel
theorem dX8_mean_10 : jd cX8_mean 10 (.iload_n 2) 1 11 := by decide +kernel
theorem dX8_mean_11 : jd cX8_mean 11 .ireturn 1 12 := by decide +kernel
theorem dX8_mean_12 : jd cX8_mean 12 (.aload_n 0) 1 13 := by decide +kernel
theorem dX8_mean_13 : jd cX8_mean 13 (.iload_n 1) 1 14 := by decide +kernel
theorem dX8_mean_14 : jd cX8_mean 14 (.invokevirtual 99) 3 17 := by decide +kernel
theorem dX8_mean_17 : jd cX8_mean 17 (.istore_n 3) 1 18 := by decide +kernel
theorem dX8_mean_18 : jd cX8_mean 18 (.lconst 0) 1 19 := by decide +kernel
theorem dX8_mean_19 : jd cX8_mean 19 (.lstore 4) 2 21 := by decide +kernel
theorem dX8_mean_21 : jd cX8_mean 21 (.iconst 0) 1 22 := by decide +kernel
theorem dX8_mean_22 : jd cX8_mean 22 (.istore 6) 2 24 := by decide +kernel
theorem dX8_mean_24 : jd cX8_mean 24 (.iload 6) 2 26 := by decide +kernel
theorem dX8_mean_26 : jd cX8_mean 26 (.bipush 60) 2 28 := by decide +kernel
theorem dX8_mean_28 : jt cX8_mean 28 (.if_icmp .ge 36) 36 64 31 := by decide +kernel
theorem dX8_mean_31 : jd cX8_mean 31 (.lload 4) 2 33 := by decide +kernel
theorem dX8_mean_33 : jd cX8_mean 33 (.aload_n 0) 1 34 := by decide +kernel
theorem dX8_mean_34 : jd cX8_mean 34 (.iload_n 1) 1 35 := by decide +kernel
theorem dX8_mean_35 : jd cX8_mean 35 (.iload 6) 2 37 := by decide +kernel
theorem dX8_mean_37 : jd cX8_mean 37 (.invokevirtual 88) 3 40 := by decide +kernel
theorem dX8_mean_40 : jt cX8_mean 40 (.ifCond .eq 14) 14 54 43 := by decide +kernel
theorem dX8_mean_43 : jd cX8_mean 43 (.aload_n 0) 1 44 := by decide +kernel
theorem dX8_mean_44 : jd cX8_mean 44 (.iload_n 1) 1 45 := by decide +kernel
theorem dX8_mean_45 : jd cX8_mean 45 (.iload 6) 2 47 := by decide +kernel
theorem dX8_mean_47 : jd cX8_mean 47 (.invokevirtual 91) 3 50 := by decide +kernel
theorem dX8_mean_50 : jd cX8_mean 50 .i2l 1 51 := by decide +kernel
theorem dX8_mean_51 : jt cX8_mean 51 (.goto 4) 4 55 54 := by decide +kernel
theorem dX8_mean_54 : jd cX8_mean 54 (.lconst 0) 1 55 := by decide +kernel
theorem dX8_mean_55 : jd cX8_mean 55 .ladd 1 56 := by decide +kernel
theorem dX8_mean_56 : jd cX8_mean 56 (.lstore 4) 2 58 := by decide +kernel
theorem dX8_mean_58 : jd cX8_mean 58 (.iinc 6 1) 3 61 := by decide +kernel
theorem dX8_mean_61 : jt cX8_mean 61 (.goto (-37)) (-37) 24 64 := by decide +kernel
theorem dX8_mean_64 : jd cX8_mean 64 (.iload_n 3) 1 65 := by decide +kernel
theorem dX8_mean_65 : jt cX8_mean 65 (.ifCond .ne 11) 11 76 68 := by decide +kernel
theorem dX8_mean_68 : jd cX8_mean 68 (.aload_n 0) 1 69 := by decide +kernel
theorem dX8_mean_69 : jd cX8_mean 69 (.iconst 4) 1 70 := by decide +kernel
theorem dX8_mean_70 : jd cX8_mean 70 (.invokevirtual 95) 3 73 := by decide +kernel
theorem dX8_mean_73 : jt cX8_mean 73 (.goto 12) 12 85 76 := by decide +kernel
theorem dX8_mean_76 : jd cX8_mean 76 (.aload_n 0) 1 77 := by decide +kernel
theorem dX8_mean_77 : jd cX8_mean 77 (.lload 4) 2 79 := by decide +kernel
theorem dX8_mean_79 : jd cX8_mean 79 (.iload_n 3) 1 80 := by decide +kernel
theorem dX8_mean_80 : jd cX8_mean 80 .i2l 1 81 := by decide +kernel
theorem dX8_mean_81 : jd cX8_mean 81 .ldiv 1 82 := by decide +kernel
theorem dX8_mean_82 : jd cX8_mean 82 (.invokevirtual 114) 3 85 := by decide +kernel
theorem dX8_mean_85 : jd cX8_mean 85 .ireturn 1 86 := by decide +kernel
theorem dX8_isPeriod_0 : jd cX8_isPeriod 0 (.iload_n 0) 1 1 := by decide +kernel
theorem dX8_isPeriod_1 : jd cX8_isPeriod 1 (.iconst 1) 1 2 := by decide +kernel
theorem dX8_isPeriod_2 : jd cX8_isPeriod 2 (.sipush 600) 3 5 := by decide +kernel
theorem dX8_isPeriod_5 : jd cX8_isPeriod 5 (.invokestatic 76) 3 8 := by decide +kernel
theorem dX8_isPeriod_8 : jd cX8_isPeriod 8 .ireturn 1 9 := by decide +kernel
theorem dX8_isPart_0 : jd cX8_isPart 0 (.iload_n 0) 1 1 := by decide +kernel
theorem dX8_isPart_1 : jd cX8_isPart 1 (.iconst 1) 1 2 := by decide +kernel
theorem dX8_isPart_2 : jd cX8_isPart 2 (.bipush 60) 2 4 := by decide +kernel
theorem dX8_isPart_4 : jd cX8_isPart 4 (.invokestatic 76) 3 7 := by decide +kernel
theorem dX8_isPart_7 : jd cX8_isPart 7 .ireturn 1 8 := by decide +kernel
theorem dX8_phase_0 : jd cX8_phase 0 (.iload_n 1) 1 1 := by decide +kernel
theorem dX8_phase_1 : jd cX8_phase 1 (.invokestatic 111) 3 4 := by decide +kernel
theorem dX8_phase_4 : jt cX8_phase 4 (.ifCond .eq 25) 25 29 7 := by decide +kernel
theorem dX8_phase_7 : jd cX8_phase 7 (.iload_n 2) 1 8 := by decide +kernel
theorem dX8_phase_8 : jd cX8_phase 8 (.invokestatic 127) 3 11 := by decide +kernel
theorem dX8_phase_11 : jt cX8_phase 11 (.ifCond .eq 18) 18 29 14 := by decide +kernel
theorem dX8_phase_14 : jd cX8_phase 14 (.iload_n 3) 1 15 := by decide +kernel
theorem dX8_phase_15 : jd cX8_phase 15 (.invokestatic 130) 3 18 := by decide +kernel
theorem dX8_phase_18 : jt cX8_phase 18 (.ifCond .eq 11) 11 29 21 := by decide +kernel
theorem dX8_phase_21 : jd cX8_phase 21 (.iload_n 1) 1 22 := by decide +kernel
theorem dX8_phase_22 : jd cX8_phase 22 (.iload_n 3) 1 23 := by decide +kernel
theorem dX8_phase_23 : jd cX8_phase 23 .imul 1 24 := by decide +kernel
theorem dX8_phase_24 : jd cX8_phase 24 (.iload_n 2) 1 25 := by decide +kernel
theorem dX8_phase_25 : jd cX8_phase 25 .irem 1 26 := by decide +kernel
theorem dX8_phase_26 : jt cX8_phase 26 (.goto 4) 4 30 29 := by decide +kernel
theorem dX8_phase_29 : jd cX8_phase 29 (.iconst (-1)) 1 30 := by decide +kernel
theorem dX8_phase_30 : jd cX8_phase 30 .ireturn 1 31 := by decide +kernel
theorem dX8_stringOf_0 : jd cX8_stringOf 0 (.iconst 0) 1 1 := by decide +kernel
theorem dX8_stringOf_1 : jd cX8_stringOf 1 (.istore 4) 2 3 := by decide +kernel
theorem dX8_stringOf_3 : jd cX8_stringOf 3 (.iconst 0) 1 4 := by decide +kernel
theorem dX8_stringOf_4 : jd cX8_stringOf 4 (.istore 5) 2 6 := by decide +kernel
theorem dX8_stringOf_6 : jd cX8_stringOf 6 (.iload 5) 2 8 := by decide +kernel
theorem dX8_stringOf_8 : jd cX8_stringOf 8 (.bipush 60) 2 10 := by decide +kernel
theorem dX8_stringOf_10 : jt cX8_stringOf 10 (.if_icmp .ge 84) 84 94 13 := by decide +kernel
theorem dX8_stringOf_13 : jd cX8_stringOf 13 (.aload_n 0) 1 14 := by decide +kernel
theorem dX8_stringOf_14 : jd cX8_stringOf 14 (.iload_n 1) 1 15 := by decide +kernel
theorem dX8_stringOf_15 : jd cX8_stringOf 15 (.iload 5) 2 17 := by decide +kernel
theorem dX8_stringOf_17 : jd cX8_stringOf 17 (.invokevirtual 88) 3 20 := by decide +kernel
theorem dX8_stringOf_20 : jt cX8_stringOf 20 (.ifCond .eq 68) 68 88 23 := by decide +kernel
theorem dX8_stringOf_23 : jd cX8_stringOf 23 (.iload 4) 2 25 := by decide +kernel
theorem dX8_stringOf_25 : jd cX8_stringOf 25 (.istore 6) 2 27 := by decide +kernel
theorem dX8_stringOf_27 : jd cX8_stringOf 27 (.iload 6) 2 29 := by decide +kernel
theorem dX8_stringOf_29 : jt cX8_stringOf 29 (.ifCond .le 47) 47 76 32 := by decide +kernel
theorem dX8_stringOf_32 : jd cX8_stringOf 32 (.aload_n 0) 1 33 := by decide +kernel
theorem dX8_stringOf_33 : jd cX8_stringOf 33 (.getfield 35) 3 36 := by decide +kernel
theorem dX8_stringOf_36 : jd cX8_stringOf 36 (.iload 6) 2 38 := by decide +kernel
theorem dX8_stringOf_38 : jd cX8_stringOf 38 (.iconst 1) 1 39 := by decide +kernel
theorem dX8_stringOf_39 : jd cX8_stringOf 39 .isub 1 40 := by decide +kernel
theorem dX8_stringOf_40 : jd cX8_stringOf 40 .iaload 1 41 := by decide +kernel
theorem dX8_stringOf_41 : jd cX8_stringOf 41 (.iload_n 3) 1 42 := by decide +kernel
theorem dX8_stringOf_42 : jd cX8_stringOf 42 .imul 1 43 := by decide +kernel
theorem dX8_stringOf_43 : jd cX8_stringOf 43 (.iload_n 2) 1 44 := by decide +kernel
theorem dX8_stringOf_44 : jd cX8_stringOf 44 .irem 1 45 := by decide +kernel
theorem dX8_stringOf_45 : jd cX8_stringOf 45 (.iload 5) 2 47 := by decide +kernel
theorem dX8_stringOf_47 : jd cX8_stringOf 47 (.iload_n 3) 1 48 := by decide +kernel
theorem dX8_stringOf_48 : jd cX8_stringOf 48 .imul 1 49 := by decide +kernel
theorem dX8_stringOf_49 : jd cX8_stringOf 49 (.iload_n 2) 1 50 := by decide +kernel
theorem dX8_stringOf_50 : jd cX8_stringOf 50 .irem 1 51 := by decide +kernel
theorem dX8_stringOf_51 : jt cX8_stringOf 51 (.if_icmp .le 25) 25 76 54 := by decide +kernel
theorem dX8_stringOf_54 : jd cX8_stringOf 54 (.aload_n 0) 1 55 := by decide +kernel
theorem dX8_stringOf_55 : jd cX8_stringOf 55 (.getfield 35) 3 58 := by decide +kernel
theorem dX8_stringOf_58 : jd cX8_stringOf 58 (.iload 6) 2 60 := by decide +kernel
theorem dX8_stringOf_60 : jd cX8_stringOf 60 (.aload_n 0) 1 61 := by decide +kernel
theorem dX8_stringOf_61 : jd cX8_stringOf 61 (.getfield 35) 3 64 := by decide +kernel
theorem dX8_stringOf_64 : jd cX8_stringOf 64 (.iload 6) 2 66 := by decide +kernel
theorem dX8_stringOf_66 : jd cX8_stringOf 66 (.iconst 1) 1 67 := by decide +kernel
theorem dX8_stringOf_67 : jd cX8_stringOf 67 .isub 1 68 := by decide +kernel
theorem dX8_stringOf_68 : jd cX8_stringOf 68 .iaload 1 69 := by decide +kernel
theorem dX8_stringOf_69 : jd cX8_stringOf 69 .iastore 1 70 := by decide +kernel
theorem dX8_stringOf_70 : jd cX8_stringOf 70 (.iinc 6 (-1)) 3 73 := by decide +kernel
theorem dX8_stringOf_73 : jt cX8_stringOf 73 (.goto (-46)) (-46) 27 76 := by decide +kernel
theorem dX8_stringOf_76 : jd cX8_stringOf 76 (.aload_n 0) 1 77 := by decide +kernel
theorem dX8_stringOf_77 : jd cX8_stringOf 77 (.getfield 35) 3 80 := by decide +kernel
theorem dX8_stringOf_80 : jd cX8_stringOf 80 (.iload 6) 2 82 := by decide +kernel
theorem dX8_stringOf_82 : jd cX8_stringOf 82 (.iload 5) 2 84 := by decide +kernel
theorem dX8_stringOf_84 : jd cX8_stringOf 84 .iastore 1 85 := by decide +kernel
theorem dX8_stringOf_85 : jd cX8_stringOf 85 (.iinc 4 1) 3 88 := by decide +kernel
theorem dX8_stringOf_88 : jd cX8_stringOf 88 (.iinc 5 1) 3 91 := by decide +kernel
theorem dX8_stringOf_91 : jt cX8_stringOf 91 (.goto (-85)) (-85) 6 94 := by decide +kernel
theorem dX8_stringOf_94 : jd cX8_stringOf 94 (.lconst 0) 1 95 := by decide +kernel
theorem dX8_stringOf_95 : jd cX8_stringOf 95 (.lstore 5) 2 97 := by decide +kernel
theorem dX8_stringOf_97 : jd cX8_stringOf 97 (.iconst 0) 1 98 := by decide +kernel
theorem dX8_stringOf_98 : jd cX8_stringOf 98 (.istore 7) 2 100 := by decide +kernel
theorem dX8_stringOf_100 : jd cX8_stringOf 100 (.iload 7) 2 102 := by decide +kernel
theorem dX8_stringOf_102 : jd cX8_stringOf 102 (.iload 4) 2 104 := by decide +kernel
theorem dX8_stringOf_104 : jt cX8_stringOf 104 (.if_icmp .ge 61) 61 165 107 := by decide +kernel
theorem dX8_stringOf_107 : jd cX8_stringOf 107 (.aload_n 0) 1 108 := by decide +kernel
theorem dX8_stringOf_108 : jd cX8_stringOf 108 (.iload_n 1) 1 109 := by decide +kernel
theorem dX8_stringOf_109 : jd cX8_stringOf 109 (.aload_n 0) 1 110 := by decide +kernel
theorem dX8_stringOf_110 : jd cX8_stringOf 110 (.getfield 35) 3 113 := by decide +kernel
theorem dX8_stringOf_113 : jd cX8_stringOf 113 (.iload 7) 2 115 := by decide +kernel
theorem dX8_stringOf_115 : jd cX8_stringOf 115 .iaload 1 116 := by decide +kernel
theorem dX8_stringOf_116 : jd cX8_stringOf 116 (.invokevirtual 91) 3 119 := by decide +kernel
theorem dX8_stringOf_119 : jd cX8_stringOf 119 (.aload_n 0) 1 120 := by decide +kernel
theorem dX8_stringOf_120 : jd cX8_stringOf 120 (.iload_n 1) 1 121 := by decide +kernel
theorem dX8_stringOf_121 : jd cX8_stringOf 121 (.aload_n 0) 1 122 := by decide +kernel
theorem dX8_stringOf_122 : jd cX8_stringOf 122 (.getfield 35) 3 125 := by decide +kernel
theorem dX8_stringOf_125 : jd cX8_stringOf 125 (.iload 7) 2 127 := by decide +kernel
theorem dX8_stringOf_127 : jd cX8_stringOf 127 (.iconst 1) 1 128 := by decide +kernel
theorem dX8_stringOf_128 : jd cX8_stringOf 128 .iadd 1 129 := by decide +kernel
theorem dX8_stringOf_129 : jd cX8_stringOf 129 (.iload 4) 2 131 := by decide +kernel
theorem dX8_stringOf_131 : jd cX8_stringOf 131 .irem 1 132 := by decide +kernel
theorem dX8_stringOf_132 : jd cX8_stringOf 132 .iaload 1 133 := by decide +kernel
theorem dX8_stringOf_133 : jd cX8_stringOf 133 (.invokevirtual 91) 3 136 := by decide +kernel
theorem dX8_stringOf_136 : jd cX8_stringOf 136 .isub 1 137 := by decide +kernel
theorem dX8_stringOf_137 : jd cX8_stringOf 137 (.istore 8) 2 139 := by decide +kernel
theorem dX8_stringOf_139 : jd cX8_stringOf 139 (.lload 5) 2 141 := by decide +kernel
theorem dX8_stringOf_141 : jd cX8_stringOf 141 (.iload 8) 2 143 := by decide +kernel
theorem dX8_stringOf_143 : jt cX8_stringOf 143 (.ifCond .ge 10) 10 153 146 := by decide +kernel
theorem dX8_stringOf_146 : jd cX8_stringOf 146 (.iload 8) 2 148 := by decide +kernel
theorem dX8_stringOf_148 : jd cX8_stringOf 148 .ineg 1 149 := by decide +kernel
theorem dX8_stringOf_149 : jd cX8_stringOf 149 .i2l 1 150 := by decide +kernel
theorem dX8_stringOf_150 : jt cX8_stringOf 150 (.goto 6) 6 156 153 := by decide +kernel
theorem dX8_stringOf_153 : jd cX8_stringOf 153 (.iload 8) 2 155 := by decide +kernel
theorem dX8_stringOf_155 : jd cX8_stringOf 155 .i2l 1 156 := by decide +kernel
theorem dX8_stringOf_156 : jd cX8_stringOf 156 .ladd 1 157 := by decide +kernel
theorem dX8_stringOf_157 : jd cX8_stringOf 157 (.lstore 5) 2 159 := by decide +kernel
theorem dX8_stringOf_159 : jd cX8_stringOf 159 (.iinc 7 1) 3 162 := by decide +kernel
theorem dX8_stringOf_162 : jt cX8_stringOf 162 (.goto (-62)) (-62) 100 165 := by decide +kernel
theorem dX8_stringOf_165 : jd cX8_stringOf 165 (.lload 5) 2 167 := by decide +kernel
theorem dX8_stringOf_167 : jd cX8_stringOf 167 .lreturn 1 168 := by decide +kernel
theorem dX8_string_0 : jd cX8_string 0 (.iload_n 2) 1 1 := by decide +kernel
theorem dX8_string_1 : jd cX8_string 1 (.invokestatic 127) 3 4 := by decide +kernel
theorem dX8_string_4 : jt cX8_string 4 (.ifCond .eq 10) 10 14 7 := by decide +kernel
theorem dX8_string_7 : jd cX8_string 7 (.iload_n 3) 1 8 := by decide +kernel
theorem dX8_string_8 : jd cX8_string 8 (.invokestatic 130) 3 11 := by decide +kernel
theorem dX8_string_11 : jt cX8_string 11 (.ifCond .ne 5) 5 16 14 := by decide +kernel
theorem dX8_string_14 : jd cX8_string 14 (.iconst (-1)) 1 15 := by decide +kernel
theorem dX8_string_15 : jd cX8_string 15 .ireturn 1 16 := by decide +kernel
theorem dX8_string_16 : jd cX8_string 16 (.aload_n 0) 1 17 := by decide +kernel
theorem dX8_string_17 : jd cX8_string 17 (.iload_n 1) 1 18 := by decide +kernel
theorem dX8_string_18 : jd cX8_string 18 (.invokevirtual 108) 3 21 := by decide +kernel
theorem dX8_string_21 : jd cX8_string 21 (.istore 4) 2 23 := by decide +kernel
theorem dX8_string_23 : jd cX8_string 23 (.iload 4) 2 25 := by decide +kernel
theorem dX8_string_25 : jt cX8_string 25 (.ifCond .ge 8) 8 33 28 := by decide +kernel
theorem dX8_string_28 : jd cX8_string 28 (.iload 4) 2 30 := by decide +kernel
theorem dX8_string_30 : jt cX8_string 30 (.goto 14) 14 44 33 := by decide +kernel
theorem dX8_string_33 : jd cX8_string 33 (.aload_n 0) 1 34 := by decide +kernel
theorem dX8_string_34 : jd cX8_string 34 (.aload_n 0) 1 35 := by decide +kernel
theorem dX8_string_35 : jd cX8_string 35 (.iload_n 1) 1 36 := by decide +kernel
theorem dX8_string_36 : jd cX8_string 36 (.iload_n 2) 1 37 := by decide +kernel
theorem dX8_string_37 : jd cX8_string 37 (.iload_n 3) 1 38 := by decide +kernel
theorem dX8_string_38 : jd cX8_string 38 (.invokevirtual 133) 3 41 := by decide +kernel
theorem dX8_string_41 : jd cX8_string 41 (.invokevirtual 114) 3 44 := by decide +kernel
theorem dX8_string_44 : jd cX8_string 44 .ireturn 1 45 := by decide +kernel
theorem dX8_bestOf_0 : jd cX8_bestOf 0 (.iload_n 3) 1 1 := by decide +kernel
theorem dX8_bestOf_1 : jd cX8_bestOf 1 (.istore 5) 2 3 := by decide +kernel
theorem dX8_bestOf_3 : jd cX8_bestOf 3 (.aload_n 0) 1 4 := by decide +kernel
theorem dX8_bestOf_4 : jd cX8_bestOf 4 (.iload_n 1) 1 5 := by decide +kernel
theorem dX8_bestOf_5 : jd cX8_bestOf 5 (.iload_n 3) 1 6 := by decide +kernel
theorem dX8_bestOf_6 : jd cX8_bestOf 6 (.iload_n 2) 1 7 := by decide +kernel
theorem dX8_bestOf_7 : jd cX8_bestOf 7 (.invokevirtual 133) 3 10 := by decide +kernel
theorem dX8_bestOf_10 : jd cX8_bestOf 10 (.lstore 6) 2 12 := by decide +kernel
theorem dX8_bestOf_12 : jd cX8_bestOf 12 (.iload_n 3) 1 13 := by decide +kernel
theorem dX8_bestOf_13 : jd cX8_bestOf 13 (.iconst 1) 1 14 := by decide +kernel
theorem dX8_bestOf_14 : jd cX8_bestOf 14 .iadd 1 15 := by decide +kernel
theorem dX8_bestOf_15 : jd cX8_bestOf 15 (.istore 8) 2 17 := by decide +kernel
theorem dX8_bestOf_17 : jd cX8_bestOf 17 (.iload 8) 2 19 := by decide +kernel
theorem dX8_bestOf_19 : jd cX8_bestOf 19 (.iload 4) 2 21 := by decide +kernel
theorem dX8_bestOf_21 : jt cX8_bestOf 21 (.if_icmp .gt 53) 53 74 24 := by decide +kernel
theorem dX8_bestOf_24 : jd cX8_bestOf 24 (.aload_n 0) 1 25 := by decide +kernel
theorem dX8_bestOf_25 : jd cX8_bestOf 25 (.iload_n 1) 1 26 := by decide +kernel
theorem dX8_bestOf_26 : jd cX8_bestOf 26 (.iload 8) 2 28 := by decide +kernel
theorem dX8_bestOf_28 : jd cX8_bestOf 28 (.iload_n 2) 1 29 := by decide +kernel
theorem dX8_bestOf_29 : jd cX8_bestOf 29 (.invokevirtual 133) 3 32 := by decide +kernel
theorem dX8_bestOf_32 : jd cX8_bestOf 32 (.lstore 9) 2 34 := by decide +kernel
theorem dX8_bestOf_34 : jd cX8_bestOf 34 (.lload 9) 2 36 := by decide +kernel
theorem dX8_bestOf_36 : jd cX8_bestOf 36 (.lload 6) 2 38 := by decide +kernel
theorem dX8_bestOf_38 : jd cX8_bestOf 38 .lcmp 1 39 := by decide +kernel
theorem dX8_bestOf_39 : jt cX8_bestOf 39 (.ifCond .ge 8) 8 47 42 := by decide +kernel
theorem dX8_bestOf_42 : jd cX8_bestOf 42 (.iload 8) 2 44 := by decide +kernel
theorem dX8_bestOf_44 : jt cX8_bestOf 44 (.goto 5) 5 49 47 := by decide +kernel
theorem dX8_bestOf_47 : jd cX8_bestOf 47 (.iload 5) 2 49 := by decide +kernel
theorem dX8_bestOf_49 : jd cX8_bestOf 49 (.istore 5) 2 51 := by decide +kernel
theorem dX8_bestOf_51 : jd cX8_bestOf 51 (.lload 9) 2 53 := by decide +kernel
theorem dX8_bestOf_53 : jd cX8_bestOf 53 (.lload 6) 2 55 := by decide +kernel
theorem dX8_bestOf_55 : jd cX8_bestOf 55 .lcmp 1 56 := by decide +kernel
theorem dX8_bestOf_56 : jt cX8_bestOf 56 (.ifCond .ge 8) 8 64 59 := by decide +kernel
theorem dX8_bestOf_59 : jd cX8_bestOf 59 (.lload 9) 2 61 := by decide +kernel
theorem dX8_bestOf_61 : jt cX8_bestOf 61 (.goto 5) 5 66 64 := by decide +kernel
theorem dX8_bestOf_64 : jd cX8_bestOf 64 (.lload 6) 2 66 := by decide +kernel
theorem dX8_bestOf_66 : jd cX8_bestOf 66 (.lstore 6) 2 68 := by decide +kernel
theorem dX8_bestOf_68 : jd cX8_bestOf 68 (.iinc 8 1) 3 71 := by decide +kernel
theorem dX8_bestOf_71 : jt cX8_bestOf 71 (.goto (-54)) (-54) 17 74 := by decide +kernel
theorem dX8_bestOf_74 : jd cX8_bestOf 74 (.iload 5) 2 76 := by decide +kernel
theorem dX8_bestOf_76 : jd cX8_bestOf 76 .ireturn 1 77 := by decide +kernel
theorem dX8_period_0 : jd cX8_period 0 (.iload_n 2) 1 1 := by decide +kernel
theorem dX8_period_1 : jd cX8_period 1 (.invokestatic 130) 3 4 := by decide +kernel
theorem dX8_period_4 : jt cX8_period 4 (.ifCond .eq 24) 24 28 7 := by decide +kernel
theorem dX8_period_7 : jd cX8_period 7 (.iload_n 3) 1 8 := by decide +kernel
theorem dX8_period_8 : jd cX8_period 8 (.invokestatic 127) 3 11 := by decide +kernel
theorem dX8_period_11 : jt cX8_period 11 (.ifCond .eq 17) 17 28 14 := by decide +kernel
theorem dX8_period_14 : jd cX8_period 14 (.iload 4) 2 16 := by decide +kernel
theorem dX8_period_16 : jd cX8_period 16 (.invokestatic 127) 3 19 := by decide +kernel
theorem dX8_period_19 : jt cX8_period 19 (.ifCond .eq 9) 9 28 22 := by decide +kernel
theorem dX8_period_22 : jd cX8_period 22 (.iload_n 3) 1 23 := by decide +kernel
theorem dX8_period_23 : jd cX8_period 23 (.iload 4) 2 25 := by decide +kernel
theorem dX8_period_25 : jt cX8_period 25 (.if_icmp .le 5) 5 30 28 := by decide +kernel
theorem dX8_period_28 : jd cX8_period 28 (.iconst (-1)) 1 29 := by decide +kernel
theorem dX8_period_29 : jd cX8_period 29 .ireturn 1 30 := by decide +kernel
theorem dX8_period_30 : jd cX8_period 30 (.aload_n 0) 1 31 := by decide +kernel
theorem dX8_period_31 : jd cX8_period 31 (.iload_n 1) 1 32 := by decide +kernel
theorem dX8_period_32 : jd cX8_period 32 (.invokevirtual 108) 3 35 := by decide +kernel
theorem dX8_period_35 : jd cX8_period 35 (.istore 5) 2 37 := by decide +kernel
theorem dX8_period_37 : jd cX8_period 37 (.iload 5) 2 39 := by decide +kernel
theorem dX8_period_39 : jt cX8_period 39 (.ifCond .ge 6) 6 45 42 := by decide +kernel
theorem dX8_period_42 : jd cX8_period 42 (.iload 5) 2 44 := by decide +kernel
theorem dX8_period_44 : jd cX8_period 44 .ireturn 1 45 := by decide +kernel
theorem dX8_period_45 : jd cX8_period 45 (.aload_n 0) 1 46 := by decide +kernel
theorem dX8_period_46 : jd cX8_period 46 (.iload_n 1) 1 47 := by decide +kernel
theorem dX8_period_47 : jd cX8_period 47 (.iload_n 2) 1 48 := by decide +kernel
theorem dX8_period_48 : jd cX8_period 48 (.iload_n 3) 1 49 := by decide +kernel
theorem dX8_period_49 : jd cX8_period 49 (.iload 4) 2 51 := by decide +kernel
theorem dX8_period_51 : jd cX8_period 51 (.invokevirtual 137) 3 54 := by decide +kernel
theorem dX8_period_54 : jd cX8_period 54 (.istore 6) 2 56 := by decide +kernel
theorem dX8_period_56 : jd cX8_period 56 (.aload_n 0) 1 57 := by decide +kernel
theorem dX8_period_57 : jd cX8_period 57 (.aload_n 0) 1 58 := by decide +kernel
theorem dX8_period_58 : jd cX8_period 58 (.iload_n 1) 1 59 := by decide +kernel
theorem dX8_period_59 : jd cX8_period 59 (.iload 6) 2 61 := by decide +kernel
theorem dX8_period_61 : jd cX8_period 61 (.iload_n 2) 1 62 := by decide +kernel
theorem dX8_period_62 : jd cX8_period 62 (.invokevirtual 133) 3 65 := by decide +kernel
theorem dX8_period_65 : jd cX8_period 65 (.putfield 69) 3 68 := by decide +kernel
theorem dX8_period_68 : jd cX8_period 68 (.iload 6) 2 70 := by decide +kernel
theorem dX8_period_70 : jd cX8_period 70 .ireturn 1 71 := by decide +kernel
theorem dX8_asWell_0 : jd cX8_asWell 0 (.iload_n 2) 1 1 := by decide +kernel
theorem dX8_asWell_1 : jd cX8_asWell 1 (.invokestatic 130) 3 4 := by decide +kernel
theorem dX8_asWell_4 : jt cX8_asWell 4 (.ifCond .eq 35) 35 39 7 := by decide +kernel
theorem dX8_asWell_7 : jd cX8_asWell 7 (.iload_n 3) 1 8 := by decide +kernel
theorem dX8_asWell_8 : jd cX8_asWell 8 (.invokestatic 127) 3 11 := by decide +kernel
theorem dX8_asWell_11 : jt cX8_asWell 11 (.ifCond .eq 28) 28 39 14 := by decide +kernel
theorem dX8_asWell_14 : jd cX8_asWell 14 (.iload 4) 2 16 := by decide +kernel
theorem dX8_asWell_16 : jd cX8_asWell 16 (.invokestatic 127) 3 19 := by decide +kernel
theorem dX8_asWell_19 : jt cX8_asWell 19 (.ifCond .eq 20) 20 39 22 := by decide +kernel
theorem dX8_asWell_22 : jd cX8_asWell 22 (.iload_n 3) 1 23 := by decide +kernel
theorem dX8_asWell_23 : jd cX8_asWell 23 (.iload 4) 2 25 := by decide +kernel
theorem dX8_asWell_25 : jt cX8_asWell 25 (.if_icmp .gt 14) 14 39 28 := by decide +kernel
theorem dX8_asWell_28 : jd cX8_asWell 28 (.iload 5) 2 30 := by decide +kernel
theorem dX8_asWell_30 : jd cX8_asWell 30 (.iconst 0) 1 31 := by decide +kernel
theorem dX8_asWell_31 : jd cX8_asWell 31 (.bipush 100) 2 33 := by decide +kernel
theorem dX8_asWell_33 : jd cX8_asWell 33 (.invokestatic 76) 3 36 := by decide +kernel
theorem dX8_asWell_36 : jt cX8_asWell 36 (.ifCond .ne 5) 5 41 39 := by decide +kernel
theorem dX8_asWell_39 : jd cX8_asWell 39 (.iconst (-1)) 1 40 := by decide +kernel
theorem dX8_asWell_40 : jd cX8_asWell 40 .ireturn 1 41 := by decide +kernel
theorem dX8_asWell_41 : jd cX8_asWell 41 (.aload_n 0) 1 42 := by decide +kernel
theorem dX8_asWell_42 : jd cX8_asWell 42 (.iload_n 1) 1 43 := by decide +kernel
theorem dX8_asWell_43 : jd cX8_asWell 43 (.invokevirtual 108) 3 46 := by decide +kernel
theorem dX8_asWell_46 : jd cX8_asWell 46 (.istore 6) 2 48 := by decide +kernel
theorem dX8_asWell_48 : jd cX8_asWell 48 (.iload 6) 2 50 := by decide +kernel
theorem dX8_asWell_50 : jt cX8_asWell 50 (.ifCond .ge 6) 6 56 53 := by decide +kernel
theorem dX8_asWell_53 : jd cX8_asWell 53 (.iload 6) 2 55 := by decide +kernel
theorem dX8_asWell_55 : jd cX8_asWell 55 .ireturn 1 56 := by decide +kernel
theorem dX8_asWell_56 : jd cX8_asWell 56 (.aload_n 0) 1 57 := by decide +kernel
theorem dX8_asWell_57 : jd cX8_asWell 57 (.iload_n 1) 1 58 := by decide +kernel
theorem dX8_asWell_58 : jd cX8_asWell 58 (.iload_n 2) 1 59 := by decide +kernel
theorem dX8_asWell_59 : jd cX8_asWell 59 (.iload_n 3) 1 60 := by decide +kernel
theorem dX8_asWell_60 : jd cX8_asWell 60 (.iload 4) 2 62 := by decide +kernel
theorem dX8_asWell_62 : jd cX8_asWell 62 (.invokevirtual 137) 3 65 := by decide +kernel
theorem dX8_asWell_65 : jd cX8_asWell 65 (.istore 7) 2 67 := by decide +kernel
theorem dX8_asWell_67 : jd cX8_asWell 67 (.aload_n 0) 1 68 := by decide +kernel
theorem dX8_asWell_68 : jd cX8_asWell 68 (.iload_n 1) 1 69 := by decide +kernel
theorem dX8_asWell_69 : jd cX8_asWell 69 (.iload 7) 2 71 := by decide +kernel
theorem dX8_asWell_71 : jd cX8_asWell 71 (.iload_n 2) 1 72 := by decide +kernel
theorem dX8_asWell_72 : jd cX8_asWell 72 (.invokevirtual 133) 3 75 := by decide +kernel
theorem dX8_asWell_75 : jd cX8_asWell 75 (.lstore 8) 2 77 := by decide +kernel
theorem dX8_asWell_77 : jd cX8_asWell 77 (.iconst 0) 1 78 := by decide +kernel
theorem dX8_asWell_78 : jd cX8_asWell 78 (.istore 10) 2 80 := by decide +kernel
theorem dX8_asWell_80 : jd cX8_asWell 80 (.iload_n 3) 1 81 := by decide +kernel
theorem dX8_asWell_81 : jd cX8_asWell 81 (.istore 11) 2 83 := by decide +kernel
theorem dX8_asWell_83 : jd cX8_asWell 83 (.iload 11) 2 85 := by decide +kernel
theorem dX8_asWell_85 : jd cX8_asWell 85 (.iload 4) 2 87 := by decide +kernel
theorem dX8_asWell_87 : jt cX8_asWell 87 (.if_icmp .gt 52) 52 139 90 := by decide +kernel
theorem dX8_asWell_90 : jd cX8_asWell 90 (.iload 10) 2 92 := by decide +kernel
theorem dX8_asWell_92 : jd cX8_asWell 92 (.iload 11) 2 94 := by decide +kernel
theorem dX8_asWell_94 : jd cX8_asWell 94 (.iload 7) 2 96 := by decide +kernel
theorem dX8_asWell_96 : jt cX8_asWell 96 (.if_icmp .eq 33) 33 129 99 := by decide +kernel
theorem dX8_asWell_99 : jd cX8_asWell 99 (.ldc2_w 141) 3 102 := by decide +kernel
theorem dX8_asWell_102 : jd cX8_asWell 102 (.aload_n 0) 1 103 := by decide +kernel
theorem dX8_asWell_103 : jd cX8_asWell 103 (.iload_n 1) 1 104 := by decide +kernel
theorem dX8_asWell_104 : jd cX8_asWell 104 (.iload 11) 2 106 := by decide +kernel
theorem dX8_asWell_106 : jd cX8_asWell 106 (.iload_n 2) 1 107 := by decide +kernel
theorem dX8_asWell_107 : jd cX8_asWell 107 (.invokevirtual 133) 3 110 := by decide +kernel
theorem dX8_asWell_110 : jd cX8_asWell 110 .lmul 1 111 := by decide +kernel
theorem dX8_asWell_111 : jd cX8_asWell 111 (.ldc2_w 141) 3 114 := by decide +kernel
theorem dX8_asWell_114 : jd cX8_asWell 114 (.iload 5) 2 116 := by decide +kernel
theorem dX8_asWell_116 : jd cX8_asWell 116 .i2l 1 117 := by decide +kernel
theorem dX8_asWell_117 : jd cX8_asWell 117 .ladd 1 118 := by decide +kernel
theorem dX8_asWell_118 : jd cX8_asWell 118 (.lload 8) 2 120 := by decide +kernel
theorem dX8_asWell_120 : jd cX8_asWell 120 .lmul 1 121 := by decide +kernel
theorem dX8_asWell_121 : jd cX8_asWell 121 .lcmp 1 122 := by decide +kernel
theorem dX8_asWell_122 : jt cX8_asWell 122 (.ifCond .gt 7) 7 129 125 := by decide +kernel
theorem dX8_asWell_125 : jd cX8_asWell 125 (.iconst 1) 1 126 := by decide +kernel
theorem dX8_asWell_126 : jt cX8_asWell 126 (.goto 4) 4 130 129 := by decide +kernel
theorem dX8_asWell_129 : jd cX8_asWell 129 (.iconst 0) 1 130 := by decide +kernel
theorem dX8_asWell_130 : jd cX8_asWell 130 .iadd 1 131 := by decide +kernel
theorem dX8_asWell_131 : jd cX8_asWell 131 (.istore 10) 2 133 := by decide +kernel
theorem dX8_asWell_133 : jd cX8_asWell 133 (.iinc 11 1) 3 136 := by decide +kernel
theorem dX8_asWell_136 : jt cX8_asWell 136 (.goto (-53)) (-53) 83 139 := by decide +kernel
theorem dX8_asWell_139 : jd cX8_asWell 139 (.iload 10) 2 141 := by decide +kernel
theorem dX8_asWell_141 : jd cX8_asWell 141 .ireturn 1 142 := by decide +kernel
theorem dX8_dips_0 : jd cX8_dips 0 (.aload_n 0) 1 1 := by decide +kernel
theorem dX8_dips_1 : jd cX8_dips 1 (.iconst 0) 1 2 := by decide +kernel
theorem dX8_dips_2 : jd cX8_dips 2 (.putfield 143) 3 5 := by decide +kernel
theorem dX8_dips_5 : jd cX8_dips 5 (.iconst 0) 1 6 := by decide +kernel
theorem dX8_dips_6 : jd cX8_dips 6 (.istore 5) 2 8 := by decide +kernel
theorem dX8_dips_8 : jd cX8_dips 8 (.lconst 0) 1 9 := by decide +kernel
theorem dX8_dips_9 : jd cX8_dips 9 (.lstore 6) 2 11 := by decide +kernel
theorem dX8_dips_11 : jd cX8_dips 11 (.lconst 0) 1 12 := by decide +kernel
theorem dX8_dips_12 : jd cX8_dips 12 (.lstore 8) 2 14 := by decide +kernel
theorem dX8_dips_14 : jd cX8_dips 14 (.iconst 0) 1 15 := by decide +kernel
theorem dX8_dips_15 : jd cX8_dips 15 (.istore 10) 2 17 := by decide +kernel
theorem dX8_dips_17 : jd cX8_dips 17 (.iload 10) 2 19 := by decide +kernel
theorem dX8_dips_19 : jd cX8_dips 19 (.bipush 60) 2 21 := by decide +kernel
theorem dX8_dips_21 : jt cX8_dips 21 (.if_icmp .ge 119) 119 140 24 := by decide +kernel
theorem dX8_dips_24 : jd cX8_dips 24 (.aload_n 0) 1 25 := by decide +kernel
theorem dX8_dips_25 : jd cX8_dips 25 (.iload_n 1) 1 26 := by decide +kernel
theorem dX8_dips_26 : jd cX8_dips 26 (.iload 10) 2 28 := by decide +kernel
theorem dX8_dips_28 : jd cX8_dips 28 (.invokevirtual 88) 3 31 := by decide +kernel
theorem dX8_dips_31 : jt cX8_dips 31 (.ifCond .eq 103) 103 134 34 := by decide +kernel
theorem dX8_dips_34 : jd cX8_dips 34 (.iload 10) 2 36 := by decide +kernel
theorem dX8_dips_36 : jd cX8_dips 36 (.iload_n 2) 1 37 := by decide +kernel
theorem dX8_dips_37 : jd cX8_dips 37 .irem 1 38 := by decide +kernel
theorem dX8_dips_38 : jd cX8_dips 38 (.iload 4) 2 40 := by decide +kernel
theorem dX8_dips_40 : jd cX8_dips 40 .isub 1 41 := by decide +kernel
theorem dX8_dips_41 : jd cX8_dips 41 (.iload_n 2) 1 42 := by decide +kernel
theorem dX8_dips_42 : jd cX8_dips 42 .iadd 1 43 := by decide +kernel
theorem dX8_dips_43 : jd cX8_dips 43 (.iload_n 2) 1 44 := by decide +kernel
theorem dX8_dips_44 : jd cX8_dips 44 .irem 1 45 := by decide +kernel
theorem dX8_dips_45 : jd cX8_dips 45 (.iload_n 3) 1 46 := by decide +kernel
theorem dX8_dips_46 : jt cX8_dips 46 (.if_icmp .ge 7) 7 53 49 := by decide +kernel
theorem dX8_dips_49 : jd cX8_dips 49 (.iconst 1) 1 50 := by decide +kernel
theorem dX8_dips_50 : jt cX8_dips 50 (.goto 4) 4 54 53 := by decide +kernel
theorem dX8_dips_53 : jd cX8_dips 53 (.iconst 0) 1 54 := by decide +kernel
theorem dX8_dips_54 : jd cX8_dips 54 (.istore 11) 2 56 := by decide +kernel
theorem dX8_dips_56 : jd cX8_dips 56 (.aload_n 0) 1 57 := by decide +kernel
theorem dX8_dips_57 : jd cX8_dips 57 .dup 1 58 := by decide +kernel
theorem dX8_dips_58 : jd cX8_dips 58 (.getfield 143) 3 61 := by decide +kernel
theorem dX8_dips_61 : jd cX8_dips 61 (.iload 11) 2 63 := by decide +kernel
theorem dX8_dips_63 : jt cX8_dips 63 (.ifCond .eq 7) 7 70 66 := by decide +kernel
theorem dX8_dips_66 : jd cX8_dips 66 (.iconst 1) 1 67 := by decide +kernel
theorem dX8_dips_67 : jt cX8_dips 67 (.goto 4) 4 71 70 := by decide +kernel
theorem dX8_dips_70 : jd cX8_dips 70 (.iconst 0) 1 71 := by decide +kernel
theorem dX8_dips_71 : jd cX8_dips 71 .iadd 1 72 := by decide +kernel
theorem dX8_dips_72 : jd cX8_dips 72 (.putfield 143) 3 75 := by decide +kernel
theorem dX8_dips_75 : jd cX8_dips 75 (.iload 5) 2 77 := by decide +kernel
theorem dX8_dips_77 : jd cX8_dips 77 (.iload 11) 2 79 := by decide +kernel
theorem dX8_dips_79 : jt cX8_dips 79 (.ifCond .eq 7) 7 86 82 := by decide +kernel
theorem dX8_dips_82 : jd cX8_dips 82 (.iconst 0) 1 83 := by decide +kernel
theorem dX8_dips_83 : jt cX8_dips 83 (.goto 4) 4 87 86 := by decide +kernel
theorem dX8_dips_86 : jd cX8_dips 86 (.iconst 1) 1 87 := by decide +kernel
theorem dX8_dips_87 : jd cX8_dips 87 .iadd 1 88 := by decide +kernel
theorem dX8_dips_88 : jd cX8_dips 88 (.istore 5) 2 90 := by decide +kernel
theorem dX8_dips_90 : jd cX8_dips 90 (.lload 6) 2 92 := by decide +kernel
theorem dX8_dips_92 : jd cX8_dips 92 (.iload 11) 2 94 := by decide +kernel
theorem dX8_dips_94 : jt cX8_dips 94 (.ifCond .eq 14) 14 108 97 := by decide +kernel
theorem dX8_dips_97 : jd cX8_dips 97 (.aload_n 0) 1 98 := by decide +kernel
theorem dX8_dips_98 : jd cX8_dips 98 (.iload_n 1) 1 99 := by decide +kernel
theorem dX8_dips_99 : jd cX8_dips 99 (.iload 10) 2 101 := by decide +kernel
theorem dX8_dips_101 : jd cX8_dips 101 (.invokevirtual 91) 3 104 := by decide +kernel
theorem dX8_dips_104 : jd cX8_dips 104 .i2l 1 105 := by decide +kernel
theorem dX8_dips_105 : jt cX8_dips 105 (.goto 4) 4 109 108 := by decide +kernel
theorem dX8_dips_108 : jd cX8_dips 108 (.lconst 0) 1 109 := by decide +kernel
theorem dX8_dips_109 : jd cX8_dips 109 .ladd 1 110 := by decide +kernel
theorem dX8_dips_110 : jd cX8_dips 110 (.lstore 6) 2 112 := by decide +kernel
theorem dX8_dips_112 : jd cX8_dips 112 (.lload 8) 2 114 := by decide +kernel
theorem dX8_dips_114 : jd cX8_dips 114 (.iload 11) 2 116 := by decide +kernel
theorem dX8_dips_116 : jt cX8_dips 116 (.ifCond .eq 7) 7 123 119 := by decide +kernel
theorem dX8_dips_119 : jd cX8_dips 119 (.lconst 0) 1 120 := by decide +kernel
theorem dX8_dips_120 : jt cX8_dips 120 (.goto 11) 11 131 123 := by decide +kernel
theorem dX8_dips_123 : jd cX8_dips 123 (.aload_n 0) 1 124 := by decide +kernel
theorem dX8_dips_124 : jd cX8_dips 124 (.iload_n 1) 1 125 := by decide +kernel
theorem dX8_dips_125 : jd cX8_dips 125 (.iload 10) 2 127 := by decide +kernel
theorem dX8_dips_127 : jd cX8_dips 127 (.invokevirtual 91) 3 130 := by decide +kernel
theorem dX8_dips_130 : jd cX8_dips 130 .i2l 1 131 := by decide +kernel
theorem dX8_dips_131 : jd cX8_dips 131 .ladd 1 132 := by decide +kernel
theorem dX8_dips_132 : jd cX8_dips 132 (.lstore 8) 2 134 := by decide +kernel
theorem dX8_dips_134 : jd cX8_dips 134 (.iinc 10 1) 3 137 := by decide +kernel
theorem dX8_dips_137 : jt cX8_dips 137 (.goto (-120)) (-120) 17 140 := by decide +kernel
theorem dX8_dips_140 : jd cX8_dips 140 (.aload_n 0) 1 141 := by decide +kernel
theorem dX8_dips_141 : jd cX8_dips 141 (.lload 8) 2 143 := by decide +kernel
theorem dX8_dips_143 : jd cX8_dips 143 (.aload_n 0) 1 144 := by decide +kernel
theorem dX8_dips_144 : jd cX8_dips 144 (.getfield 143) 3 147 := by decide +kernel
theorem dX8_dips_147 : jd cX8_dips 147 .i2l 1 148 := by decide +kernel
theorem dX8_dips_148 : jd cX8_dips 148 .lmul 1 149 := by decide +kernel
theorem dX8_dips_149 : jd cX8_dips 149 (.lload 6) 2 151 := by decide +kernel
theorem dX8_dips_151 : jd cX8_dips 151 (.iload 5) 2 153 := by decide +kernel
theorem dX8_dips_153 : jd cX8_dips 153 .i2l 1 154 := by decide +kernel
theorem dX8_dips_154 : jd cX8_dips 154 .lmul 1 155 := by decide +kernel
theorem dX8_dips_155 : jd cX8_dips 155 .lsub 1 156 := by decide +kernel
theorem dX8_dips_156 : jd cX8_dips 156 (.putfield 146) 3 159 := by decide +kernel
theorem dX8_dips_159 : jd cX8_dips 159 (.aload_n 0) 1 160 := by decide +kernel
theorem dX8_dips_160 : jd cX8_dips 160 (.getfield 143) 3 163 := by decide +kernel
theorem dX8_dips_163 : jt cX8_dips 163 (.ifCond .le 12) 12 175 166 := by decide +kernel
theorem dX8_dips_166 : jd cX8_dips 166 (.iload 5) 2 168 := by decide +kernel
theorem dX8_dips_168 : jt cX8_dips 168 (.ifCond .le 7) 7 175 171 := by decide +kernel
theorem dX8_dips_171 : jd cX8_dips 171 (.iconst 1) 1 172 := by decide +kernel
theorem dX8_dips_172 : jt cX8_dips 172 (.goto 4) 4 176 175 := by decide +kernel
theorem dX8_dips_175 : jd cX8_dips 175 (.iconst 0) 1 176 := by decide +kernel
theorem dX8_dips_176 : jd cX8_dips 176 .ireturn 1 177 := by decide +kernel
theorem dX8_depth_0 : jd cX8_depth 0 (.iload_n 2) 1 1 := by decide +kernel
theorem dX8_depth_1 : jd cX8_depth 1 (.iconst 2) 1 2 := by decide +kernel
theorem dX8_depth_2 : jd cX8_depth 2 (.sipush 600) 3 5 := by decide +kernel
theorem dX8_depth_5 : jd cX8_depth 5 (.invokestatic 76) 3 8 := by decide +kernel
theorem dX8_depth_8 : jt cX8_depth 8 (.ifCond .eq 30) 30 38 11 := by decide +kernel
theorem dX8_depth_11 : jd cX8_depth 11 (.iload_n 3) 1 12 := by decide +kernel
theorem dX8_depth_12 : jd cX8_depth 12 (.iconst 1) 1 13 := by decide +kernel
theorem dX8_depth_13 : jd cX8_depth 13 (.bipush 30) 2 15 := by decide +kernel
theorem dX8_depth_15 : jd cX8_depth 15 (.invokestatic 76) 3 18 := by decide +kernel
theorem dX8_depth_18 : jt cX8_depth 18 (.ifCond .eq 20) 20 38 21 := by decide +kernel
theorem dX8_depth_21 : jd cX8_depth 21 (.iload_n 3) 1 22 := by decide +kernel
theorem dX8_depth_22 : jd cX8_depth 22 (.iload_n 2) 1 23 := by decide +kernel
theorem dX8_depth_23 : jt cX8_depth 23 (.if_icmp .ge 15) 15 38 26 := by decide +kernel
theorem dX8_depth_26 : jd cX8_depth 26 (.iload 4) 2 28 := by decide +kernel
theorem dX8_depth_28 : jd cX8_depth 28 (.iconst 0) 1 29 := by decide +kernel
theorem dX8_depth_29 : jd cX8_depth 29 (.iload_n 2) 1 30 := by decide +kernel
theorem dX8_depth_30 : jd cX8_depth 30 (.iconst 1) 1 31 := by decide +kernel
theorem dX8_depth_31 : jd cX8_depth 31 .isub 1 32 := by decide +kernel
theorem dX8_depth_32 : jd cX8_depth 32 (.invokestatic 76) 3 35 := by decide +kernel
theorem dX8_depth_35 : jt cX8_depth 35 (.ifCond .ne 5) 5 40 38 := by decide +kernel
theorem dX8_depth_38 : jd cX8_depth 38 (.iconst (-1)) 1 39 := by decide +kernel
theorem dX8_depth_39 : jd cX8_depth 39 .ireturn 1 40 := by decide +kernel
theorem dX8_depth_40 : jd cX8_depth 40 (.aload_n 0) 1 41 := by decide +kernel
theorem dX8_depth_41 : jd cX8_depth 41 (.iload_n 1) 1 42 := by decide +kernel
theorem dX8_depth_42 : jd cX8_depth 42 (.invokevirtual 108) 3 45 := by decide +kernel
theorem dX8_depth_45 : jd cX8_depth 45 (.istore 5) 2 47 := by decide +kernel
theorem dX8_depth_47 : jd cX8_depth 47 (.iload 5) 2 49 := by decide +kernel
theorem dX8_depth_49 : jt cX8_depth 49 (.ifCond .ge 8) 8 57 52 := by decide +kernel
theorem dX8_depth_52 : jd cX8_depth 52 (.iload 5) 2 54 := by decide +kernel
theorem dX8_depth_54 : jt cX8_depth 54 (.goto 28) 28 82 57 := by decide +kernel
theorem dX8_depth_57 : jd cX8_depth 57 (.aload_n 0) 1 58 := by decide +kernel
theorem dX8_depth_58 : jd cX8_depth 58 (.iload_n 1) 1 59 := by decide +kernel
theorem dX8_depth_59 : jd cX8_depth 59 (.iload_n 2) 1 60 := by decide +kernel
theorem dX8_depth_60 : jd cX8_depth 60 (.iload_n 3) 1 61 := by decide +kernel
theorem dX8_depth_61 : jd cX8_depth 61 (.iload 4) 2 63 := by decide +kernel
theorem dX8_depth_63 : jd cX8_depth 63 (.invokevirtual 149) 3 66 := by decide +kernel
theorem dX8_depth_66 : jt cX8_depth 66 (.ifCond .eq 14) 14 80 69 := by decide +kernel
theorem dX8_depth_69 : jd cX8_depth 69 (.aload_n 0) 1 70 := by decide +kernel
theorem dX8_depth_70 : jd cX8_depth 70 (.aload_n 0) 1 71 := by decide +kernel
theorem dX8_depth_71 : jd cX8_depth 71 (.getfield 146) 3 74 := by decide +kernel
theorem dX8_depth_74 : jd cX8_depth 74 (.invokevirtual 114) 3 77 := by decide +kernel
theorem dX8_depth_77 : jt cX8_depth 77 (.goto 5) 5 82 80 := by decide +kernel
theorem dX8_depth_80 : jd cX8_depth 80 (.bipush (-9)) 2 82 := by decide +kernel
theorem dX8_depth_82 : jd cX8_depth 82 .ireturn 1 83 := by decide +kernel
theorem dX8_dip_0 : jd cX8_dip 0 (.iload_n 2) 1 1 := by decide +kernel
theorem dX8_dip_1 : jd cX8_dip 1 (.iconst 2) 1 2 := by decide +kernel
theorem dX8_dip_2 : jd cX8_dip 2 (.sipush 600) 3 5 := by decide +kernel
theorem dX8_dip_5 : jd cX8_dip 5 (.invokestatic 76) 3 8 := by decide +kernel
theorem dX8_dip_8 : jt cX8_dip 8 (.ifCond .eq 13) 13 21 11 := by decide +kernel
theorem dX8_dip_11 : jd cX8_dip 11 (.iload_n 3) 1 12 := by decide +kernel
theorem dX8_dip_12 : jd cX8_dip 12 (.iconst 1) 1 13 := by decide +kernel
theorem dX8_dip_13 : jd cX8_dip 13 (.bipush 30) 2 15 := by decide +kernel
theorem dX8_dip_15 : jd cX8_dip 15 (.invokestatic 76) 3 18 := by decide +kernel
theorem dX8_dip_18 : jt cX8_dip 18 (.ifCond .ne 5) 5 23 21 := by decide +kernel
theorem dX8_dip_21 : jd cX8_dip 21 (.iconst (-1)) 1 22 := by decide +kernel
theorem dX8_dip_22 : jd cX8_dip 22 .ireturn 1 23 := by decide +kernel
theorem dX8_dip_23 : jd cX8_dip 23 (.aload_n 0) 1 24 := by decide +kernel
theorem dX8_dip_24 : jd cX8_dip 24 (.iload_n 1) 1 25 := by decide +kernel
theorem dX8_dip_25 : jd cX8_dip 25 (.invokevirtual 108) 3 28 := by decide +kernel
theorem dX8_dip_28 : jd cX8_dip 28 (.istore 4) 2 30 := by decide +kernel
theorem dX8_dip_30 : jd cX8_dip 30 (.iload 4) 2 32 := by decide +kernel
theorem dX8_dip_32 : jt cX8_dip 32 (.ifCond .ge 6) 6 38 35 := by decide +kernel
theorem dX8_dip_35 : jd cX8_dip 35 (.iload 4) 2 37 := by decide +kernel
theorem dX8_dip_37 : jd cX8_dip 37 .ireturn 1 38 := by decide +kernel
theorem dX8_dip_38 : jd cX8_dip 38 (.bipush (-9)) 2 40 := by decide +kernel
theorem dX8_dip_40 : jd cX8_dip 40 (.istore 5) 2 42 := by decide +kernel
theorem dX8_dip_42 : jd cX8_dip 42 (.lconst 0) 1 43 := by decide +kernel
theorem dX8_dip_43 : jd cX8_dip 43 (.lstore 6) 2 45 := by decide +kernel
theorem dX8_dip_45 : jd cX8_dip 45 (.iconst 1) 1 46 := by decide +kernel
theorem dX8_dip_46 : jd cX8_dip 46 (.istore 8) 2 48 := by decide +kernel
theorem dX8_dip_48 : jd cX8_dip 48 (.iload 8) 2 50 := by decide +kernel
theorem dX8_dip_50 : jd cX8_dip 50 (.iload_n 3) 1 51 := by decide +kernel
theorem dX8_dip_51 : jt cX8_dip 51 (.if_icmp .gt 88) 88 139 54 := by decide +kernel
theorem dX8_dip_54 : jd cX8_dip 54 (.iload 8) 2 56 := by decide +kernel
theorem dX8_dip_56 : jd cX8_dip 56 (.iload_n 2) 1 57 := by decide +kernel
theorem dX8_dip_57 : jt cX8_dip 57 (.if_icmp .ge 82) 82 139 60 := by decide +kernel
theorem dX8_dip_60 : jd cX8_dip 60 (.iconst 0) 1 61 := by decide +kernel
theorem dX8_dip_61 : jd cX8_dip 61 (.istore 9) 2 63 := by decide +kernel
theorem dX8_dip_63 : jd cX8_dip 63 (.iload 9) 2 65 := by decide +kernel
theorem dX8_dip_65 : jd cX8_dip 65 (.iload_n 2) 1 66 := by decide +kernel
theorem dX8_dip_66 : jt cX8_dip 66 (.if_icmp .ge 67) 67 133 69 := by decide +kernel
theorem dX8_dip_69 : jd cX8_dip 69 (.aload_n 0) 1 70 := by decide +kernel
theorem dX8_dip_70 : jd cX8_dip 70 (.iload_n 1) 1 71 := by decide +kernel
theorem dX8_dip_71 : jd cX8_dip 71 (.iload_n 2) 1 72 := by decide +kernel
theorem dX8_dip_72 : jd cX8_dip 72 (.iload 8) 2 74 := by decide +kernel
theorem dX8_dip_74 : jd cX8_dip 74 (.iload 9) 2 76 := by decide +kernel
theorem dX8_dip_76 : jd cX8_dip 76 (.invokevirtual 149) 3 79 := by decide +kernel
theorem dX8_dip_79 : jt cX8_dip 79 (.ifCond .eq 48) 48 127 82 := by decide +kernel
theorem dX8_dip_82 : jd cX8_dip 82 (.iload 5) 2 84 := by decide +kernel
theorem dX8_dip_84 : jt cX8_dip 84 (.ifCond .lt 13) 13 97 87 := by decide +kernel
theorem dX8_dip_87 : jd cX8_dip 87 (.aload_n 0) 1 88 := by decide +kernel
theorem dX8_dip_88 : jd cX8_dip 88 (.getfield 146) 3 91 := by decide +kernel
theorem dX8_dip_91 : jd cX8_dip 91 (.lload 6) 2 93 := by decide +kernel
theorem dX8_dip_93 : jd cX8_dip 93 .lcmp 1 94 := by decide +kernel
theorem dX8_dip_94 : jt cX8_dip 94 (.ifCond .le 33) 33 127 97 := by decide +kernel
theorem dX8_dip_97 : jd cX8_dip 97 (.iload 8) 2 99 := by decide +kernel
theorem dX8_dip_99 : jd cX8_dip 99 (.istore 5) 2 101 := by decide +kernel
theorem dX8_dip_101 : jd cX8_dip 101 (.aload_n 0) 1 102 := by decide +kernel
theorem dX8_dip_102 : jd cX8_dip 102 (.getfield 146) 3 105 := by decide +kernel
theorem dX8_dip_105 : jd cX8_dip 105 (.lstore 6) 2 107 := by decide +kernel
theorem dX8_dip_107 : jd cX8_dip 107 (.aload_n 0) 1 108 := by decide +kernel
theorem dX8_dip_108 : jd cX8_dip 108 (.iload 8) 2 110 := by decide +kernel
theorem dX8_dip_110 : jd cX8_dip 110 (.putfield 38) 3 113 := by decide +kernel
theorem dX8_dip_113 : jd cX8_dip 113 (.aload_n 0) 1 114 := by decide +kernel
theorem dX8_dip_114 : jd cX8_dip 114 (.iload 9) 2 116 := by decide +kernel
theorem dX8_dip_116 : jd cX8_dip 116 (.putfield 42) 3 119 := by decide +kernel
theorem dX8_dip_119 : jd cX8_dip 119 (.aload_n 0) 1 120 := by decide +kernel
theorem dX8_dip_120 : jd cX8_dip 120 (.aload_n 0) 1 121 := by decide +kernel
theorem dX8_dip_121 : jd cX8_dip 121 (.getfield 143) 3 124 := by decide +kernel
theorem dX8_dip_124 : jd cX8_dip 124 (.putfield 45) 3 127 := by decide +kernel
theorem dX8_dip_127 : jd cX8_dip 127 (.iinc 9 1) 3 130 := by decide +kernel
theorem dX8_dip_130 : jt cX8_dip 130 (.goto (-67)) (-67) 63 133 := by decide +kernel
theorem dX8_dip_133 : jd cX8_dip 133 (.iinc 8 1) 3 136 := by decide +kernel
theorem dX8_dip_136 : jt cX8_dip 136 (.goto (-88)) (-88) 48 139 := by decide +kernel
theorem dX8_dip_139 : jd cX8_dip 139 (.iload 5) 2 141 := by decide +kernel
theorem dX8_dip_141 : jd cX8_dip 141 .ireturn 1 142 := by decide +kernel
theorem dX8_dipOf_0 : jd cX8_dipOf 0 (.iload_n 1) 1 1 := by decide +kernel
theorem dX8_dipOf_1 : jt cX8_dipOf 1 (.ifCond .ne 10) 10 11 4 := by decide +kernel
theorem dX8_dipOf_4 : jd cX8_dipOf 4 (.aload_n 0) 1 5 := by decide +kernel
theorem dX8_dipOf_5 : jd cX8_dipOf 5 (.getfield 38) 3 8 := by decide +kernel
theorem dX8_dipOf_8 : jt cX8_dipOf 8 (.goto 28) 28 36 11 := by decide +kernel
theorem dX8_dipOf_11 : jd cX8_dipOf 11 (.iload_n 1) 1 12 := by decide +kernel
theorem dX8_dipOf_12 : jd cX8_dipOf 12 (.iconst 1) 1 13 := by decide +kernel
theorem dX8_dipOf_13 : jt cX8_dipOf 13 (.if_icmp .ne 10) 10 23 16 := by decide +kernel
theorem dX8_dipOf_16 : jd cX8_dipOf 16 (.aload_n 0) 1 17 := by decide +kernel
theorem dX8_dipOf_17 : jd cX8_dipOf 17 (.getfield 42) 3 20 := by decide +kernel
theorem dX8_dipOf_20 : jt cX8_dipOf 20 (.goto 16) 16 36 23 := by decide +kernel
theorem dX8_dipOf_23 : jd cX8_dipOf 23 (.iload_n 1) 1 24 := by decide +kernel
theorem dX8_dipOf_24 : jd cX8_dipOf 24 (.iconst 2) 1 25 := by decide +kernel
theorem dX8_dipOf_25 : jt cX8_dipOf 25 (.if_icmp .ne 10) 10 35 28 := by decide +kernel
theorem dX8_dipOf_28 : jd cX8_dipOf 28 (.aload_n 0) 1 29 := by decide +kernel
theorem dX8_dipOf_29 : jd cX8_dipOf 29 (.getfield 45) 3 32 := by decide +kernel
theorem dX8_dipOf_32 : jt cX8_dipOf 32 (.goto 4) 4 36 35 := by decide +kernel
theorem dX8_dipOf_35 : jd cX8_dipOf 35 (.iconst (-1)) 1 36 := by decide +kernel
theorem dX8_dipOf_36 : jd cX8_dipOf 36 .ireturn 1 37 := by decide +kernel
theorem dX8_setLows_0 : jd cX8_setLows 0 (.aload_n 0) 1 1 := by decide +kernel
theorem dX8_setLows_1 : jd cX8_setLows 1 (.iload_n 1) 1 2 := by decide +kernel
theorem dX8_setLows_2 : jd cX8_setLows 2 (.iconst 0) 1 3 := by decide +kernel
theorem dX8_setLows_3 : jd cX8_setLows 3 (.invokevirtual 123) 3 6 := by decide +kernel
theorem dX8_setLows_6 : jd cX8_setLows 6 (.iload_n 2) 1 7 := by decide +kernel
theorem dX8_setLows_7 : jd cX8_setLows 7 .isub 1 8 := by decide +kernel
theorem dX8_setLows_8 : jd cX8_setLows 8 (.istore_n 3) 1 9 := by decide +kernel
theorem dX8_setLows_9 : jd cX8_setLows 9 (.iconst 0) 1 10 := by decide +kernel
theorem dX8_setLows_10 : jd cX8_setLows 10 (.istore 4) 2 12 := by decide +kernel
theorem dX8_setLows_12 : jd cX8_setLows 12 (.iconst 0) 1 13 := by decide +kernel
theorem dX8_setLows_13 : jd cX8_setLows 13 (.istore 5) 2 15 := by decide +kernel
theorem dX8_setLows_15 : jd cX8_setLows 15 (.iconst 0) 1 16 := by decide +kernel
theorem dX8_setLows_16 : jd cX8_setLows 16 (.istore 6) 2 18 := by decide +kernel
theorem dX8_setLows_18 : jd cX8_setLows 18 (.iload 6) 2 20 := by decide +kernel
theorem dX8_setLows_20 : jd cX8_setLows 20 (.bipush 60) 2 22 := by decide +kernel
theorem dX8_setLows_22 : jt cX8_setLows 22 (.if_icmp .ge 103) 103 125 25 := by decide +kernel
theorem dX8_setLows_25 : jd cX8_setLows 25 (.aload_n 0) 1 26 := by decide +kernel
theorem dX8_setLows_26 : jd cX8_setLows 26 (.iload_n 1) 1 27 := by decide +kernel
theorem dX8_setLows_27 : jd cX8_setLows 27 (.iload 6) 2 29 := by decide +kernel
theorem dX8_setLows_29 : jd cX8_setLows 29 (.invokevirtual 88) 3 32 := by decide +kernel
theorem dX8_setLows_32 : jt cX8_setLows 32 (.ifCond .eq 87) 87 119 35 := by decide +kernel
theorem dX8_setLows_35 : jd cX8_setLows 35 (.aload_n 0) 1 36 := by decide +kernel
theorem dX8_setLows_36 : jd cX8_setLows 36 (.iload_n 1) 1 37 := by decide +kernel
theorem dX8_setLows_37 : jd cX8_setLows 37 (.iload 6) 2 39 := by decide +kernel
theorem dX8_setLows_39 : jd cX8_setLows 39 (.invokevirtual 91) 3 42 := by decide +kernel
theorem dX8_setLows_42 : jd cX8_setLows 42 (.iload_n 3) 1 43 := by decide +kernel
theorem dX8_setLows_43 : jt cX8_setLows 43 (.if_icmp .gt 7) 7 50 46 := by decide +kernel
theorem dX8_setLows_46 : jd cX8_setLows 46 (.iconst 1) 1 47 := by decide +kernel
theorem dX8_setLows_47 : jt cX8_setLows 47 (.goto 4) 4 51 50 := by decide +kernel
theorem dX8_setLows_50 : jd cX8_setLows 50 (.iconst 0) 1 51 := by decide +kernel
theorem dX8_setLows_51 : jd cX8_setLows 51 (.istore 7) 2 53 := by decide +kernel
theorem dX8_setLows_53 : jd cX8_setLows 53 (.iload 7) 2 55 := by decide +kernel
theorem dX8_setLows_55 : jt cX8_setLows 55 (.ifCond .eq 20) 20 75 58 := by decide +kernel
theorem dX8_setLows_58 : jd cX8_setLows 58 (.iload 5) 2 60 := by decide +kernel
theorem dX8_setLows_60 : jt cX8_setLows 60 (.ifCond .ne 15) 15 75 63 := by decide +kernel
theorem dX8_setLows_63 : jd cX8_setLows 63 (.aload_n 0) 1 64 := by decide +kernel
theorem dX8_setLows_64 : jd cX8_setLows 64 (.getfield 48) 3 67 := by decide +kernel
theorem dX8_setLows_67 : jd cX8_setLows 67 (.iload 4) 2 69 := by decide +kernel
theorem dX8_setLows_69 : jd cX8_setLows 69 (.iload 6) 2 71 := by decide +kernel
theorem dX8_setLows_71 : jd cX8_setLows 71 .iastore 1 72 := by decide +kernel
theorem dX8_setLows_72 : jd cX8_setLows 72 (.iinc 4 1) 3 75 := by decide +kernel
theorem dX8_setLows_75 : jd cX8_setLows 75 (.iload 7) 2 77 := by decide +kernel
theorem dX8_setLows_77 : jt cX8_setLows 77 (.ifCond .eq 38) 38 115 80 := by decide +kernel
theorem dX8_setLows_80 : jd cX8_setLows 80 (.aload_n 0) 1 81 := by decide +kernel
theorem dX8_setLows_81 : jd cX8_setLows 81 (.iload_n 1) 1 82 := by decide +kernel
theorem dX8_setLows_82 : jd cX8_setLows 82 (.iload 6) 2 84 := by decide +kernel
theorem dX8_setLows_84 : jd cX8_setLows 84 (.invokevirtual 91) 3 87 := by decide +kernel
theorem dX8_setLows_87 : jd cX8_setLows 87 (.aload_n 0) 1 88 := by decide +kernel
theorem dX8_setLows_88 : jd cX8_setLows 88 (.iload_n 1) 1 89 := by decide +kernel
theorem dX8_setLows_89 : jd cX8_setLows 89 (.aload_n 0) 1 90 := by decide +kernel
theorem dX8_setLows_90 : jd cX8_setLows 90 (.getfield 48) 3 93 := by decide +kernel
theorem dX8_setLows_93 : jd cX8_setLows 93 (.iload 4) 2 95 := by decide +kernel
theorem dX8_setLows_95 : jd cX8_setLows 95 (.iconst 1) 1 96 := by decide +kernel
theorem dX8_setLows_96 : jd cX8_setLows 96 .isub 1 97 := by decide +kernel
theorem dX8_setLows_97 : jd cX8_setLows 97 .iaload 1 98 := by decide +kernel
theorem dX8_setLows_98 : jd cX8_setLows 98 (.invokevirtual 91) 3 101 := by decide +kernel
theorem dX8_setLows_101 : jt cX8_setLows 101 (.if_icmp .ge 14) 14 115 104 := by decide +kernel
theorem dX8_setLows_104 : jd cX8_setLows 104 (.aload_n 0) 1 105 := by decide +kernel
theorem dX8_setLows_105 : jd cX8_setLows 105 (.getfield 48) 3 108 := by decide +kernel
theorem dX8_setLows_108 : jd cX8_setLows 108 (.iload 4) 2 110 := by decide +kernel
theorem dX8_setLows_110 : jd cX8_setLows 110 (.iconst 1) 1 111 := by decide +kernel
theorem dX8_setLows_111 : jd cX8_setLows 111 .isub 1 112 := by decide +kernel
theorem dX8_setLows_112 : jd cX8_setLows 112 (.iload 6) 2 114 := by decide +kernel
theorem dX8_setLows_114 : jd cX8_setLows 114 .iastore 1 115 := by decide +kernel
theorem dX8_setLows_115 : jd cX8_setLows 115 (.iload 7) 2 117 := by decide +kernel
theorem dX8_setLows_117 : jd cX8_setLows 117 (.istore 5) 2 119 := by decide +kernel
theorem dX8_setLows_119 : jd cX8_setLows 119 (.iinc 6 1) 3 122 := by decide +kernel
theorem dX8_setLows_122 : jt cX8_setLows 122 (.goto (-104)) (-104) 18 125 := by decide +kernel
theorem dX8_setLows_125 : jd cX8_setLows 125 (.iload 4) 2 127 := by decide +kernel
theorem dX8_setLows_127 : jd cX8_setLows 127 .ireturn 1 128 := by decide +kernel
theorem dX8_lowsOf_0 : jd cX8_lowsOf 0 (.iload_n 2) 1 1 := by decide +kernel
theorem dX8_lowsOf_1 : jd cX8_lowsOf 1 (.iconst 1) 1 2 := by decide +kernel
theorem dX8_lowsOf_2 : jd cX8_lowsOf 2 (.sipush 10000) 3 5 := by decide +kernel
theorem dX8_lowsOf_5 : jd cX8_lowsOf 5 (.invokestatic 76) 3 8 := by decide +kernel
theorem dX8_lowsOf_8 : jt cX8_lowsOf 8 (.ifCond .ne 5) 5 13 11 := by decide +kernel
theorem dX8_lowsOf_11 : jd cX8_lowsOf 11 (.iconst (-1)) 1 12 := by decide +kernel
theorem dX8_lowsOf_12 : jd cX8_lowsOf 12 .ireturn 1 13 := by decide +kernel
theorem dX8_lowsOf_13 : jd cX8_lowsOf 13 (.aload_n 0) 1 14 := by decide +kernel
theorem dX8_lowsOf_14 : jd cX8_lowsOf 14 (.iload_n 1) 1 15 := by decide +kernel
theorem dX8_lowsOf_15 : jd cX8_lowsOf 15 (.invokevirtual 108) 3 18 := by decide +kernel
theorem dX8_lowsOf_18 : jd cX8_lowsOf 18 (.istore_n 3) 1 19 := by decide +kernel
theorem dX8_lowsOf_19 : jd cX8_lowsOf 19 (.iload_n 3) 1 20 := by decide +kernel
theorem dX8_lowsOf_20 : jt cX8_lowsOf 20 (.ifCond .ge 7) 7 27 23 := by decide +kernel
theorem dX8_lowsOf_23 : jd cX8_lowsOf 23 (.iload_n 3) 1 24 := by decide +kernel
theorem dX8_lowsOf_24 : jt cX8_lowsOf 24 (.goto 25) 25 49 27 := by decide +kernel
theorem dX8_lowsOf_27 : jd cX8_lowsOf 27 (.aload_n 0) 1 28 := by decide +kernel
theorem dX8_lowsOf_28 : jd cX8_lowsOf 28 (.iload_n 1) 1 29 := by decide +kernel
theorem dX8_lowsOf_29 : jd cX8_lowsOf 29 (.invokevirtual 99) 3 32 := by decide +kernel
theorem dX8_lowsOf_32 : jt cX8_lowsOf 32 (.ifCond .ne 11) 11 43 35 := by decide +kernel
theorem dX8_lowsOf_35 : jd cX8_lowsOf 35 (.aload_n 0) 1 36 := by decide +kernel
theorem dX8_lowsOf_36 : jd cX8_lowsOf 36 (.iconst 4) 1 37 := by decide +kernel
theorem dX8_lowsOf_37 : jd cX8_lowsOf 37 (.invokevirtual 95) 3 40 := by decide +kernel
theorem dX8_lowsOf_40 : jt cX8_lowsOf 40 (.goto 9) 9 49 43 := by decide +kernel
theorem dX8_lowsOf_43 : jd cX8_lowsOf 43 (.aload_n 0) 1 44 := by decide +kernel
theorem dX8_lowsOf_44 : jd cX8_lowsOf 44 (.iload_n 1) 1 45 := by decide +kernel
theorem dX8_lowsOf_45 : jd cX8_lowsOf 45 (.iload_n 2) 1 46 := by decide +kernel
theorem dX8_lowsOf_46 : jd cX8_lowsOf 46 (.invokevirtual 105) 3 49 := by decide +kernel
theorem dX8_lowsOf_49 : jd cX8_lowsOf 49 .ireturn 1 50 := by decide +kernel
theorem dX8_lows_0 : jd cX8_lows 0 (.aload_n 0) 1 1 := by decide +kernel
theorem dX8_lows_1 : jd cX8_lows 1 (.iload_n 1) 1 2 := by decide +kernel
theorem dX8_lows_2 : jd cX8_lows 2 (.iload_n 2) 1 3 := by decide +kernel
theorem dX8_lows_3 : jd cX8_lows 3 (.invokevirtual 153) 3 6 := by decide +kernel
theorem dX8_lows_6 : jd cX8_lows 6 .ireturn 1 7 := by decide +kernel
theorem dX8_low_0 : jd cX8_low 0 (.aload_n 0) 1 1 := by decide +kernel
theorem dX8_low_1 : jd cX8_low 1 (.iload_n 1) 1 2 := by decide +kernel
theorem dX8_low_2 : jd cX8_low 2 (.iload_n 2) 1 3 := by decide +kernel
theorem dX8_low_3 : jd cX8_low 3 (.invokevirtual 153) 3 6 := by decide +kernel
theorem dX8_low_6 : jd cX8_low 6 (.istore 4) 2 8 := by decide +kernel
theorem dX8_low_8 : jd cX8_low 8 (.iload 4) 2 10 := by decide +kernel
theorem dX8_low_10 : jt cX8_low 10 (.ifCond .ge 8) 8 18 13 := by decide +kernel
theorem dX8_low_13 : jd cX8_low 13 (.iload 4) 2 15 := by decide +kernel
theorem dX8_low_15 : jt cX8_low 15 (.goto 26) 26 41 18 := by decide +kernel
theorem dX8_low_18 : jd cX8_low 18 (.iload_n 3) 1 19 := by decide +kernel
theorem dX8_low_19 : jd cX8_low 19 (.iconst 0) 1 20 := by decide +kernel
theorem dX8_low_20 : jd cX8_low 20 (.iload 4) 2 22 := by decide +kernel
theorem dX8_low_22 : jd cX8_low 22 (.iconst 1) 1 23 := by decide +kernel
theorem dX8_low_23 : jd cX8_low 23 .isub 1 24 := by decide +kernel
theorem dX8_low_24 : jd cX8_low 24 (.invokestatic 76) 3 27 := by decide +kernel
theorem dX8_low_27 : jt cX8_low 27 (.ifCond .eq 12) 12 39 30 := by decide +kernel
theorem dX8_low_30 : jd cX8_low 30 (.aload_n 0) 1 31 := by decide +kernel
theorem dX8_low_31 : jd cX8_low 31 (.getfield 48) 3 34 := by decide +kernel
theorem dX8_low_34 : jd cX8_low 34 (.iload_n 3) 1 35 := by decide +kernel
theorem dX8_low_35 : jd cX8_low 35 .iaload 1 36 := by decide +kernel
theorem dX8_low_36 : jt cX8_low 36 (.goto 5) 5 41 39 := by decide +kernel
theorem dX8_low_39 : jd cX8_low 39 (.bipush (-9)) 2 41 := by decide +kernel
theorem dX8_low_41 : jd cX8_low 41 .ireturn 1 42 := by decide +kernel
theorem dX8_isClock_0 : jd cX8_isClock 0 (.iload_n 0) 1 1 := by decide +kernel
theorem dX8_isClock_1 : jd cX8_isClock 1 (.invokestatic 111) 3 4 := by decide +kernel
theorem dX8_isClock_4 : jt cX8_isClock 4 (.ifCond .eq 21) 21 25 7 := by decide +kernel
theorem dX8_isClock_7 : jd cX8_isClock 7 (.iload_n 1) 1 8 := by decide +kernel
theorem dX8_isClock_8 : jd cX8_isClock 8 (.invokestatic 127) 3 11 := by decide +kernel
theorem dX8_isClock_11 : jt cX8_isClock 11 (.ifCond .eq 14) 14 25 14 := by decide +kernel
theorem dX8_isClock_14 : jd cX8_isClock 14 (.iload_n 2) 1 15 := by decide +kernel
theorem dX8_isClock_15 : jd cX8_isClock 15 (.invokestatic 130) 3 18 := by decide +kernel
theorem dX8_isClock_18 : jt cX8_isClock 18 (.ifCond .eq 7) 7 25 21 := by decide +kernel
theorem dX8_isClock_21 : jd cX8_isClock 21 (.iconst 1) 1 22 := by decide +kernel
theorem dX8_isClock_22 : jt cX8_isClock 22 (.goto 4) 4 26 25 := by decide +kernel
theorem dX8_isClock_25 : jd cX8_isClock 25 (.iconst 0) 1 26 := by decide +kernel
theorem dX8_isClock_26 : jd cX8_isClock 26 .ireturn 1 27 := by decide +kernel
theorem dX8_turnOf_0 : jd cX8_turnOf 0 (.ldc2_w 156) 3 3 := by decide +kernel
theorem dX8_turnOf_3 : jd cX8_turnOf 3 (.aload_n 0) 1 4 := by decide +kernel
theorem dX8_turnOf_4 : jd cX8_turnOf 4 (.getfield 48) 3 7 := by decide +kernel
theorem dX8_turnOf_7 : jd cX8_turnOf 7 (.iload_n 1) 1 8 := by decide +kernel
theorem dX8_turnOf_8 : jd cX8_turnOf 8 .iaload 1 9 := by decide +kernel
theorem dX8_turnOf_9 : jd cX8_turnOf 9 (.iload_n 2) 1 10 := by decide +kernel
theorem dX8_turnOf_10 : jd cX8_turnOf 10 .isub 1 11 := by decide +kernel
theorem dX8_turnOf_11 : jd cX8_turnOf 11 .i2l 1 12 := by decide +kernel
theorem dX8_turnOf_12 : jd cX8_turnOf 12 .lmul 1 13 := by decide +kernel
theorem dX8_turnOf_13 : jd cX8_turnOf 13 (.iload 4) 2 15 := by decide +kernel
theorem dX8_turnOf_15 : jd cX8_turnOf 15 .i2l 1 16 := by decide +kernel
theorem dX8_turnOf_16 : jd cX8_turnOf 16 .lmul 1 17 := by decide +kernel
theorem dX8_turnOf_17 : jd cX8_turnOf 17 (.iload_n 3) 1 18 := by decide +kernel
theorem dX8_turnOf_18 : jd cX8_turnOf 18 .i2l 1 19 := by decide +kernel
theorem dX8_turnOf_19 : jd cX8_turnOf 19 .ladd 1 20 := by decide +kernel
theorem dX8_turnOf_20 : jd cX8_turnOf 20 (.ldc2_w 158) 3 23 := by decide +kernel
theorem dX8_turnOf_23 : jd cX8_turnOf 23 (.iload_n 3) 1 24 := by decide +kernel
theorem dX8_turnOf_24 : jd cX8_turnOf 24 .i2l 1 25 := by decide +kernel
theorem dX8_turnOf_25 : jd cX8_turnOf 25 .lmul 1 26 := by decide +kernel
theorem dX8_turnOf_26 : jd cX8_turnOf 26 .ladd 1 27 := by decide +kernel
theorem dX8_turnOf_27 : jd cX8_turnOf 27 (.lstore 5) 2 29 := by decide +kernel
theorem dX8_turnOf_29 : jd cX8_turnOf 29 (.lload 5) 2 31 := by decide +kernel
theorem dX8_turnOf_31 : jd cX8_turnOf 31 (.ldc2_w 156) 3 34 := by decide +kernel
theorem dX8_turnOf_34 : jd cX8_turnOf 34 (.iload_n 3) 1 35 := by decide +kernel
theorem dX8_turnOf_35 : jd cX8_turnOf 35 .i2l 1 36 := by decide +kernel
theorem dX8_turnOf_36 : jd cX8_turnOf 36 .lmul 1 37 := by decide +kernel
theorem dX8_turnOf_37 : jd cX8_turnOf 37 .ldiv 1 38 := by decide +kernel
theorem dX8_turnOf_38 : jd cX8_turnOf 38 (.ldc2_w 160) 3 41 := by decide +kernel
theorem dX8_turnOf_41 : jd cX8_turnOf 41 .lsub 1 42 := by decide +kernel
theorem dX8_turnOf_42 : jd cX8_turnOf 42 .lreturn 1 43 := by decide +kernel
theorem dX8_lateOf_0 : jd cX8_lateOf 0 (.iload 4) 2 2 := by decide +kernel
theorem dX8_lateOf_2 : jd cX8_lateOf 2 .i2l 1 3 := by decide +kernel
theorem dX8_lateOf_3 : jd cX8_lateOf 3 (.aload_n 0) 1 4 := by decide +kernel
theorem dX8_lateOf_4 : jd cX8_lateOf 4 (.getfield 48) 3 7 := by decide +kernel
theorem dX8_lateOf_7 : jd cX8_lateOf 7 (.iload_n 1) 1 8 := by decide +kernel
theorem dX8_lateOf_8 : jd cX8_lateOf 8 .iaload 1 9 := by decide +kernel
theorem dX8_lateOf_9 : jd cX8_lateOf 9 (.iload_n 2) 1 10 := by decide +kernel
theorem dX8_lateOf_10 : jd cX8_lateOf 10 .isub 1 11 := by decide +kernel
theorem dX8_lateOf_11 : jd cX8_lateOf 11 .i2l 1 12 := by decide +kernel
theorem dX8_lateOf_12 : jd cX8_lateOf 12 .lmul 1 13 := by decide +kernel
theorem dX8_lateOf_13 : jd cX8_lateOf 13 (.aload_n 0) 1 14 := by decide +kernel
theorem dX8_lateOf_14 : jd cX8_lateOf 14 (.iload_n 1) 1 15 := by decide +kernel
theorem dX8_lateOf_15 : jd cX8_lateOf 15 (.iload_n 2) 1 16 := by decide +kernel
theorem dX8_lateOf_16 : jd cX8_lateOf 16 (.iload_n 3) 1 17 := by decide +kernel
theorem dX8_lateOf_17 : jd cX8_lateOf 17 (.iload 4) 2 19 := by decide +kernel
theorem dX8_lateOf_19 : jd cX8_lateOf 19 (.invokevirtual 162) 3 22 := by decide +kernel
theorem dX8_lateOf_22 : jd cX8_lateOf 22 (.iload_n 3) 1 23 := by decide +kernel
theorem dX8_lateOf_23 : jd cX8_lateOf 23 .i2l 1 24 := by decide +kernel
theorem dX8_lateOf_24 : jd cX8_lateOf 24 .lmul 1 25 := by decide +kernel
theorem dX8_lateOf_25 : jd cX8_lateOf 25 .lsub 1 26 := by decide +kernel
theorem dX8_lateOf_26 : jd cX8_lateOf 26 .lreturn 1 27 := by decide +kernel
theorem dX8_turn_0 : jd cX8_turn 0 (.iload 4) 2 2 := by decide +kernel
theorem dX8_turn_2 : jd cX8_turn 2 (.iload 5) 2 4 := by decide +kernel
theorem dX8_turn_4 : jd cX8_turn 4 (.iload 6) 2 6 := by decide +kernel
theorem dX8_turn_6 : jd cX8_turn 6 (.invokestatic 166) 3 9 := by decide +kernel
theorem dX8_turn_9 : jt cX8_turn 9 (.ifCond .ne 5) 5 14 12 := by decide +kernel
theorem dX8_turn_12 : jd cX8_turn 12 (.iconst (-1)) 1 13 := by decide +kernel
theorem dX8_turn_13 : jd cX8_turn 13 .ireturn 1 14 := by decide +kernel
theorem dX8_turn_14 : jd cX8_turn 14 (.aload_n 0) 1 15 := by decide +kernel
theorem dX8_turn_15 : jd cX8_turn 15 (.iload_n 1) 1 16 := by decide +kernel
theorem dX8_turn_16 : jd cX8_turn 16 (.iload_n 2) 1 17 := by decide +kernel
theorem dX8_turn_17 : jd cX8_turn 17 (.invokevirtual 153) 3 20 := by decide +kernel
theorem dX8_turn_20 : jd cX8_turn 20 (.istore 7) 2 22 := by decide +kernel
theorem dX8_turn_22 : jd cX8_turn 22 (.iload 7) 2 24 := by decide +kernel
theorem dX8_turn_24 : jt cX8_turn 24 (.ifCond .ge 8) 8 32 27 := by decide +kernel
theorem dX8_turn_27 : jd cX8_turn 27 (.iload 7) 2 29 := by decide +kernel
theorem dX8_turn_29 : jt cX8_turn 29 (.goto 35) 35 64 32 := by decide +kernel
theorem dX8_turn_32 : jd cX8_turn 32 (.iload_n 3) 1 33 := by decide +kernel
theorem dX8_turn_33 : jd cX8_turn 33 (.iconst 0) 1 34 := by decide +kernel
theorem dX8_turn_34 : jd cX8_turn 34 (.iload 7) 2 36 := by decide +kernel
theorem dX8_turn_36 : jd cX8_turn 36 (.iconst 1) 1 37 := by decide +kernel
theorem dX8_turn_37 : jd cX8_turn 37 .isub 1 38 := by decide +kernel
theorem dX8_turn_38 : jd cX8_turn 38 (.invokestatic 76) 3 41 := by decide +kernel
theorem dX8_turn_41 : jt cX8_turn 41 (.ifCond .eq 21) 21 62 44 := by decide +kernel
theorem dX8_turn_44 : jd cX8_turn 44 (.aload_n 0) 1 45 := by decide +kernel
theorem dX8_turn_45 : jd cX8_turn 45 (.aload_n 0) 1 46 := by decide +kernel
theorem dX8_turn_46 : jd cX8_turn 46 (.iload_n 3) 1 47 := by decide +kernel
theorem dX8_turn_47 : jd cX8_turn 47 (.iload 4) 2 49 := by decide +kernel
theorem dX8_turn_49 : jd cX8_turn 49 (.iload 5) 2 51 := by decide +kernel
theorem dX8_turn_51 : jd cX8_turn 51 (.iload 6) 2 53 := by decide +kernel
theorem dX8_turn_53 : jd cX8_turn 53 (.invokevirtual 162) 3 56 := by decide +kernel
theorem dX8_turn_56 : jd cX8_turn 56 (.invokevirtual 114) 3 59 := by decide +kernel
theorem dX8_turn_59 : jt cX8_turn 59 (.goto 5) 5 64 62 := by decide +kernel
theorem dX8_turn_62 : jd cX8_turn 62 (.bipush (-9)) 2 64 := by decide +kernel
theorem dX8_turn_64 : jd cX8_turn 64 .ireturn 1 65 := by decide +kernel
theorem dX8_late_0 : jd cX8_late 0 (.iload 4) 2 2 := by decide +kernel
theorem dX8_late_2 : jd cX8_late 2 (.iload 5) 2 4 := by decide +kernel
theorem dX8_late_4 : jd cX8_late 4 (.iload 6) 2 6 := by decide +kernel
theorem dX8_late_6 : jd cX8_late 6 (.invokestatic 166) 3 9 := by decide +kernel
theorem dX8_late_9 : jt cX8_late 9 (.ifCond .ne 5) 5 14 12 := by decide +kernel
theorem dX8_late_12 : jd cX8_late 12 (.iconst (-1)) 1 13 := by decide +kernel
theorem dX8_late_13 : jd cX8_late 13 .ireturn 1 14 := by decide +kernel
theorem dX8_late_14 : jd cX8_late 14 (.aload_n 0) 1 15 := by decide +kernel
theorem dX8_late_15 : jd cX8_late 15 (.iload_n 1) 1 16 := by decide +kernel
theorem dX8_late_16 : jd cX8_late 16 (.iload_n 2) 1 17 := by decide +kernel
theorem dX8_late_17 : jd cX8_late 17 (.invokevirtual 153) 3 20 := by decide +kernel
theorem dX8_late_20 : jd cX8_late 20 (.istore 7) 2 22 := by decide +kernel
theorem dX8_late_22 : jd cX8_late 22 (.iload 7) 2 24 := by decide +kernel
theorem dX8_late_24 : jt cX8_late 24 (.ifCond .ge 8) 8 32 27 := by decide +kernel
theorem dX8_late_27 : jd cX8_late 27 (.iload 7) 2 29 := by decide +kernel
theorem dX8_late_29 : jt cX8_late 29 (.goto 35) 35 64 32 := by decide +kernel
theorem dX8_late_32 : jd cX8_late 32 (.iload_n 3) 1 33 := by decide +kernel
theorem dX8_late_33 : jd cX8_late 33 (.iconst 0) 1 34 := by decide +kernel
theorem dX8_late_34 : jd cX8_late 34 (.iload 7) 2 36 := by decide +kernel
theorem dX8_late_36 : jd cX8_late 36 (.iconst 1) 1 37 := by decide +kernel
theorem dX8_late_37 : jd cX8_late 37 .isub 1 38 := by decide +kernel
theorem dX8_late_38 : jd cX8_late 38 (.invokestatic 76) 3 41 := by decide +kernel
theorem dX8_late_41 : jt cX8_late 41 (.ifCond .eq 21) 21 62 44 := by decide +kernel
theorem dX8_late_44 : jd cX8_late 44 (.aload_n 0) 1 45 := by decide +kernel
theorem dX8_late_45 : jd cX8_late 45 (.aload_n 0) 1 46 := by decide +kernel
theorem dX8_late_46 : jd cX8_late 46 (.iload_n 3) 1 47 := by decide +kernel
theorem dX8_late_47 : jd cX8_late 47 (.iload 4) 2 49 := by decide +kernel
theorem dX8_late_49 : jd cX8_late 49 (.iload 5) 2 51 := by decide +kernel
theorem dX8_late_51 : jd cX8_late 51 (.iload 6) 2 53 := by decide +kernel
theorem dX8_late_53 : jd cX8_late 53 (.invokevirtual 169) 3 56 := by decide +kernel
theorem dX8_late_56 : jd cX8_late 56 (.invokevirtual 114) 3 59 := by decide +kernel
theorem dX8_late_59 : jt cX8_late 59 (.goto 5) 5 64 62 := by decide +kernel
theorem dX8_late_62 : jd cX8_late 62 (.bipush (-9)) 2 64 := by decide +kernel
theorem dX8_late_64 : jd cX8_late 64 .ireturn 1 65 := by decide +kernel
theorem dX8_bent_0 : jd cX8_bent 0 (.iload 4) 2 2 := by decide +kernel
theorem dX8_bent_2 : jd cX8_bent 2 (.iload 5) 2 4 := by decide +kernel
theorem dX8_bent_4 : jd cX8_bent 4 (.iload 6) 2 6 := by decide +kernel
theorem dX8_bent_6 : jd cX8_bent 6 (.invokestatic 166) 3 9 := by decide +kernel
theorem dX8_bent_9 : jt cX8_bent 9 (.ifCond .ne 5) 5 14 12 := by decide +kernel
theorem dX8_bent_12 : jd cX8_bent 12 (.iconst (-1)) 1 13 := by decide +kernel
theorem dX8_bent_13 : jd cX8_bent 13 .ireturn 1 14 := by decide +kernel
theorem dX8_bent_14 : jd cX8_bent 14 (.aload_n 0) 1 15 := by decide +kernel
theorem dX8_bent_15 : jd cX8_bent 15 (.iload_n 1) 1 16 := by decide +kernel
theorem dX8_bent_16 : jd cX8_bent 16 (.iload_n 2) 1 17 := by decide +kernel
theorem dX8_bent_17 : jd cX8_bent 17 (.invokevirtual 153) 3 20 := by decide +kernel
theorem dX8_bent_20 : jd cX8_bent 20 (.istore 7) 2 22 := by decide +kernel
theorem dX8_bent_22 : jd cX8_bent 22 (.iload 7) 2 24 := by decide +kernel
theorem dX8_bent_24 : jt cX8_bent 24 (.ifCond .ge 8) 8 32 27 := by decide +kernel
theorem dX8_bent_27 : jd cX8_bent 27 (.iload 7) 2 29 := by decide +kernel
theorem dX8_bent_29 : jt cX8_bent 29 (.goto 67) 67 96 32 := by decide +kernel
theorem dX8_bent_32 : jd cX8_bent 32 (.iload_n 3) 1 33 := by decide +kernel
theorem dX8_bent_33 : jd cX8_bent 33 (.iconst 0) 1 34 := by decide +kernel
theorem dX8_bent_34 : jd cX8_bent 34 (.iload 7) 2 36 := by decide +kernel
theorem dX8_bent_36 : jd cX8_bent 36 (.iconst 3) 1 37 := by decide +kernel
theorem dX8_bent_37 : jd cX8_bent 37 .isub 1 38 := by decide +kernel
theorem dX8_bent_38 : jd cX8_bent 38 (.invokestatic 76) 3 41 := by decide +kernel
theorem dX8_bent_41 : jt cX8_bent 41 (.ifCond .eq 53) 53 94 44 := by decide +kernel
theorem dX8_bent_44 : jd cX8_bent 44 (.aload_n 0) 1 45 := by decide +kernel
theorem dX8_bent_45 : jd cX8_bent 45 (.aload_n 0) 1 46 := by decide +kernel
theorem dX8_bent_46 : jd cX8_bent 46 (.iload_n 3) 1 47 := by decide +kernel
theorem dX8_bent_47 : jd cX8_bent 47 (.iload 4) 2 49 := by decide +kernel
theorem dX8_bent_49 : jd cX8_bent 49 (.iload 5) 2 51 := by decide +kernel
theorem dX8_bent_51 : jd cX8_bent 51 (.iload 6) 2 53 := by decide +kernel
theorem dX8_bent_53 : jd cX8_bent 53 (.invokevirtual 169) 3 56 := by decide +kernel
theorem dX8_bent_56 : jd cX8_bent 56 (.ldc2_w 156) 3 59 := by decide +kernel
theorem dX8_bent_59 : jd cX8_bent 59 (.aload_n 0) 1 60 := by decide +kernel
theorem dX8_bent_60 : jd cX8_bent 60 (.iload_n 3) 1 61 := by decide +kernel
theorem dX8_bent_61 : jd cX8_bent 61 (.iconst 1) 1 62 := by decide +kernel
theorem dX8_bent_62 : jd cX8_bent 62 .iadd 1 63 := by decide +kernel
theorem dX8_bent_63 : jd cX8_bent 63 (.iload 4) 2 65 := by decide +kernel
theorem dX8_bent_65 : jd cX8_bent 65 (.iload 5) 2 67 := by decide +kernel
theorem dX8_bent_67 : jd cX8_bent 67 (.iload 6) 2 69 := by decide +kernel
theorem dX8_bent_69 : jd cX8_bent 69 (.invokevirtual 169) 3 72 := by decide +kernel
theorem dX8_bent_72 : jd cX8_bent 72 .lmul 1 73 := by decide +kernel
theorem dX8_bent_73 : jd cX8_bent 73 .lsub 1 74 := by decide +kernel
theorem dX8_bent_74 : jd cX8_bent 74 (.aload_n 0) 1 75 := by decide +kernel
theorem dX8_bent_75 : jd cX8_bent 75 (.iload_n 3) 1 76 := by decide +kernel
theorem dX8_bent_76 : jd cX8_bent 76 (.iconst 2) 1 77 := by decide +kernel
theorem dX8_bent_77 : jd cX8_bent 77 .iadd 1 78 := by decide +kernel
theorem dX8_bent_78 : jd cX8_bent 78 (.iload 4) 2 80 := by decide +kernel
theorem dX8_bent_80 : jd cX8_bent 80 (.iload 5) 2 82 := by decide +kernel
theorem dX8_bent_82 : jd cX8_bent 82 (.iload 6) 2 84 := by decide +kernel
theorem dX8_bent_84 : jd cX8_bent 84 (.invokevirtual 169) 3 87 := by decide +kernel
theorem dX8_bent_87 : jd cX8_bent 87 .ladd 1 88 := by decide +kernel
theorem dX8_bent_88 : jd cX8_bent 88 (.invokevirtual 114) 3 91 := by decide +kernel
theorem dX8_bent_91 : jt cX8_bent 91 (.goto 5) 5 96 94 := by decide +kernel
theorem dX8_bent_94 : jd cX8_bent 94 (.bipush (-9)) 2 96 := by decide +kernel
theorem dX8_bent_96 : jd cX8_bent 96 .ireturn 1 97 := by decide +kernel
theorem dX8_rule_0 : jd cX8_rule 0 (.iload_n 1) 1 1 := by decide +kernel
theorem dX8_rule_1 : jd cX8_rule 1 (.iconst 0) 1 2 := by decide +kernel
theorem dX8_rule_2 : jd cX8_rule 2 (.iconst 3) 1 3 := by decide +kernel
theorem dX8_rule_3 : jd cX8_rule 3 (.invokestatic 76) 3 6 := by decide +kernel
theorem dX8_rule_6 : jt cX8_rule 6 (.ifCond .eq 19) 19 25 9 := by decide +kernel
theorem dX8_rule_9 : jd cX8_rule 9 (.iload_n 2) 1 10 := by decide +kernel
theorem dX8_rule_10 : jd cX8_rule 10 (.iload_n 3) 1 11 := by decide +kernel
theorem dX8_rule_11 : jt cX8_rule 11 (.if_icmp .gt 14) 14 25 14 := by decide +kernel
theorem dX8_rule_14 : jd cX8_rule 14 (.iload 4) 2 16 := by decide +kernel
theorem dX8_rule_16 : jd cX8_rule 16 (.iconst 0) 1 17 := by decide +kernel
theorem dX8_rule_17 : jd cX8_rule 17 (.bipush 9) 2 19 := by decide +kernel
theorem dX8_rule_19 : jd cX8_rule 19 (.invokestatic 76) 3 22 := by decide +kernel
theorem dX8_rule_22 : jt cX8_rule 22 (.ifCond .ne 5) 5 27 25 := by decide +kernel
theorem dX8_rule_25 : jd cX8_rule 25 (.iconst (-1)) 1 26 := by decide +kernel
theorem dX8_rule_26 : jd cX8_rule 26 .ireturn 1 27 := by decide +kernel
theorem dX8_rule_27 : jd cX8_rule 27 (.aload_n 0) 1 28 := by decide +kernel
theorem dX8_rule_28 : jd cX8_rule 28 (.getfield 172) 3 31 := by decide +kernel
theorem dX8_rule_31 : jd cX8_rule 31 (.bipush 10) 2 33 := by decide +kernel
theorem dX8_rule_33 : jt cX8_rule 33 (.if_icmp .ne 6) 6 39 36 := by decide +kernel
theorem dX8_rule_36 : jd cX8_rule 36 (.bipush (-2)) 2 38 := by decide +kernel
theorem dX8_rule_38 : jd cX8_rule 38 .ireturn 1 39 := by decide +kernel
theorem dX8_rule_39 : jd cX8_rule 39 (.aload_n 0) 1 40 := by decide +kernel
theorem dX8_rule_40 : jd cX8_rule 40 (.getfield 51) 3 43 := by decide +kernel
theorem dX8_rule_43 : jd cX8_rule 43 (.aload_n 0) 1 44 := by decide +kernel
theorem dX8_rule_44 : jd cX8_rule 44 (.getfield 172) 3 47 := by decide +kernel
theorem dX8_rule_47 : jd cX8_rule 47 (.iload_n 1) 1 48 := by decide +kernel
theorem dX8_rule_48 : jd cX8_rule 48 .iastore 1 49 := by decide +kernel
theorem dX8_rule_49 : jd cX8_rule 49 (.aload_n 0) 1 50 := by decide +kernel
theorem dX8_rule_50 : jd cX8_rule 50 (.getfield 54) 3 53 := by decide +kernel
theorem dX8_rule_53 : jd cX8_rule 53 (.aload_n 0) 1 54 := by decide +kernel
theorem dX8_rule_54 : jd cX8_rule 54 (.getfield 172) 3 57 := by decide +kernel
theorem dX8_rule_57 : jd cX8_rule 57 (.iload_n 2) 1 58 := by decide +kernel
theorem dX8_rule_58 : jd cX8_rule 58 .iastore 1 59 := by decide +kernel
theorem dX8_rule_59 : jd cX8_rule 59 (.aload_n 0) 1 60 := by decide +kernel
theorem dX8_rule_60 : jd cX8_rule 60 (.getfield 57) 3 63 := by decide +kernel
theorem dX8_rule_63 : jd cX8_rule 63 (.aload_n 0) 1 64 := by decide +kernel
theorem dX8_rule_64 : jd cX8_rule 64 (.getfield 172) 3 67 := by decide +kernel
theorem dX8_rule_67 : jd cX8_rule 67 (.iload_n 3) 1 68 := by decide +kernel
theorem dX8_rule_68 : jd cX8_rule 68 .iastore 1 69 := by decide +kernel
theorem dX8_rule_69 : jd cX8_rule 69 (.aload_n 0) 1 70 := by decide +kernel
theorem dX8_rule_70 : jd cX8_rule 70 (.getfield 60) 3 73 := by decide +kernel
theorem dX8_rule_73 : jd cX8_rule 73 (.aload_n 0) 1 74 := by decide +kernel
theorem dX8_rule_74 : jd cX8_rule 74 (.getfield 172) 3 77 := by decide +kernel
theorem dX8_rule_77 : jd cX8_rule 77 (.iload 4) 2 79 := by decide +kernel
theorem dX8_rule_79 : jd cX8_rule 79 .iastore 1 80 := by decide +kernel
theorem dX8_rule_80 : jd cX8_rule 80 (.aload_n 0) 1 81 := by decide +kernel
theorem dX8_rule_81 : jd cX8_rule 81 .dup 1 82 := by decide +kernel
theorem dX8_rule_82 : jd cX8_rule 82 (.getfield 172) 3 85 := by decide +kernel
theorem dX8_rule_85 : jd cX8_rule 85 (.iconst 1) 1 86 := by decide +kernel
theorem dX8_rule_86 : jd cX8_rule 86 .iadd 1 87 := by decide +kernel
theorem dX8_rule_87 : jd cX8_rule 87 (.putfield 172) 3 90 := by decide +kernel
theorem dX8_rule_90 : jd cX8_rule 90 (.aload_n 0) 1 91 := by decide +kernel
theorem dX8_rule_91 : jd cX8_rule 91 (.getfield 172) 3 94 := by decide +kernel
theorem dX8_rule_94 : jd cX8_rule 94 (.iconst 1) 1 95 := by decide +kernel
theorem dX8_rule_95 : jd cX8_rule 95 .isub 1 96 := by decide +kernel
theorem dX8_rule_96 : jd cX8_rule 96 .ireturn 1 97 := by decide +kernel
theorem dX8_worth_0 : jd cX8_worth 0 (.iload_n 2) 1 1 := by decide +kernel
theorem dX8_worth_1 : jt cX8_worth 1 (.ifCond .ne 12) 12 13 4 := by decide +kernel
theorem dX8_worth_4 : jd cX8_worth 4 (.aload_n 0) 1 5 := by decide +kernel
theorem dX8_worth_5 : jd cX8_worth 5 (.iload_n 1) 1 6 := by decide +kernel
theorem dX8_worth_6 : jd cX8_worth 6 (.iconst 0) 1 7 := by decide +kernel
theorem dX8_worth_7 : jd cX8_worth 7 (.invokevirtual 123) 3 10 := by decide +kernel
theorem dX8_worth_10 : jt cX8_worth 10 (.goto 36) 36 46 13 := by decide +kernel
theorem dX8_worth_13 : jd cX8_worth 13 (.iload_n 2) 1 14 := by decide +kernel
theorem dX8_worth_14 : jd cX8_worth 14 (.iconst 1) 1 15 := by decide +kernel
theorem dX8_worth_15 : jt cX8_worth 15 (.if_icmp .ne 11) 11 26 18 := by decide +kernel
theorem dX8_worth_18 : jd cX8_worth 18 (.aload_n 0) 1 19 := by decide +kernel
theorem dX8_worth_19 : jd cX8_worth 19 (.iload_n 1) 1 20 := by decide +kernel
theorem dX8_worth_20 : jd cX8_worth 20 (.invokevirtual 102) 3 23 := by decide +kernel
theorem dX8_worth_23 : jt cX8_worth 23 (.goto 23) 23 46 26 := by decide +kernel
theorem dX8_worth_26 : jd cX8_worth 26 (.iload_n 2) 1 27 := by decide +kernel
theorem dX8_worth_27 : jd cX8_worth 27 (.iconst 2) 1 28 := by decide +kernel
theorem dX8_worth_28 : jt cX8_worth 28 (.if_icmp .ne 11) 11 39 31 := by decide +kernel
theorem dX8_worth_31 : jd cX8_worth 31 (.aload_n 0) 1 32 := by decide +kernel
theorem dX8_worth_32 : jd cX8_worth 32 (.iload_n 1) 1 33 := by decide +kernel
theorem dX8_worth_33 : jd cX8_worth 33 (.invokevirtual 99) 3 36 := by decide +kernel
theorem dX8_worth_36 : jt cX8_worth 36 (.goto 10) 10 46 39 := by decide +kernel
theorem dX8_worth_39 : jd cX8_worth 39 (.aload_n 0) 1 40 := by decide +kernel
theorem dX8_worth_40 : jd cX8_worth 40 (.iload_n 1) 1 41 := by decide +kernel
theorem dX8_worth_41 : jd cX8_worth 41 (.bipush 100) 2 43 := by decide +kernel
theorem dX8_worth_43 : jd cX8_worth 43 (.invokevirtual 105) 3 46 := by decide +kernel
theorem dX8_worth_46 : jd cX8_worth 46 .ireturn 1 47 := by decide +kernel
theorem dX8_classIs_0 : jd cX8_classIs 0 (.iconst 0) 1 1 := by decide +kernel
theorem dX8_classIs_1 : jd cX8_classIs 1 (.istore_n 2) 1 2 := by decide +kernel
theorem dX8_classIs_2 : jd cX8_classIs 2 (.iload_n 2) 1 3 := by decide +kernel
theorem dX8_classIs_3 : jd cX8_classIs 3 (.aload_n 0) 1 4 := by decide +kernel
theorem dX8_classIs_4 : jd cX8_classIs 4 (.getfield 172) 3 7 := by decide +kernel
theorem dX8_classIs_7 : jt cX8_classIs 7 (.if_icmp .ge 45) 45 52 10 := by decide +kernel
theorem dX8_classIs_10 : jd cX8_classIs 10 (.aload_n 0) 1 11 := by decide +kernel
theorem dX8_classIs_11 : jd cX8_classIs 11 (.iload_n 1) 1 12 := by decide +kernel
theorem dX8_classIs_12 : jd cX8_classIs 12 (.aload_n 0) 1 13 := by decide +kernel
theorem dX8_classIs_13 : jd cX8_classIs 13 (.getfield 51) 3 16 := by decide +kernel
theorem dX8_classIs_16 : jd cX8_classIs 16 (.iload_n 2) 1 17 := by decide +kernel
theorem dX8_classIs_17 : jd cX8_classIs 17 .iaload 1 18 := by decide +kernel
theorem dX8_classIs_18 : jd cX8_classIs 18 (.invokevirtual 175) 3 21 := by decide +kernel
theorem dX8_classIs_21 : jd cX8_classIs 21 (.aload_n 0) 1 22 := by decide +kernel
theorem dX8_classIs_22 : jd cX8_classIs 22 (.getfield 54) 3 25 := by decide +kernel
theorem dX8_classIs_25 : jd cX8_classIs 25 (.iload_n 2) 1 26 := by decide +kernel
theorem dX8_classIs_26 : jd cX8_classIs 26 .iaload 1 27 := by decide +kernel
theorem dX8_classIs_27 : jd cX8_classIs 27 (.aload_n 0) 1 28 := by decide +kernel
theorem dX8_classIs_28 : jd cX8_classIs 28 (.getfield 57) 3 31 := by decide +kernel
theorem dX8_classIs_31 : jd cX8_classIs 31 (.iload_n 2) 1 32 := by decide +kernel
theorem dX8_classIs_32 : jd cX8_classIs 32 .iaload 1 33 := by decide +kernel
theorem dX8_classIs_33 : jd cX8_classIs 33 (.invokestatic 76) 3 36 := by decide +kernel
theorem dX8_classIs_36 : jt cX8_classIs 36 (.ifCond .eq 10) 10 46 39 := by decide +kernel
theorem dX8_classIs_39 : jd cX8_classIs 39 (.aload_n 0) 1 40 := by decide +kernel
theorem dX8_classIs_40 : jd cX8_classIs 40 (.getfield 60) 3 43 := by decide +kernel
theorem dX8_classIs_43 : jd cX8_classIs 43 (.iload_n 2) 1 44 := by decide +kernel
theorem dX8_classIs_44 : jd cX8_classIs 44 .iaload 1 45 := by decide +kernel
theorem dX8_classIs_45 : jd cX8_classIs 45 .ireturn 1 46 := by decide +kernel
theorem dX8_classIs_46 : jd cX8_classIs 46 (.iinc 2 1) 3 49 := by decide +kernel
theorem dX8_classIs_49 : jt cX8_classIs 49 (.goto (-47)) (-47) 2 52 := by decide +kernel
theorem dX8_classIs_52 : jd cX8_classIs 52 (.bipush (-9)) 2 54 := by decide +kernel
theorem dX8_classIs_54 : jd cX8_classIs 54 .ireturn 1 55 := by decide +kernel
theorem dX8_classOf_0 : jd cX8_classOf 0 (.aload_n 0) 1 1 := by decide +kernel
theorem dX8_classOf_1 : jd cX8_classOf 1 (.iload_n 1) 1 2 := by decide +kernel
theorem dX8_classOf_2 : jd cX8_classOf 2 (.invokevirtual 108) 3 5 := by decide +kernel
theorem dX8_classOf_5 : jd cX8_classOf 5 (.istore_n 2) 1 6 := by decide +kernel
theorem dX8_classOf_6 : jd cX8_classOf 6 (.iload_n 2) 1 7 := by decide +kernel
theorem dX8_classOf_7 : jt cX8_classOf 7 (.ifCond .ge 7) 7 14 10 := by decide +kernel
theorem dX8_classOf_10 : jd cX8_classOf 10 (.iload_n 2) 1 11 := by decide +kernel
theorem dX8_classOf_11 : jt cX8_classOf 11 (.goto 24) 24 35 14 := by decide +kernel
theorem dX8_classOf_14 : jd cX8_classOf 14 (.aload_n 0) 1 15 := by decide +kernel
theorem dX8_classOf_15 : jd cX8_classOf 15 (.iload_n 1) 1 16 := by decide +kernel
theorem dX8_classOf_16 : jd cX8_classOf 16 (.invokevirtual 99) 3 19 := by decide +kernel
theorem dX8_classOf_19 : jt cX8_classOf 19 (.ifCond .ne 11) 11 30 22 := by decide +kernel
theorem dX8_classOf_22 : jd cX8_classOf 22 (.aload_n 0) 1 23 := by decide +kernel
theorem dX8_classOf_23 : jd cX8_classOf 23 (.iconst 4) 1 24 := by decide +kernel
theorem dX8_classOf_24 : jd cX8_classOf 24 (.invokevirtual 95) 3 27 := by decide +kernel
theorem dX8_classOf_27 : jt cX8_classOf 27 (.goto 8) 8 35 30 := by decide +kernel
theorem dX8_classOf_30 : jd cX8_classOf 30 (.aload_n 0) 1 31 := by decide +kernel
theorem dX8_classOf_31 : jd cX8_classOf 31 (.iload_n 1) 1 32 := by decide +kernel
theorem dX8_classOf_32 : jd cX8_classOf 32 (.invokevirtual 178) 3 35 := by decide +kernel
theorem dX8_classOf_35 : jd cX8_classOf 35 .ireturn 1 36 := by decide +kernel
theorem dX8_watch_0 : jd cX8_watch 0 (.iconst 0) 1 1 := by decide +kernel
theorem dX8_watch_1 : jd cX8_watch 1 (.istore_n 1) 1 2 := by decide +kernel
theorem dX8_watch_2 : jd cX8_watch 2 (.aload_n 0) 1 3 := by decide +kernel
theorem dX8_watch_3 : jd cX8_watch 3 (.iconst 0) 1 4 := by decide +kernel
theorem dX8_watch_4 : jd cX8_watch 4 (.putfield 181) 3 7 := by decide +kernel
theorem dX8_watch_7 : jd cX8_watch 7 (.aload_n 0) 1 8 := by decide +kernel
theorem dX8_watch_8 : jd cX8_watch 8 .dup 1 9 := by decide +kernel
theorem dX8_watch_9 : jd cX8_watch 9 (.getfield 184) 3 12 := by decide +kernel
theorem dX8_watch_12 : jd cX8_watch 12 (.iconst 1) 1 13 := by decide +kernel
theorem dX8_watch_13 : jd cX8_watch 13 .iadd 1 14 := by decide +kernel
theorem dX8_watch_14 : jd cX8_watch 14 (.putfield 184) 3 17 := by decide +kernel
theorem dX8_watch_17 : jd cX8_watch 17 (.iconst 0) 1 18 := by decide +kernel
theorem dX8_watch_18 : jd cX8_watch 18 (.istore_n 2) 1 19 := by decide +kernel
theorem dX8_watch_19 : jd cX8_watch 19 (.iload_n 2) 1 20 := by decide +kernel
theorem dX8_watch_20 : jd cX8_watch 20 (.aload_n 0) 1 21 := by decide +kernel
theorem dX8_watch_21 : jd cX8_watch 21 (.getfield 73) 3 24 := by decide +kernel
theorem dX8_watch_24 : jt cX8_watch 24 (.if_icmp .ge 69) 69 93 27 := by decide +kernel
theorem dX8_watch_27 : jd cX8_watch 27 (.aload_n 0) 1 28 := by decide +kernel
theorem dX8_watch_28 : jd cX8_watch 28 (.getfield 16) 3 31 := by decide +kernel
theorem dX8_watch_31 : jd cX8_watch 31 (.iload_n 2) 1 32 := by decide +kernel
theorem dX8_watch_32 : jd cX8_watch 32 .baload 1 33 := by decide +kernel
theorem dX8_watch_33 : jt cX8_watch 33 (.ifCond .eq 19) 19 52 36 := by decide +kernel
theorem dX8_watch_36 : jd cX8_watch 36 (.aload_n 0) 1 37 := by decide +kernel
theorem dX8_watch_37 : jd cX8_watch 37 (.iload_n 2) 1 38 := by decide +kernel
theorem dX8_watch_38 : jd cX8_watch 38 (.invokevirtual 99) 3 41 := by decide +kernel
theorem dX8_watch_41 : jt cX8_watch 41 (.ifCond .le 11) 11 52 44 := by decide +kernel
theorem dX8_watch_44 : jd cX8_watch 44 (.aload_n 0) 1 45 := by decide +kernel
theorem dX8_watch_45 : jd cX8_watch 45 (.iload_n 2) 1 46 := by decide +kernel
theorem dX8_watch_46 : jd cX8_watch 46 (.invokevirtual 178) 3 49 := by decide +kernel
theorem dX8_watch_49 : jt cX8_watch 49 (.goto 5) 5 54 52 := by decide +kernel
theorem dX8_watch_52 : jd cX8_watch 52 (.bipush (-9)) 2 54 := by decide +kernel
theorem dX8_watch_54 : jd cX8_watch 54 (.istore_n 3) 1 55 := by decide +kernel
theorem dX8_watch_55 : jd cX8_watch 55 (.iload_n 3) 1 56 := by decide +kernel
theorem dX8_watch_56 : jd cX8_watch 56 (.aload_n 0) 1 57 := by decide +kernel
theorem dX8_watch_57 : jd cX8_watch 57 (.getfield 63) 3 60 := by decide +kernel
theorem dX8_watch_60 : jd cX8_watch 60 (.iload_n 2) 1 61 := by decide +kernel
theorem dX8_watch_61 : jd cX8_watch 61 .iaload 1 62 := by decide +kernel
theorem dX8_watch_62 : jt cX8_watch 62 (.if_icmp .eq 18) 18 80 65 := by decide +kernel
theorem dX8_watch_65 : jd cX8_watch 65 (.aload_n 0) 1 66 := by decide +kernel
theorem dX8_watch_66 : jd cX8_watch 66 .dup 1 67 := by decide +kernel
theorem dX8_watch_67 : jd cX8_watch 67 (.getfield 181) 3 70 := by decide +kernel
theorem dX8_watch_70 : jd cX8_watch 70 (.iconst 1) 1 71 := by decide +kernel
theorem dX8_watch_71 : jd cX8_watch 71 (.iload_n 2) 1 72 := by decide +kernel
theorem dX8_watch_72 : jd cX8_watch 72 .ishl 1 73 := by decide +kernel
theorem dX8_watch_73 : jd cX8_watch 73 .ior 1 74 := by decide +kernel
theorem dX8_watch_74 : jd cX8_watch 74 (.putfield 181) 3 77 := by decide +kernel
theorem dX8_watch_77 : jd cX8_watch 77 (.iinc 1 1) 3 80 := by decide +kernel
theorem dX8_watch_80 : jd cX8_watch 80 (.aload_n 0) 1 81 := by decide +kernel
theorem dX8_watch_81 : jd cX8_watch 81 (.getfield 63) 3 84 := by decide +kernel
theorem dX8_watch_84 : jd cX8_watch 84 (.iload_n 2) 1 85 := by decide +kernel
theorem dX8_watch_85 : jd cX8_watch 85 (.iload_n 3) 1 86 := by decide +kernel
theorem dX8_watch_86 : jd cX8_watch 86 .iastore 1 87 := by decide +kernel
theorem dX8_watch_87 : jd cX8_watch 87 (.iinc 2 1) 3 90 := by decide +kernel
theorem dX8_watch_90 : jt cX8_watch 90 (.goto (-71)) (-71) 19 93 := by decide +kernel
theorem dX8_watch_93 : jd cX8_watch 93 (.iload_n 1) 1 94 := by decide +kernel
theorem dX8_watch_94 : jd cX8_watch 94 .ireturn 1 95 := by decide +kernel
theorem dX8_alarms_0 : jd cX8_alarms 0 (.aload_n 0) 1 1 := by decide +kernel
theorem dX8_alarms_1 : jd cX8_alarms 1 (.getfield 181) 3 4 := by decide +kernel
theorem dX8_alarms_4 : jd cX8_alarms 4 .ireturn 1 5 := by decide +kernel
theorem dX8_asked_0 : jd cX8_asked 0 (.aload_n 0) 1 1 := by decide +kernel
theorem dX8_asked_1 : jd cX8_asked 1 (.getfield 69) 3 4 := by decide +kernel
theorem dX8_asked_4 : jd cX8_asked 4 .lreturn 1 5 := by decide +kernel
theorem dX8_count_0 : jd cX8_count 0 (.iconst 0) 1 1 := by decide +kernel
theorem dX8_count_1 : jd cX8_count 1 (.istore_n 2) 1 2 := by decide +kernel
theorem dX8_count_2 : jd cX8_count 2 (.iconst 0) 1 3 := by decide +kernel
theorem dX8_count_3 : jd cX8_count 3 (.istore_n 3) 1 4 := by decide +kernel
theorem dX8_count_4 : jd cX8_count 4 (.iload_n 3) 1 5 := by decide +kernel
theorem dX8_count_5 : jd cX8_count 5 (.aload_n 0) 1 6 := by decide +kernel
theorem dX8_count_6 : jd cX8_count 6 (.getfield 73) 3 9 := by decide +kernel
theorem dX8_count_9 : jt cX8_count 9 (.if_icmp .ge 48) 48 57 12 := by decide +kernel
theorem dX8_count_12 : jd cX8_count 12 (.iload_n 2) 1 13 := by decide +kernel
theorem dX8_count_13 : jd cX8_count 13 (.aload_n 0) 1 14 := by decide +kernel
theorem dX8_count_14 : jd cX8_count 14 (.getfield 16) 3 17 := by decide +kernel
theorem dX8_count_17 : jd cX8_count 17 (.iload_n 3) 1 18 := by decide +kernel
theorem dX8_count_18 : jd cX8_count 18 .baload 1 19 := by decide +kernel
theorem dX8_count_19 : jt cX8_count 19 (.ifCond .ne 7) 7 26 22 := by decide +kernel
theorem dX8_count_22 : jd cX8_count 22 (.iconst 0) 1 23 := by decide +kernel
theorem dX8_count_23 : jt cX8_count 23 (.goto 26) 26 49 26 := by decide +kernel
theorem dX8_count_26 : jd cX8_count 26 (.iload_n 1) 1 27 := by decide +kernel
theorem dX8_count_27 : jd cX8_count 27 (.iconst 1) 1 28 := by decide +kernel
theorem dX8_count_28 : jt cX8_count 28 (.if_icmp .ne 7) 7 35 31 := by decide +kernel
theorem dX8_count_31 : jd cX8_count 31 (.iconst 1) 1 32 := by decide +kernel
theorem dX8_count_32 : jt cX8_count 32 (.goto 17) 17 49 35 := by decide +kernel
theorem dX8_count_35 : jd cX8_count 35 (.iload_n 1) 1 36 := by decide +kernel
theorem dX8_count_36 : jd cX8_count 36 (.iconst 2) 1 37 := by decide +kernel
theorem dX8_count_37 : jt cX8_count 37 (.if_icmp .ne 11) 11 48 40 := by decide +kernel
theorem dX8_count_40 : jd cX8_count 40 (.aload_n 0) 1 41 := by decide +kernel
theorem dX8_count_41 : jd cX8_count 41 (.iload_n 3) 1 42 := by decide +kernel
theorem dX8_count_42 : jd cX8_count 42 (.invokevirtual 99) 3 45 := by decide +kernel
theorem dX8_count_45 : jt cX8_count 45 (.goto 4) 4 49 48 := by decide +kernel
theorem dX8_count_48 : jd cX8_count 48 (.iconst 0) 1 49 := by decide +kernel
theorem dX8_count_49 : jd cX8_count 49 .iadd 1 50 := by decide +kernel
theorem dX8_count_50 : jd cX8_count 50 (.istore_n 2) 1 51 := by decide +kernel
theorem dX8_count_51 : jd cX8_count 51 (.iinc 3 1) 3 54 := by decide +kernel
theorem dX8_count_54 : jt cX8_count 54 (.goto (-50)) (-50) 4 57 := by decide +kernel
theorem dX8_count_57 : jd cX8_count 57 (.iload_n 1) 1 58 := by decide +kernel
theorem dX8_count_58 : jt cX8_count 58 (.ifCond .ne 10) 10 68 61 := by decide +kernel
theorem dX8_count_61 : jd cX8_count 61 (.aload_n 0) 1 62 := by decide +kernel
theorem dX8_count_62 : jd cX8_count 62 (.getfield 73) 3 65 := by decide +kernel
theorem dX8_count_65 : jt cX8_count 65 (.goto 41) 41 106 68 := by decide +kernel
theorem dX8_count_68 : jd cX8_count 68 (.iload_n 1) 1 69 := by decide +kernel
theorem dX8_count_69 : jd cX8_count 69 (.iconst 1) 1 70 := by decide +kernel
theorem dX8_count_70 : jd cX8_count 70 (.iconst 2) 1 71 := by decide +kernel
theorem dX8_count_71 : jd cX8_count 71 (.invokestatic 76) 3 74 := by decide +kernel
theorem dX8_count_74 : jt cX8_count 74 (.ifCond .eq 7) 7 81 77 := by decide +kernel
theorem dX8_count_77 : jd cX8_count 77 (.iload_n 2) 1 78 := by decide +kernel
theorem dX8_count_78 : jt cX8_count 78 (.goto 28) 28 106 81 := by decide +kernel
theorem dX8_count_81 : jd cX8_count 81 (.iload_n 1) 1 82 := by decide +kernel
theorem dX8_count_82 : jd cX8_count 82 (.iconst 3) 1 83 := by decide +kernel
theorem dX8_count_83 : jt cX8_count 83 (.if_icmp .ne 10) 10 93 86 := by decide +kernel
theorem dX8_count_86 : jd cX8_count 86 (.aload_n 0) 1 87 := by decide +kernel
theorem dX8_count_87 : jd cX8_count 87 (.getfield 172) 3 90 := by decide +kernel
theorem dX8_count_90 : jt cX8_count 90 (.goto 16) 16 106 93 := by decide +kernel
theorem dX8_count_93 : jd cX8_count 93 (.iload_n 1) 1 94 := by decide +kernel
theorem dX8_count_94 : jd cX8_count 94 (.iconst 4) 1 95 := by decide +kernel
theorem dX8_count_95 : jt cX8_count 95 (.if_icmp .ne 10) 10 105 98 := by decide +kernel
theorem dX8_count_98 : jd cX8_count 98 (.aload_n 0) 1 99 := by decide +kernel
theorem dX8_count_99 : jd cX8_count 99 (.getfield 184) 3 102 := by decide +kernel
theorem dX8_count_102 : jt cX8_count 102 (.goto 4) 4 106 105 := by decide +kernel
theorem dX8_count_105 : jd cX8_count 105 (.iconst (-1)) 1 106 := by decide +kernel
theorem dX8_count_106 : jd cX8_count 106 .ireturn 1 107 := by decide +kernel
theorem dX8_finding_0 : jd cX8_finding 0 (.aload_n 0) 1 1 := by decide +kernel
theorem dX8_finding_1 : jd cX8_finding 1 (.getfield 66) 3 4 := by decide +kernel
theorem dX8_finding_4 : jd cX8_finding 4 .ireturn 1 5 := by decide +kernel
theorem dX8_findings_0 : jd cX8_findings 0 (.iload_n 1) 1 1 := by decide +kernel
theorem dX8_findings_1 : jd cX8_findings 1 (.iconst 1) 1 2 := by decide +kernel
theorem dX8_findings_2 : jd cX8_findings 2 (.iconst 5) 1 3 := by decide +kernel
theorem dX8_findings_3 : jd cX8_findings 3 (.invokestatic 76) 3 6 := by decide +kernel
theorem dX8_findings_6 : jt cX8_findings 6 (.ifCond .eq 12) 12 18 9 := by decide +kernel
theorem dX8_findings_9 : jd cX8_findings 9 (.aload_n 0) 1 10 := by decide +kernel
theorem dX8_findings_10 : jd cX8_findings 10 (.getfield 7) 3 13 := by decide +kernel
theorem dX8_findings_13 : jd cX8_findings 13 (.iload_n 1) 1 14 := by decide +kernel
theorem dX8_findings_14 : jd cX8_findings 14 .iaload 1 15 := by decide +kernel
theorem dX8_findings_15 : jt cX8_findings 15 (.goto 4) 4 19 18 := by decide +kernel
theorem dX8_findings_18 : jd cX8_findings 18 (.iconst (-1)) 1 19 := by decide +kernel
theorem dX8_findings_19 : jd cX8_findings 19 .ireturn 1 20 := by decide +kernel
theorem dX8_digest_0 : jd cX8_digest 0 (.ldc2_w 187) 3 3 := by decide +kernel
theorem dX8_digest_3 : jd cX8_digest 3 (.lstore_n 1) 1 4 := by decide +kernel
theorem dX8_digest_4 : jd cX8_digest 4 (.iconst 0) 1 5 := by decide +kernel
theorem dX8_digest_5 : jd cX8_digest 5 (.istore_n 3) 1 6 := by decide +kernel
theorem dX8_digest_6 : jd cX8_digest 6 (.iload_n 3) 1 7 := by decide +kernel
theorem dX8_digest_7 : jd cX8_digest 7 (.aload_n 0) 1 8 := by decide +kernel
theorem dX8_digest_8 : jd cX8_digest 8 (.getfield 73) 3 11 := by decide +kernel
theorem dX8_digest_11 : jt cX8_digest 11 (.if_icmp .ge 85) 85 96 14 := by decide +kernel
theorem dX8_digest_14 : jd cX8_digest 14 (.ldc2_w 189) 3 17 := by decide +kernel
theorem dX8_digest_17 : jd cX8_digest 17 (.lload_n 1) 1 18 := by decide +kernel
theorem dX8_digest_18 : jd cX8_digest 18 .lmul 1 19 := by decide +kernel
theorem dX8_digest_19 : jd cX8_digest 19 (.aload_n 0) 1 20 := by decide +kernel
theorem dX8_digest_20 : jd cX8_digest 20 (.getfield 13) 3 23 := by decide +kernel
theorem dX8_digest_23 : jd cX8_digest 23 (.iload_n 3) 1 24 := by decide +kernel
theorem dX8_digest_24 : jd cX8_digest 24 .iaload 1 25 := by decide +kernel
theorem dX8_digest_25 : jd cX8_digest 25 .i2l 1 26 := by decide +kernel
theorem dX8_digest_26 : jd cX8_digest 26 .ladd 1 27 := by decide +kernel
theorem dX8_digest_27 : jd cX8_digest 27 (.lstore_n 1) 1 28 := by decide +kernel
theorem dX8_digest_28 : jd cX8_digest 28 (.aload_n 0) 1 29 := by decide +kernel
theorem dX8_digest_29 : jd cX8_digest 29 (.getfield 16) 3 32 := by decide +kernel
theorem dX8_digest_32 : jd cX8_digest 32 (.iload_n 3) 1 33 := by decide +kernel
theorem dX8_digest_33 : jd cX8_digest 33 .baload 1 34 := by decide +kernel
theorem dX8_digest_34 : jt cX8_digest 34 (.ifCond .ne 11) 11 45 37 := by decide +kernel
theorem dX8_digest_37 : jd cX8_digest 37 (.ldc2_w 189) 3 40 := by decide +kernel
theorem dX8_digest_40 : jd cX8_digest 40 (.lload_n 1) 1 41 := by decide +kernel
theorem dX8_digest_41 : jd cX8_digest 41 .lmul 1 42 := by decide +kernel
theorem dX8_digest_42 : jd cX8_digest 42 (.lconst 1) 1 43 := by decide +kernel
theorem dX8_digest_43 : jd cX8_digest 43 .lsub 1 44 := by decide +kernel
theorem dX8_digest_44 : jd cX8_digest 44 (.lstore_n 1) 1 45 := by decide +kernel
theorem dX8_digest_45 : jd cX8_digest 45 (.iconst 0) 1 46 := by decide +kernel
theorem dX8_digest_46 : jd cX8_digest 46 (.istore 4) 2 48 := by decide +kernel
theorem dX8_digest_48 : jd cX8_digest 48 (.iload 4) 2 50 := by decide +kernel
theorem dX8_digest_50 : jd cX8_digest 50 (.bipush 60) 2 52 := by decide +kernel
theorem dX8_digest_52 : jt cX8_digest 52 (.if_icmp .ge 38) 38 90 55 := by decide +kernel
theorem dX8_digest_55 : jd cX8_digest 55 (.aload_n 0) 1 56 := by decide +kernel
theorem dX8_digest_56 : jd cX8_digest 56 (.getfield 16) 3 59 := by decide +kernel
theorem dX8_digest_59 : jd cX8_digest 59 (.iload_n 3) 1 60 := by decide +kernel
theorem dX8_digest_60 : jd cX8_digest 60 .baload 1 61 := by decide +kernel
theorem dX8_digest_61 : jt cX8_digest 61 (.ifCond .eq 29) 29 90 64 := by decide +kernel
theorem dX8_digest_64 : jd cX8_digest 64 (.ldc2_w 189) 3 67 := by decide +kernel
theorem dX8_digest_67 : jd cX8_digest 67 (.lload_n 1) 1 68 := by decide +kernel
theorem dX8_digest_68 : jd cX8_digest 68 .lmul 1 69 := by decide +kernel
theorem dX8_digest_69 : jd cX8_digest 69 (.aload_n 0) 1 70 := by decide +kernel
theorem dX8_digest_70 : jd cX8_digest 70 (.getfield 20) 3 73 := by decide +kernel
theorem dX8_digest_73 : jd cX8_digest 73 (.bipush 60) 2 75 := by decide +kernel
theorem dX8_digest_75 : jd cX8_digest 75 (.iload_n 3) 1 76 := by decide +kernel
theorem dX8_digest_76 : jd cX8_digest 76 .imul 1 77 := by decide +kernel
theorem dX8_digest_77 : jd cX8_digest 77 (.iload 4) 2 79 := by decide +kernel
theorem dX8_digest_79 : jd cX8_digest 79 .iadd 1 80 := by decide +kernel
theorem dX8_digest_80 : jd cX8_digest 80 .iaload 1 81 := by decide +kernel
theorem dX8_digest_81 : jd cX8_digest 81 .i2l 1 82 := by decide +kernel
theorem dX8_digest_82 : jd cX8_digest 82 .ladd 1 83 := by decide +kernel
theorem dX8_digest_83 : jd cX8_digest 83 (.lstore_n 1) 1 84 := by decide +kernel
theorem dX8_digest_84 : jd cX8_digest 84 (.iinc 4 1) 3 87 := by decide +kernel
theorem dX8_digest_87 : jt cX8_digest 87 (.goto (-39)) (-39) 48 90 := by decide +kernel
theorem dX8_digest_90 : jd cX8_digest 90 (.iinc 3 1) 3 93 := by decide +kernel
theorem dX8_digest_93 : jt cX8_digest 93 (.goto (-87)) (-87) 6 96 := by decide +kernel
theorem dX8_digest_96 : jd cX8_digest 96 (.iconst 0) 1 97 := by decide +kernel
theorem dX8_digest_97 : jd cX8_digest 97 (.istore_n 3) 1 98 := by decide +kernel
theorem dX8_digest_98 : jd cX8_digest 98 (.iload_n 3) 1 99 := by decide +kernel
theorem dX8_digest_99 : jd cX8_digest 99 (.bipush 60) 2 101 := by decide +kernel
theorem dX8_digest_101 : jt cX8_digest 101 (.if_icmp .ge 23) 23 124 104 := by decide +kernel
theorem dX8_digest_104 : jd cX8_digest 104 (.ldc2_w 189) 3 107 := by decide +kernel
theorem dX8_digest_107 : jd cX8_digest 107 (.lload_n 1) 1 108 := by decide +kernel
theorem dX8_digest_108 : jd cX8_digest 108 .lmul 1 109 := by decide +kernel
theorem dX8_digest_109 : jd cX8_digest 109 (.aload_n 0) 1 110 := by decide +kernel
theorem dX8_digest_110 : jd cX8_digest 110 (.getfield 23) 3 113 := by decide +kernel
theorem dX8_digest_113 : jd cX8_digest 113 (.iload_n 3) 1 114 := by decide +kernel
theorem dX8_digest_114 : jd cX8_digest 114 .iaload 1 115 := by decide +kernel
theorem dX8_digest_115 : jd cX8_digest 115 .i2l 1 116 := by decide +kernel
theorem dX8_digest_116 : jd cX8_digest 116 .ladd 1 117 := by decide +kernel
theorem dX8_digest_117 : jd cX8_digest 117 (.lstore_n 1) 1 118 := by decide +kernel
theorem dX8_digest_118 : jd cX8_digest 118 (.iinc 3 1) 3 121 := by decide +kernel
theorem dX8_digest_121 : jt cX8_digest 121 (.goto (-23)) (-23) 98 124 := by decide +kernel
theorem dX8_digest_124 : jd cX8_digest 124 (.iconst 0) 1 125 := by decide +kernel
theorem dX8_digest_125 : jd cX8_digest 125 (.istore_n 3) 1 126 := by decide +kernel
theorem dX8_digest_126 : jd cX8_digest 126 (.iload_n 3) 1 127 := by decide +kernel
theorem dX8_digest_127 : jd cX8_digest 127 (.aload_n 0) 1 128 := by decide +kernel
theorem dX8_digest_128 : jd cX8_digest 128 (.getfield 73) 3 131 := by decide +kernel
theorem dX8_digest_131 : jt cX8_digest 131 (.if_icmp .ge 23) 23 154 134 := by decide +kernel
theorem dX8_digest_134 : jd cX8_digest 134 (.ldc2_w 189) 3 137 := by decide +kernel
theorem dX8_digest_137 : jd cX8_digest 137 (.lload_n 1) 1 138 := by decide +kernel
theorem dX8_digest_138 : jd cX8_digest 138 .lmul 1 139 := by decide +kernel
theorem dX8_digest_139 : jd cX8_digest 139 (.aload_n 0) 1 140 := by decide +kernel
theorem dX8_digest_140 : jd cX8_digest 140 (.getfield 63) 3 143 := by decide +kernel
theorem dX8_digest_143 : jd cX8_digest 143 (.iload_n 3) 1 144 := by decide +kernel
theorem dX8_digest_144 : jd cX8_digest 144 .iaload 1 145 := by decide +kernel
theorem dX8_digest_145 : jd cX8_digest 145 .i2l 1 146 := by decide +kernel
theorem dX8_digest_146 : jd cX8_digest 146 .ladd 1 147 := by decide +kernel
theorem dX8_digest_147 : jd cX8_digest 147 (.lstore_n 1) 1 148 := by decide +kernel
theorem dX8_digest_148 : jd cX8_digest 148 (.iinc 3 1) 3 151 := by decide +kernel
theorem dX8_digest_151 : jt cX8_digest 151 (.goto (-25)) (-25) 126 154 := by decide +kernel
theorem dX8_digest_154 : jd cX8_digest 154 (.lload_n 1) 1 155 := by decide +kernel
theorem dX8_digest_155 : jd cX8_digest 155 .lreturn 1 156 := by decide +kernel
end
section
theorem dL_law_0 : jd cL_law 0 (.new 7) 3 3 := by decide +kernel
theorem dL_law_3 : jd cL_law 3 .dup 1 4 := by decide +kernel
theorem dL_law_4 : jd cL_law 4 (.invokespecial 9) 3 7 := by decide +kernel
theorem dL_law_7 : jd cL_law 7 (.astore_n 1) 1 8 := by decide +kernel
theorem dL_law_8 : jd cL_law 8 (.new 10) 3 11 := by decide +kernel
theorem dL_law_11 : jd cL_law 11 .dup 1 12 := by decide +kernel
theorem dL_law_12 : jd cL_law 12 (.invokespecial 12) 3 15 := by decide +kernel
theorem dL_law_15 : jd cL_law 15 (.astore_n 2) 1 16 := by decide +kernel
theorem dL_law_16 : jd cL_law 16 (.iconst 0) 1 17 := by decide +kernel
theorem dL_law_17 : jd cL_law 17 (.istore_n 3) 1 18 := by decide +kernel
theorem dL_law_18 : jd cL_law 18 (.iload_n 3) 1 19 := by decide +kernel
theorem dL_law_19 : jd cL_law 19 (.aload_n 0) 1 20 := by decide +kernel
theorem dL_law_20 : jd cL_law 20 .arraylength 1 21 := by decide +kernel
theorem dL_law_21 : jd cL_law 21 (.bipush 7) 2 23 := by decide +kernel
theorem dL_law_23 : jd cL_law 23 .isub 1 24 := by decide +kernel
theorem dL_law_24 : jt cL_law 24 (.if_icmp .gt 1403) 1403 1427 27 := by decide +kernel
theorem dL_law_27 : jd cL_law 27 (.aload_n 0) 1 28 := by decide +kernel
theorem dL_law_28 : jd cL_law 28 (.iload_n 3) 1 29 := by decide +kernel
theorem dL_law_29 : jd cL_law 29 .iaload 1 30 := by decide +kernel
theorem dL_law_30 : jd cL_law 30 (.bipush 63) 2 32 := by decide +kernel
theorem dL_law_32 : jd cL_law 32 .iand 1 33 := by decide +kernel
theorem dL_law_33 : jd cL_law 33 (.tableswitch 1388 0 34 #[155, 178, 211, 244, 267, 310, 343, 376, 399, 462, 495, 518, 531, 554, 577, 620, 663, 716, 779, 832, 875, 898, 931, 974, 1049, 1124, 1199, 1252, 1275, 1288, 1301, 1315, 1338, 1351, 1374]) 155 188 := by decide +kernel
theorem dL_law_188 : jd cL_law 188 (.aload_n 1) 1 189 := by decide +kernel
theorem dL_law_189 : jd cL_law 189 (.aload_n 0) 1 190 := by decide +kernel
theorem dL_law_190 : jd cL_law 190 (.iload_n 3) 1 191 := by decide +kernel
theorem dL_law_191 : jd cL_law 191 (.iconst 1) 1 192 := by decide +kernel
theorem dL_law_192 : jd cL_law 192 .iadd 1 193 := by decide +kernel
theorem dL_law_193 : jd cL_law 193 .iaload 1 194 := by decide +kernel
theorem dL_law_194 : jd cL_law 194 (.invokevirtual 13) 3 197 := by decide +kernel
theorem dL_law_197 : jd cL_law 197 (.aload_n 2) 1 198 := by decide +kernel
theorem dL_law_198 : jd cL_law 198 (.aload_n 0) 1 199 := by decide +kernel
theorem dL_law_199 : jd cL_law 199 (.iload_n 3) 1 200 := by decide +kernel
theorem dL_law_200 : jd cL_law 200 (.iconst 1) 1 201 := by decide +kernel
theorem dL_law_201 : jd cL_law 201 .iadd 1 202 := by decide +kernel
theorem dL_law_202 : jd cL_law 202 .iaload 1 203 := by decide +kernel
theorem dL_law_203 : jd cL_law 203 (.invokevirtual 17) 3 206 := by decide +kernel
theorem dL_law_206 : jt cL_law 206 (.if_icmp .eq 1215) 1215 1421 209 := by decide +kernel
theorem dL_law_209 : jd cL_law 209 (.iconst 0) 1 210 := by decide +kernel
theorem dL_law_210 : jd cL_law 210 .ireturn 1 211 := by decide +kernel
theorem dL_law_211 : jd cL_law 211 (.aload_n 1) 1 212 := by decide +kernel
theorem dL_law_212 : jd cL_law 212 (.aload_n 0) 1 213 := by decide +kernel
theorem dL_law_213 : jd cL_law 213 (.iload_n 3) 1 214 := by decide +kernel
theorem dL_law_214 : jd cL_law 214 (.iconst 1) 1 215 := by decide +kernel
theorem dL_law_215 : jd cL_law 215 .iadd 1 216 := by decide +kernel
theorem dL_law_216 : jd cL_law 216 .iaload 1 217 := by decide +kernel
theorem dL_law_217 : jd cL_law 217 (.aload_n 0) 1 218 := by decide +kernel
theorem dL_law_218 : jd cL_law 218 (.iload_n 3) 1 219 := by decide +kernel
theorem dL_law_219 : jd cL_law 219 (.iconst 2) 1 220 := by decide +kernel
theorem dL_law_220 : jd cL_law 220 .iadd 1 221 := by decide +kernel
theorem dL_law_221 : jd cL_law 221 .iaload 1 222 := by decide +kernel
theorem dL_law_222 : jd cL_law 222 (.invokevirtual 18) 3 225 := by decide +kernel
theorem dL_law_225 : jd cL_law 225 (.aload_n 2) 1 226 := by decide +kernel
theorem dL_law_226 : jd cL_law 226 (.aload_n 0) 1 227 := by decide +kernel
theorem dL_law_227 : jd cL_law 227 (.iload_n 3) 1 228 := by decide +kernel
theorem dL_law_228 : jd cL_law 228 (.iconst 1) 1 229 := by decide +kernel
theorem dL_law_229 : jd cL_law 229 .iadd 1 230 := by decide +kernel
theorem dL_law_230 : jd cL_law 230 .iaload 1 231 := by decide +kernel
theorem dL_law_231 : jd cL_law 231 (.aload_n 0) 1 232 := by decide +kernel
theorem dL_law_232 : jd cL_law 232 (.iload_n 3) 1 233 := by decide +kernel
theorem dL_law_233 : jd cL_law 233 (.iconst 2) 1 234 := by decide +kernel
theorem dL_law_234 : jd cL_law 234 .iadd 1 235 := by decide +kernel
theorem dL_law_235 : jd cL_law 235 .iaload 1 236 := by decide +kernel
theorem dL_law_236 : jd cL_law 236 (.invokevirtual 22) 3 239 := by decide +kernel
theorem dL_law_239 : jt cL_law 239 (.if_icmp .eq 1182) 1182 1421 242 := by decide +kernel
theorem dL_law_242 : jd cL_law 242 (.iconst 0) 1 243 := by decide +kernel
theorem dL_law_243 : jd cL_law 243 .ireturn 1 244 := by decide +kernel
theorem dL_law_244 : jd cL_law 244 (.aload_n 1) 1 245 := by decide +kernel
theorem dL_law_245 : jd cL_law 245 (.aload_n 0) 1 246 := by decide +kernel
theorem dL_law_246 : jd cL_law 246 (.iload_n 3) 1 247 := by decide +kernel
theorem dL_law_247 : jd cL_law 247 (.iconst 1) 1 248 := by decide +kernel
theorem dL_law_248 : jd cL_law 248 .iadd 1 249 := by decide +kernel
theorem dL_law_249 : jd cL_law 249 .iaload 1 250 := by decide +kernel
theorem dL_law_250 : jd cL_law 250 (.aload_n 0) 1 251 := by decide +kernel
theorem dL_law_251 : jd cL_law 251 (.iload_n 3) 1 252 := by decide +kernel
theorem dL_law_252 : jd cL_law 252 (.iconst 2) 1 253 := by decide +kernel
theorem dL_law_253 : jd cL_law 253 .iadd 1 254 := by decide +kernel
theorem dL_law_254 : jd cL_law 254 .iaload 1 255 := by decide +kernel
theorem dL_law_255 : jd cL_law 255 (.invokevirtual 23) 3 258 := by decide +kernel
theorem dL_law_258 : jd cL_law 258 (.aload_n 2) 1 259 := by decide +kernel
theorem dL_law_259 : jd cL_law 259 (.aload_n 0) 1 260 := by decide +kernel
theorem dL_law_260 : jd cL_law 260 (.iload_n 3) 1 261 := by decide +kernel
theorem dL_law_261 : jd cL_law 261 (.iconst 1) 1 262 := by decide +kernel
theorem dL_law_262 : jd cL_law 262 .iadd 1 263 := by decide +kernel
theorem dL_law_263 : jd cL_law 263 .iaload 1 264 := by decide +kernel
theorem dL_law_264 : jd cL_law 264 (.aload_n 0) 1 265 := by decide +kernel
theorem dL_law_265 : jd cL_law 265 (.iload_n 3) 1 266 := by decide +kernel
theorem dL_law_266 : jd cL_law 266 (.iconst 2) 1 267 := by decide +kernel
theorem dL_law_267 : jd cL_law 267 .iadd 1 268 := by decide +kernel
theorem dL_law_268 : jd cL_law 268 .iaload 1 269 := by decide +kernel
theorem dL_law_269 : jd cL_law 269 (.invokevirtual 26) 3 272 := by decide +kernel
theorem dL_law_272 : jt cL_law 272 (.if_icmp .eq 1149) 1149 1421 275 := by decide +kernel
theorem dL_law_275 : jd cL_law 275 (.iconst 0) 1 276 := by decide +kernel
theorem dL_law_276 : jd cL_law 276 .ireturn 1 277 := by decide +kernel
theorem dL_law_277 : jd cL_law 277 (.aload_n 1) 1 278 := by decide +kernel
theorem dL_law_278 : jd cL_law 278 (.aload_n 0) 1 279 := by decide +kernel
theorem dL_law_279 : jd cL_law 279 (.iload_n 3) 1 280 := by decide +kernel
theorem dL_law_280 : jd cL_law 280 (.iconst 1) 1 281 := by decide +kernel
theorem dL_law_281 : jd cL_law 281 .iadd 1 282 := by decide +kernel
theorem dL_law_282 : jd cL_law 282 .iaload 1 283 := by decide +kernel
theorem dL_law_283 : jd cL_law 283 (.invokevirtual 27) 3 286 := by decide +kernel
theorem dL_law_286 : jd cL_law 286 (.aload_n 2) 1 287 := by decide +kernel
theorem dL_law_287 : jd cL_law 287 (.aload_n 0) 1 288 := by decide +kernel
theorem dL_law_288 : jd cL_law 288 (.iload_n 3) 1 289 := by decide +kernel
theorem dL_law_289 : jd cL_law 289 (.iconst 1) 1 290 := by decide +kernel
theorem dL_law_290 : jd cL_law 290 .iadd 1 291 := by decide +kernel
theorem dL_law_291 : jd cL_law 291 .iaload 1 292 := by decide +kernel
theorem dL_law_292 : jd cL_law 292 (.invokevirtual 30) 3 295 := by decide +kernel
theorem dL_law_295 : jt cL_law 295 (.if_icmp .eq 1126) 1126 1421 298 := by decide +kernel
theorem dL_law_298 : jd cL_law 298 (.iconst 0) 1 299 := by decide +kernel
theorem dL_law_299 : jd cL_law 299 .ireturn 1 300 := by decide +kernel
theorem dL_law_300 : jd cL_law 300 (.aload_n 1) 1 301 := by decide +kernel
theorem dL_law_301 : jd cL_law 301 (.aload_n 0) 1 302 := by decide +kernel
theorem dL_law_302 : jd cL_law 302 (.iload_n 3) 1 303 := by decide +kernel
theorem dL_law_303 : jd cL_law 303 (.iconst 1) 1 304 := by decide +kernel
theorem dL_law_304 : jd cL_law 304 .iadd 1 305 := by decide +kernel
theorem dL_law_305 : jd cL_law 305 .iaload 1 306 := by decide +kernel
theorem dL_law_306 : jd cL_law 306 (.aload_n 0) 1 307 := by decide +kernel
theorem dL_law_307 : jd cL_law 307 (.iload_n 3) 1 308 := by decide +kernel
theorem dL_law_308 : jd cL_law 308 (.iconst 2) 1 309 := by decide +kernel
theorem dL_law_309 : jd cL_law 309 .iadd 1 310 := by decide +kernel
theorem dL_law_310 : jd cL_law 310 .iaload 1 311 := by decide +kernel
theorem dL_law_311 : jd cL_law 311 (.aload_n 0) 1 312 := by decide +kernel
theorem dL_law_312 : jd cL_law 312 (.iload_n 3) 1 313 := by decide +kernel
theorem dL_law_313 : jd cL_law 313 (.iconst 3) 1 314 := by decide +kernel
theorem dL_law_314 : jd cL_law 314 .iadd 1 315 := by decide +kernel
theorem dL_law_315 : jd cL_law 315 .iaload 1 316 := by decide +kernel
theorem dL_law_316 : jd cL_law 316 (.invokevirtual 31) 3 319 := by decide +kernel
theorem dL_law_319 : jd cL_law 319 (.aload_n 2) 1 320 := by decide +kernel
theorem dL_law_320 : jd cL_law 320 (.aload_n 0) 1 321 := by decide +kernel
theorem dL_law_321 : jd cL_law 321 (.iload_n 3) 1 322 := by decide +kernel
theorem dL_law_322 : jd cL_law 322 (.iconst 1) 1 323 := by decide +kernel
theorem dL_law_323 : jd cL_law 323 .iadd 1 324 := by decide +kernel
theorem dL_law_324 : jd cL_law 324 .iaload 1 325 := by decide +kernel
theorem dL_law_325 : jd cL_law 325 (.aload_n 0) 1 326 := by decide +kernel
theorem dL_law_326 : jd cL_law 326 (.iload_n 3) 1 327 := by decide +kernel
theorem dL_law_327 : jd cL_law 327 (.iconst 2) 1 328 := by decide +kernel
theorem dL_law_328 : jd cL_law 328 .iadd 1 329 := by decide +kernel
theorem dL_law_329 : jd cL_law 329 .iaload 1 330 := by decide +kernel
theorem dL_law_330 : jd cL_law 330 (.aload_n 0) 1 331 := by decide +kernel
theorem dL_law_331 : jd cL_law 331 (.iload_n 3) 1 332 := by decide +kernel
theorem dL_law_332 : jd cL_law 332 (.iconst 3) 1 333 := by decide +kernel
theorem dL_law_333 : jd cL_law 333 .iadd 1 334 := by decide +kernel
theorem dL_law_334 : jd cL_law 334 .iaload 1 335 := by decide +kernel
theorem dL_law_335 : jd cL_law 335 (.invokevirtual 35) 3 338 := by decide +kernel
theorem dL_law_338 : jt cL_law 338 (.if_icmp .eq 1083) 1083 1421 341 := by decide +kernel
theorem dL_law_341 : jd cL_law 341 (.iconst 0) 1 342 := by decide +kernel
theorem dL_law_342 : jd cL_law 342 .ireturn 1 343 := by decide +kernel
theorem dL_law_343 : jd cL_law 343 (.aload_n 1) 1 344 := by decide +kernel
theorem dL_law_344 : jd cL_law 344 (.aload_n 0) 1 345 := by decide +kernel
theorem dL_law_345 : jd cL_law 345 (.iload_n 3) 1 346 := by decide +kernel
theorem dL_law_346 : jd cL_law 346 (.iconst 1) 1 347 := by decide +kernel
theorem dL_law_347 : jd cL_law 347 .iadd 1 348 := by decide +kernel
theorem dL_law_348 : jd cL_law 348 .iaload 1 349 := by decide +kernel
theorem dL_law_349 : jd cL_law 349 (.aload_n 0) 1 350 := by decide +kernel
theorem dL_law_350 : jd cL_law 350 (.iload_n 3) 1 351 := by decide +kernel
theorem dL_law_351 : jd cL_law 351 (.iconst 2) 1 352 := by decide +kernel
theorem dL_law_352 : jd cL_law 352 .iadd 1 353 := by decide +kernel
theorem dL_law_353 : jd cL_law 353 .iaload 1 354 := by decide +kernel
theorem dL_law_354 : jd cL_law 354 (.invokevirtual 36) 3 357 := by decide +kernel
theorem dL_law_357 : jd cL_law 357 (.aload_n 2) 1 358 := by decide +kernel
theorem dL_law_358 : jd cL_law 358 (.aload_n 0) 1 359 := by decide +kernel
theorem dL_law_359 : jd cL_law 359 (.iload_n 3) 1 360 := by decide +kernel
theorem dL_law_360 : jd cL_law 360 (.iconst 1) 1 361 := by decide +kernel
theorem dL_law_361 : jd cL_law 361 .iadd 1 362 := by decide +kernel
theorem dL_law_362 : jd cL_law 362 .iaload 1 363 := by decide +kernel
theorem dL_law_363 : jd cL_law 363 (.aload_n 0) 1 364 := by decide +kernel
theorem dL_law_364 : jd cL_law 364 (.iload_n 3) 1 365 := by decide +kernel
theorem dL_law_365 : jd cL_law 365 (.iconst 2) 1 366 := by decide +kernel
theorem dL_law_366 : jd cL_law 366 .iadd 1 367 := by decide +kernel
theorem dL_law_367 : jd cL_law 367 .iaload 1 368 := by decide +kernel
theorem dL_law_368 : jd cL_law 368 (.invokevirtual 39) 3 371 := by decide +kernel
theorem dL_law_371 : jt cL_law 371 (.if_icmp .eq 1050) 1050 1421 374 := by decide +kernel
theorem dL_law_374 : jd cL_law 374 (.iconst 0) 1 375 := by decide +kernel
theorem dL_law_375 : jd cL_law 375 .ireturn 1 376 := by decide +kernel
theorem dL_law_376 : jd cL_law 376 (.aload_n 1) 1 377 := by decide +kernel
theorem dL_law_377 : jd cL_law 377 (.aload_n 0) 1 378 := by decide +kernel
theorem dL_law_378 : jd cL_law 378 (.iload_n 3) 1 379 := by decide +kernel
theorem dL_law_379 : jd cL_law 379 (.iconst 1) 1 380 := by decide +kernel
theorem dL_law_380 : jd cL_law 380 .iadd 1 381 := by decide +kernel
theorem dL_law_381 : jd cL_law 381 .iaload 1 382 := by decide +kernel
theorem dL_law_382 : jd cL_law 382 (.aload_n 0) 1 383 := by decide +kernel
theorem dL_law_383 : jd cL_law 383 (.iload_n 3) 1 384 := by decide +kernel
theorem dL_law_384 : jd cL_law 384 (.iconst 2) 1 385 := by decide +kernel
theorem dL_law_385 : jd cL_law 385 .iadd 1 386 := by decide +kernel
theorem dL_law_386 : jd cL_law 386 .iaload 1 387 := by decide +kernel
theorem dL_law_387 : jd cL_law 387 (.invokevirtual 40) 3 390 := by decide +kernel
theorem dL_law_390 : jd cL_law 390 (.aload_n 2) 1 391 := by decide +kernel
theorem dL_law_391 : jd cL_law 391 (.aload_n 0) 1 392 := by decide +kernel
theorem dL_law_392 : jd cL_law 392 (.iload_n 3) 1 393 := by decide +kernel
theorem dL_law_393 : jd cL_law 393 (.iconst 1) 1 394 := by decide +kernel
theorem dL_law_394 : jd cL_law 394 .iadd 1 395 := by decide +kernel
theorem dL_law_395 : jd cL_law 395 .iaload 1 396 := by decide +kernel
theorem dL_law_396 : jd cL_law 396 (.aload_n 0) 1 397 := by decide +kernel
theorem dL_law_397 : jd cL_law 397 (.iload_n 3) 1 398 := by decide +kernel
theorem dL_law_398 : jd cL_law 398 (.iconst 2) 1 399 := by decide +kernel
theorem dL_law_399 : jd cL_law 399 .iadd 1 400 := by decide +kernel
theorem dL_law_400 : jd cL_law 400 .iaload 1 401 := by decide +kernel
theorem dL_law_401 : jd cL_law 401 (.invokevirtual 43) 3 404 := by decide +kernel
theorem dL_law_404 : jt cL_law 404 (.if_icmp .eq 1017) 1017 1421 407 := by decide +kernel
theorem dL_law_407 : jd cL_law 407 (.iconst 0) 1 408 := by decide +kernel
theorem dL_law_408 : jd cL_law 408 .ireturn 1 409 := by decide +kernel
theorem dL_law_409 : jd cL_law 409 (.aload_n 1) 1 410 := by decide +kernel
theorem dL_law_410 : jd cL_law 410 (.aload_n 0) 1 411 := by decide +kernel
theorem dL_law_411 : jd cL_law 411 (.iload_n 3) 1 412 := by decide +kernel
theorem dL_law_412 : jd cL_law 412 (.iconst 1) 1 413 := by decide +kernel
theorem dL_law_413 : jd cL_law 413 .iadd 1 414 := by decide +kernel
theorem dL_law_414 : jd cL_law 414 .iaload 1 415 := by decide +kernel
theorem dL_law_415 : jd cL_law 415 (.invokevirtual 44) 3 418 := by decide +kernel
theorem dL_law_418 : jd cL_law 418 (.aload_n 2) 1 419 := by decide +kernel
theorem dL_law_419 : jd cL_law 419 (.aload_n 0) 1 420 := by decide +kernel
theorem dL_law_420 : jd cL_law 420 (.iload_n 3) 1 421 := by decide +kernel
theorem dL_law_421 : jd cL_law 421 (.iconst 1) 1 422 := by decide +kernel
theorem dL_law_422 : jd cL_law 422 .iadd 1 423 := by decide +kernel
theorem dL_law_423 : jd cL_law 423 .iaload 1 424 := by decide +kernel
theorem dL_law_424 : jd cL_law 424 (.invokevirtual 47) 3 427 := by decide +kernel
theorem dL_law_427 : jt cL_law 427 (.if_icmp .eq 994) 994 1421 430 := by decide +kernel
theorem dL_law_430 : jd cL_law 430 (.iconst 0) 1 431 := by decide +kernel
theorem dL_law_431 : jd cL_law 431 .ireturn 1 432 := by decide +kernel
theorem dL_law_432 : jd cL_law 432 (.aload_n 1) 1 433 := by decide +kernel
theorem dL_law_433 : jd cL_law 433 (.aload_n 0) 1 434 := by decide +kernel
theorem dL_law_434 : jd cL_law 434 (.iload_n 3) 1 435 := by decide +kernel
theorem dL_law_435 : jd cL_law 435 (.iconst 1) 1 436 := by decide +kernel
theorem dL_law_436 : jd cL_law 436 .iadd 1 437 := by decide +kernel
theorem dL_law_437 : jd cL_law 437 .iaload 1 438 := by decide +kernel
theorem dL_law_438 : jd cL_law 438 (.aload_n 0) 1 439 := by decide +kernel
theorem dL_law_439 : jd cL_law 439 (.iload_n 3) 1 440 := by decide +kernel
theorem dL_law_440 : jd cL_law 440 (.iconst 2) 1 441 := by decide +kernel
theorem dL_law_441 : jd cL_law 441 .iadd 1 442 := by decide +kernel
theorem dL_law_442 : jd cL_law 442 .iaload 1 443 := by decide +kernel
theorem dL_law_443 : jd cL_law 443 (.aload_n 0) 1 444 := by decide +kernel
theorem dL_law_444 : jd cL_law 444 (.iload_n 3) 1 445 := by decide +kernel
theorem dL_law_445 : jd cL_law 445 (.iconst 3) 1 446 := by decide +kernel
theorem dL_law_446 : jd cL_law 446 .iadd 1 447 := by decide +kernel
theorem dL_law_447 : jd cL_law 447 .iaload 1 448 := by decide +kernel
theorem dL_law_448 : jd cL_law 448 (.aload_n 0) 1 449 := by decide +kernel
theorem dL_law_449 : jd cL_law 449 (.iload_n 3) 1 450 := by decide +kernel
theorem dL_law_450 : jd cL_law 450 (.iconst 4) 1 451 := by decide +kernel
theorem dL_law_451 : jd cL_law 451 .iadd 1 452 := by decide +kernel
theorem dL_law_452 : jd cL_law 452 .iaload 1 453 := by decide +kernel
theorem dL_law_453 : jd cL_law 453 (.aload_n 0) 1 454 := by decide +kernel
theorem dL_law_454 : jd cL_law 454 (.iload_n 3) 1 455 := by decide +kernel
theorem dL_law_455 : jd cL_law 455 (.iconst 5) 1 456 := by decide +kernel
theorem dL_law_456 : jd cL_law 456 .iadd 1 457 := by decide +kernel
theorem dL_law_457 : jd cL_law 457 .iaload 1 458 := by decide +kernel
theorem dL_law_458 : jd cL_law 458 (.invokevirtual 48) 3 461 := by decide +kernel
theorem dL_law_461 : jd cL_law 461 (.aload_n 2) 1 462 := by decide +kernel
theorem dL_law_462 : jd cL_law 462 (.aload_n 0) 1 463 := by decide +kernel
theorem dL_law_463 : jd cL_law 463 (.iload_n 3) 1 464 := by decide +kernel
theorem dL_law_464 : jd cL_law 464 (.iconst 1) 1 465 := by decide +kernel
theorem dL_law_465 : jd cL_law 465 .iadd 1 466 := by decide +kernel
theorem dL_law_466 : jd cL_law 466 .iaload 1 467 := by decide +kernel
theorem dL_law_467 : jd cL_law 467 (.aload_n 0) 1 468 := by decide +kernel
theorem dL_law_468 : jd cL_law 468 (.iload_n 3) 1 469 := by decide +kernel
theorem dL_law_469 : jd cL_law 469 (.iconst 2) 1 470 := by decide +kernel
theorem dL_law_470 : jd cL_law 470 .iadd 1 471 := by decide +kernel
theorem dL_law_471 : jd cL_law 471 .iaload 1 472 := by decide +kernel
theorem dL_law_472 : jd cL_law 472 (.aload_n 0) 1 473 := by decide +kernel
theorem dL_law_473 : jd cL_law 473 (.iload_n 3) 1 474 := by decide +kernel
theorem dL_law_474 : jd cL_law 474 (.iconst 3) 1 475 := by decide +kernel
theorem dL_law_475 : jd cL_law 475 .iadd 1 476 := by decide +kernel
theorem dL_law_476 : jd cL_law 476 .iaload 1 477 := by decide +kernel
theorem dL_law_477 : jd cL_law 477 (.aload_n 0) 1 478 := by decide +kernel
theorem dL_law_478 : jd cL_law 478 (.iload_n 3) 1 479 := by decide +kernel
theorem dL_law_479 : jd cL_law 479 (.iconst 4) 1 480 := by decide +kernel
theorem dL_law_480 : jd cL_law 480 .iadd 1 481 := by decide +kernel
theorem dL_law_481 : jd cL_law 481 .iaload 1 482 := by decide +kernel
theorem dL_law_482 : jd cL_law 482 (.aload_n 0) 1 483 := by decide +kernel
theorem dL_law_483 : jd cL_law 483 (.iload_n 3) 1 484 := by decide +kernel
theorem dL_law_484 : jd cL_law 484 (.iconst 5) 1 485 := by decide +kernel
theorem dL_law_485 : jd cL_law 485 .iadd 1 486 := by decide +kernel
theorem dL_law_486 : jd cL_law 486 .iaload 1 487 := by decide +kernel
theorem dL_law_487 : jd cL_law 487 (.invokevirtual 52) 3 490 := by decide +kernel
theorem dL_law_490 : jt cL_law 490 (.if_icmp .eq 931) 931 1421 493 := by decide +kernel
theorem dL_law_493 : jd cL_law 493 (.iconst 0) 1 494 := by decide +kernel
theorem dL_law_494 : jd cL_law 494 .ireturn 1 495 := by decide +kernel
theorem dL_law_495 : jd cL_law 495 (.aload_n 1) 1 496 := by decide +kernel
theorem dL_law_496 : jd cL_law 496 (.aload_n 0) 1 497 := by decide +kernel
theorem dL_law_497 : jd cL_law 497 (.iload_n 3) 1 498 := by decide +kernel
theorem dL_law_498 : jd cL_law 498 (.iconst 1) 1 499 := by decide +kernel
theorem dL_law_499 : jd cL_law 499 .iadd 1 500 := by decide +kernel
theorem dL_law_500 : jd cL_law 500 .iaload 1 501 := by decide +kernel
theorem dL_law_501 : jd cL_law 501 (.aload_n 0) 1 502 := by decide +kernel
theorem dL_law_502 : jd cL_law 502 (.iload_n 3) 1 503 := by decide +kernel
theorem dL_law_503 : jd cL_law 503 (.iconst 2) 1 504 := by decide +kernel
theorem dL_law_504 : jd cL_law 504 .iadd 1 505 := by decide +kernel
theorem dL_law_505 : jd cL_law 505 .iaload 1 506 := by decide +kernel
theorem dL_law_506 : jd cL_law 506 (.invokevirtual 53) 3 509 := by decide +kernel
theorem dL_law_509 : jd cL_law 509 (.aload_n 2) 1 510 := by decide +kernel
theorem dL_law_510 : jd cL_law 510 (.aload_n 0) 1 511 := by decide +kernel
theorem dL_law_511 : jd cL_law 511 (.iload_n 3) 1 512 := by decide +kernel
theorem dL_law_512 : jd cL_law 512 (.iconst 1) 1 513 := by decide +kernel
theorem dL_law_513 : jd cL_law 513 .iadd 1 514 := by decide +kernel
theorem dL_law_514 : jd cL_law 514 .iaload 1 515 := by decide +kernel
theorem dL_law_515 : jd cL_law 515 (.aload_n 0) 1 516 := by decide +kernel
theorem dL_law_516 : jd cL_law 516 (.iload_n 3) 1 517 := by decide +kernel
theorem dL_law_517 : jd cL_law 517 (.iconst 2) 1 518 := by decide +kernel
theorem dL_law_518 : jd cL_law 518 .iadd 1 519 := by decide +kernel
theorem dL_law_519 : jd cL_law 519 .iaload 1 520 := by decide +kernel
theorem dL_law_520 : jd cL_law 520 (.invokevirtual 56) 3 523 := by decide +kernel
theorem dL_law_523 : jt cL_law 523 (.if_icmp .eq 898) 898 1421 526 := by decide +kernel
theorem dL_law_526 : jd cL_law 526 (.iconst 0) 1 527 := by decide +kernel
theorem dL_law_527 : jd cL_law 527 .ireturn 1 528 := by decide +kernel
theorem dL_law_528 : jd cL_law 528 (.aload_n 1) 1 529 := by decide +kernel
theorem dL_law_529 : jd cL_law 529 (.aload_n 0) 1 530 := by decide +kernel
theorem dL_law_530 : jd cL_law 530 (.iload_n 3) 1 531 := by decide +kernel
theorem dL_law_531 : jd cL_law 531 (.iconst 1) 1 532 := by decide +kernel
theorem dL_law_532 : jd cL_law 532 .iadd 1 533 := by decide +kernel
theorem dL_law_533 : jd cL_law 533 .iaload 1 534 := by decide +kernel
theorem dL_law_534 : jd cL_law 534 (.invokevirtual 57) 3 537 := by decide +kernel
theorem dL_law_537 : jd cL_law 537 (.aload_n 2) 1 538 := by decide +kernel
theorem dL_law_538 : jd cL_law 538 (.aload_n 0) 1 539 := by decide +kernel
theorem dL_law_539 : jd cL_law 539 (.iload_n 3) 1 540 := by decide +kernel
theorem dL_law_540 : jd cL_law 540 (.iconst 1) 1 541 := by decide +kernel
theorem dL_law_541 : jd cL_law 541 .iadd 1 542 := by decide +kernel
theorem dL_law_542 : jd cL_law 542 .iaload 1 543 := by decide +kernel
theorem dL_law_543 : jd cL_law 543 (.invokevirtual 60) 3 546 := by decide +kernel
theorem dL_law_546 : jt cL_law 546 (.if_icmp .eq 875) 875 1421 549 := by decide +kernel
theorem dL_law_549 : jd cL_law 549 (.iconst 0) 1 550 := by decide +kernel
theorem dL_law_550 : jd cL_law 550 .ireturn 1 551 := by decide +kernel
theorem dL_law_551 : jd cL_law 551 (.aload_n 1) 1 552 := by decide +kernel
theorem dL_law_552 : jd cL_law 552 (.invokevirtual 61) 3 555 := by decide +kernel
theorem dL_law_555 : jd cL_law 555 (.aload_n 2) 1 556 := by decide +kernel
theorem dL_law_556 : jd cL_law 556 (.invokevirtual 65) 3 559 := by decide +kernel
theorem dL_law_559 : jt cL_law 559 (.if_icmp .eq 862) 862 1421 562 := by decide +kernel
theorem dL_law_562 : jd cL_law 562 (.iconst 0) 1 563 := by decide +kernel
theorem dL_law_563 : jd cL_law 563 .ireturn 1 564 := by decide +kernel
theorem dL_law_564 : jd cL_law 564 (.aload_n 1) 1 565 := by decide +kernel
theorem dL_law_565 : jd cL_law 565 (.aload_n 0) 1 566 := by decide +kernel
theorem dL_law_566 : jd cL_law 566 (.iload_n 3) 1 567 := by decide +kernel
theorem dL_law_567 : jd cL_law 567 (.iconst 1) 1 568 := by decide +kernel
theorem dL_law_568 : jd cL_law 568 .iadd 1 569 := by decide +kernel
theorem dL_law_569 : jd cL_law 569 .iaload 1 570 := by decide +kernel
theorem dL_law_570 : jd cL_law 570 (.invokevirtual 66) 3 573 := by decide +kernel
theorem dL_law_573 : jd cL_law 573 (.aload_n 2) 1 574 := by decide +kernel
theorem dL_law_574 : jd cL_law 574 (.aload_n 0) 1 575 := by decide +kernel
theorem dL_law_575 : jd cL_law 575 (.iload_n 3) 1 576 := by decide +kernel
theorem dL_law_576 : jd cL_law 576 (.iconst 1) 1 577 := by decide +kernel
theorem dL_law_577 : jd cL_law 577 .iadd 1 578 := by decide +kernel
theorem dL_law_578 : jd cL_law 578 .iaload 1 579 := by decide +kernel
theorem dL_law_579 : jd cL_law 579 (.invokevirtual 69) 3 582 := by decide +kernel
theorem dL_law_582 : jt cL_law 582 (.if_icmp .eq 839) 839 1421 585 := by decide +kernel
theorem dL_law_585 : jd cL_law 585 (.iconst 0) 1 586 := by decide +kernel
theorem dL_law_586 : jd cL_law 586 .ireturn 1 587 := by decide +kernel
theorem dL_law_587 : jd cL_law 587 (.aload_n 1) 1 588 := by decide +kernel
theorem dL_law_588 : jd cL_law 588 (.aload_n 0) 1 589 := by decide +kernel
theorem dL_law_589 : jd cL_law 589 (.iload_n 3) 1 590 := by decide +kernel
theorem dL_law_590 : jd cL_law 590 (.iconst 1) 1 591 := by decide +kernel
theorem dL_law_591 : jd cL_law 591 .iadd 1 592 := by decide +kernel
theorem dL_law_592 : jd cL_law 592 .iaload 1 593 := by decide +kernel
theorem dL_law_593 : jd cL_law 593 (.invokevirtual 70) 3 596 := by decide +kernel
theorem dL_law_596 : jd cL_law 596 (.aload_n 2) 1 597 := by decide +kernel
theorem dL_law_597 : jd cL_law 597 (.aload_n 0) 1 598 := by decide +kernel
theorem dL_law_598 : jd cL_law 598 (.iload_n 3) 1 599 := by decide +kernel
theorem dL_law_599 : jd cL_law 599 (.iconst 1) 1 600 := by decide +kernel
theorem dL_law_600 : jd cL_law 600 .iadd 1 601 := by decide +kernel
theorem dL_law_601 : jd cL_law 601 .iaload 1 602 := by decide +kernel
theorem dL_law_602 : jd cL_law 602 (.invokevirtual 73) 3 605 := by decide +kernel
theorem dL_law_605 : jt cL_law 605 (.if_icmp .eq 816) 816 1421 608 := by decide +kernel
theorem dL_law_608 : jd cL_law 608 (.iconst 0) 1 609 := by decide +kernel
theorem dL_law_609 : jd cL_law 609 .ireturn 1 610 := by decide +kernel
theorem dL_law_610 : jd cL_law 610 (.aload_n 1) 1 611 := by decide +kernel
theorem dL_law_611 : jd cL_law 611 (.aload_n 0) 1 612 := by decide +kernel
theorem dL_law_612 : jd cL_law 612 (.iload_n 3) 1 613 := by decide +kernel
theorem dL_law_613 : jd cL_law 613 (.iconst 1) 1 614 := by decide +kernel
theorem dL_law_614 : jd cL_law 614 .iadd 1 615 := by decide +kernel
theorem dL_law_615 : jd cL_law 615 .iaload 1 616 := by decide +kernel
theorem dL_law_616 : jd cL_law 616 (.aload_n 0) 1 617 := by decide +kernel
theorem dL_law_617 : jd cL_law 617 (.iload_n 3) 1 618 := by decide +kernel
theorem dL_law_618 : jd cL_law 618 (.iconst 2) 1 619 := by decide +kernel
theorem dL_law_619 : jd cL_law 619 .iadd 1 620 := by decide +kernel
theorem dL_law_620 : jd cL_law 620 .iaload 1 621 := by decide +kernel
theorem dL_law_621 : jd cL_law 621 (.aload_n 0) 1 622 := by decide +kernel
theorem dL_law_622 : jd cL_law 622 (.iload_n 3) 1 623 := by decide +kernel
theorem dL_law_623 : jd cL_law 623 (.iconst 3) 1 624 := by decide +kernel
theorem dL_law_624 : jd cL_law 624 .iadd 1 625 := by decide +kernel
theorem dL_law_625 : jd cL_law 625 .iaload 1 626 := by decide +kernel
theorem dL_law_626 : jd cL_law 626 (.invokevirtual 74) 3 629 := by decide +kernel
theorem dL_law_629 : jd cL_law 629 (.aload_n 2) 1 630 := by decide +kernel
theorem dL_law_630 : jd cL_law 630 (.aload_n 0) 1 631 := by decide +kernel
theorem dL_law_631 : jd cL_law 631 (.iload_n 3) 1 632 := by decide +kernel
theorem dL_law_632 : jd cL_law 632 (.iconst 1) 1 633 := by decide +kernel
theorem dL_law_633 : jd cL_law 633 .iadd 1 634 := by decide +kernel
theorem dL_law_634 : jd cL_law 634 .iaload 1 635 := by decide +kernel
theorem dL_law_635 : jd cL_law 635 (.aload_n 0) 1 636 := by decide +kernel
theorem dL_law_636 : jd cL_law 636 (.iload_n 3) 1 637 := by decide +kernel
theorem dL_law_637 : jd cL_law 637 (.iconst 2) 1 638 := by decide +kernel
theorem dL_law_638 : jd cL_law 638 .iadd 1 639 := by decide +kernel
theorem dL_law_639 : jd cL_law 639 .iaload 1 640 := by decide +kernel
theorem dL_law_640 : jd cL_law 640 (.aload_n 0) 1 641 := by decide +kernel
theorem dL_law_641 : jd cL_law 641 (.iload_n 3) 1 642 := by decide +kernel
theorem dL_law_642 : jd cL_law 642 (.iconst 3) 1 643 := by decide +kernel
theorem dL_law_643 : jd cL_law 643 .iadd 1 644 := by decide +kernel
theorem dL_law_644 : jd cL_law 644 .iaload 1 645 := by decide +kernel
theorem dL_law_645 : jd cL_law 645 (.invokevirtual 77) 3 648 := by decide +kernel
theorem dL_law_648 : jt cL_law 648 (.if_icmp .eq 773) 773 1421 651 := by decide +kernel
theorem dL_law_651 : jd cL_law 651 (.iconst 0) 1 652 := by decide +kernel
theorem dL_law_652 : jd cL_law 652 .ireturn 1 653 := by decide +kernel
theorem dL_law_653 : jd cL_law 653 (.aload_n 1) 1 654 := by decide +kernel
theorem dL_law_654 : jd cL_law 654 (.aload_n 0) 1 655 := by decide +kernel
theorem dL_law_655 : jd cL_law 655 (.iload_n 3) 1 656 := by decide +kernel
theorem dL_law_656 : jd cL_law 656 (.iconst 1) 1 657 := by decide +kernel
theorem dL_law_657 : jd cL_law 657 .iadd 1 658 := by decide +kernel
theorem dL_law_658 : jd cL_law 658 .iaload 1 659 := by decide +kernel
theorem dL_law_659 : jd cL_law 659 (.aload_n 0) 1 660 := by decide +kernel
theorem dL_law_660 : jd cL_law 660 (.iload_n 3) 1 661 := by decide +kernel
theorem dL_law_661 : jd cL_law 661 (.iconst 2) 1 662 := by decide +kernel
theorem dL_law_662 : jd cL_law 662 .iadd 1 663 := by decide +kernel
theorem dL_law_663 : jd cL_law 663 .iaload 1 664 := by decide +kernel
theorem dL_law_664 : jd cL_law 664 (.aload_n 0) 1 665 := by decide +kernel
theorem dL_law_665 : jd cL_law 665 (.iload_n 3) 1 666 := by decide +kernel
theorem dL_law_666 : jd cL_law 666 (.iconst 3) 1 667 := by decide +kernel
theorem dL_law_667 : jd cL_law 667 .iadd 1 668 := by decide +kernel
theorem dL_law_668 : jd cL_law 668 .iaload 1 669 := by decide +kernel
theorem dL_law_669 : jd cL_law 669 (.invokevirtual 78) 3 672 := by decide +kernel
theorem dL_law_672 : jd cL_law 672 (.aload_n 2) 1 673 := by decide +kernel
theorem dL_law_673 : jd cL_law 673 (.aload_n 0) 1 674 := by decide +kernel
theorem dL_law_674 : jd cL_law 674 (.iload_n 3) 1 675 := by decide +kernel
theorem dL_law_675 : jd cL_law 675 (.iconst 1) 1 676 := by decide +kernel
theorem dL_law_676 : jd cL_law 676 .iadd 1 677 := by decide +kernel
theorem dL_law_677 : jd cL_law 677 .iaload 1 678 := by decide +kernel
theorem dL_law_678 : jd cL_law 678 (.aload_n 0) 1 679 := by decide +kernel
theorem dL_law_679 : jd cL_law 679 (.iload_n 3) 1 680 := by decide +kernel
theorem dL_law_680 : jd cL_law 680 (.iconst 2) 1 681 := by decide +kernel
theorem dL_law_681 : jd cL_law 681 .iadd 1 682 := by decide +kernel
theorem dL_law_682 : jd cL_law 682 .iaload 1 683 := by decide +kernel
theorem dL_law_683 : jd cL_law 683 (.aload_n 0) 1 684 := by decide +kernel
theorem dL_law_684 : jd cL_law 684 (.iload_n 3) 1 685 := by decide +kernel
theorem dL_law_685 : jd cL_law 685 (.iconst 3) 1 686 := by decide +kernel
theorem dL_law_686 : jd cL_law 686 .iadd 1 687 := by decide +kernel
theorem dL_law_687 : jd cL_law 687 .iaload 1 688 := by decide +kernel
theorem dL_law_688 : jd cL_law 688 (.invokevirtual 81) 3 691 := by decide +kernel
theorem dL_law_691 : jt cL_law 691 (.if_icmp .eq 730) 730 1421 694 := by decide +kernel
theorem dL_law_694 : jd cL_law 694 (.iconst 0) 1 695 := by decide +kernel
theorem dL_law_695 : jd cL_law 695 .ireturn 1 696 := by decide +kernel
theorem dL_law_696 : jd cL_law 696 (.aload_n 1) 1 697 := by decide +kernel
theorem dL_law_697 : jd cL_law 697 (.aload_n 0) 1 698 := by decide +kernel
theorem dL_law_698 : jd cL_law 698 (.iload_n 3) 1 699 := by decide +kernel
theorem dL_law_699 : jd cL_law 699 (.iconst 1) 1 700 := by decide +kernel
theorem dL_law_700 : jd cL_law 700 .iadd 1 701 := by decide +kernel
theorem dL_law_701 : jd cL_law 701 .iaload 1 702 := by decide +kernel
theorem dL_law_702 : jd cL_law 702 (.aload_n 0) 1 703 := by decide +kernel
theorem dL_law_703 : jd cL_law 703 (.iload_n 3) 1 704 := by decide +kernel
theorem dL_law_704 : jd cL_law 704 (.iconst 2) 1 705 := by decide +kernel
theorem dL_law_705 : jd cL_law 705 .iadd 1 706 := by decide +kernel
theorem dL_law_706 : jd cL_law 706 .iaload 1 707 := by decide +kernel
theorem dL_law_707 : jd cL_law 707 (.aload_n 0) 1 708 := by decide +kernel
theorem dL_law_708 : jd cL_law 708 (.iload_n 3) 1 709 := by decide +kernel
theorem dL_law_709 : jd cL_law 709 (.iconst 3) 1 710 := by decide +kernel
theorem dL_law_710 : jd cL_law 710 .iadd 1 711 := by decide +kernel
theorem dL_law_711 : jd cL_law 711 .iaload 1 712 := by decide +kernel
theorem dL_law_712 : jd cL_law 712 (.aload_n 0) 1 713 := by decide +kernel
theorem dL_law_713 : jd cL_law 713 (.iload_n 3) 1 714 := by decide +kernel
theorem dL_law_714 : jd cL_law 714 (.iconst 4) 1 715 := by decide +kernel
theorem dL_law_715 : jd cL_law 715 .iadd 1 716 := by decide +kernel
theorem dL_law_716 : jd cL_law 716 .iaload 1 717 := by decide +kernel
theorem dL_law_717 : jd cL_law 717 (.invokevirtual 82) 3 720 := by decide +kernel
theorem dL_law_720 : jd cL_law 720 (.aload_n 2) 1 721 := by decide +kernel
theorem dL_law_721 : jd cL_law 721 (.aload_n 0) 1 722 := by decide +kernel
theorem dL_law_722 : jd cL_law 722 (.iload_n 3) 1 723 := by decide +kernel
theorem dL_law_723 : jd cL_law 723 (.iconst 1) 1 724 := by decide +kernel
theorem dL_law_724 : jd cL_law 724 .iadd 1 725 := by decide +kernel
theorem dL_law_725 : jd cL_law 725 .iaload 1 726 := by decide +kernel
theorem dL_law_726 : jd cL_law 726 (.aload_n 0) 1 727 := by decide +kernel
theorem dL_law_727 : jd cL_law 727 (.iload_n 3) 1 728 := by decide +kernel
theorem dL_law_728 : jd cL_law 728 (.iconst 2) 1 729 := by decide +kernel
theorem dL_law_729 : jd cL_law 729 .iadd 1 730 := by decide +kernel
theorem dL_law_730 : jd cL_law 730 .iaload 1 731 := by decide +kernel
theorem dL_law_731 : jd cL_law 731 (.aload_n 0) 1 732 := by decide +kernel
theorem dL_law_732 : jd cL_law 732 (.iload_n 3) 1 733 := by decide +kernel
theorem dL_law_733 : jd cL_law 733 (.iconst 3) 1 734 := by decide +kernel
theorem dL_law_734 : jd cL_law 734 .iadd 1 735 := by decide +kernel
theorem dL_law_735 : jd cL_law 735 .iaload 1 736 := by decide +kernel
theorem dL_law_736 : jd cL_law 736 (.aload_n 0) 1 737 := by decide +kernel
theorem dL_law_737 : jd cL_law 737 (.iload_n 3) 1 738 := by decide +kernel
theorem dL_law_738 : jd cL_law 738 (.iconst 4) 1 739 := by decide +kernel
theorem dL_law_739 : jd cL_law 739 .iadd 1 740 := by decide +kernel
theorem dL_law_740 : jd cL_law 740 .iaload 1 741 := by decide +kernel
theorem dL_law_741 : jd cL_law 741 (.invokevirtual 86) 3 744 := by decide +kernel
theorem dL_law_744 : jt cL_law 744 (.if_icmp .eq 677) 677 1421 747 := by decide +kernel
theorem dL_law_747 : jd cL_law 747 (.iconst 0) 1 748 := by decide +kernel
theorem dL_law_748 : jd cL_law 748 .ireturn 1 749 := by decide +kernel
theorem dL_law_749 : jd cL_law 749 (.aload_n 1) 1 750 := by decide +kernel
theorem dL_law_750 : jd cL_law 750 (.aload_n 0) 1 751 := by decide +kernel
theorem dL_law_751 : jd cL_law 751 (.iload_n 3) 1 752 := by decide +kernel
theorem dL_law_752 : jd cL_law 752 (.iconst 1) 1 753 := by decide +kernel
theorem dL_law_753 : jd cL_law 753 .iadd 1 754 := by decide +kernel
theorem dL_law_754 : jd cL_law 754 .iaload 1 755 := by decide +kernel
theorem dL_law_755 : jd cL_law 755 (.aload_n 0) 1 756 := by decide +kernel
theorem dL_law_756 : jd cL_law 756 (.iload_n 3) 1 757 := by decide +kernel
theorem dL_law_757 : jd cL_law 757 (.iconst 2) 1 758 := by decide +kernel
theorem dL_law_758 : jd cL_law 758 .iadd 1 759 := by decide +kernel
theorem dL_law_759 : jd cL_law 759 .iaload 1 760 := by decide +kernel
theorem dL_law_760 : jd cL_law 760 (.aload_n 0) 1 761 := by decide +kernel
theorem dL_law_761 : jd cL_law 761 (.iload_n 3) 1 762 := by decide +kernel
theorem dL_law_762 : jd cL_law 762 (.iconst 3) 1 763 := by decide +kernel
theorem dL_law_763 : jd cL_law 763 .iadd 1 764 := by decide +kernel
theorem dL_law_764 : jd cL_law 764 .iaload 1 765 := by decide +kernel
theorem dL_law_765 : jd cL_law 765 (.aload_n 0) 1 766 := by decide +kernel
theorem dL_law_766 : jd cL_law 766 (.iload_n 3) 1 767 := by decide +kernel
theorem dL_law_767 : jd cL_law 767 (.iconst 4) 1 768 := by decide +kernel
theorem dL_law_768 : jd cL_law 768 .iadd 1 769 := by decide +kernel
theorem dL_law_769 : jd cL_law 769 .iaload 1 770 := by decide +kernel
theorem dL_law_770 : jd cL_law 770 (.aload_n 0) 1 771 := by decide +kernel
theorem dL_law_771 : jd cL_law 771 (.iload_n 3) 1 772 := by decide +kernel
theorem dL_law_772 : jd cL_law 772 (.iconst 5) 1 773 := by decide +kernel
theorem dL_law_773 : jd cL_law 773 .iadd 1 774 := by decide +kernel
theorem dL_law_774 : jd cL_law 774 .iaload 1 775 := by decide +kernel
theorem dL_law_775 : jd cL_law 775 (.invokevirtual 87) 3 778 := by decide +kernel
theorem dL_law_778 : jd cL_law 778 (.aload_n 2) 1 779 := by decide +kernel
theorem dL_law_779 : jd cL_law 779 (.aload_n 0) 1 780 := by decide +kernel
theorem dL_law_780 : jd cL_law 780 (.iload_n 3) 1 781 := by decide +kernel
theorem dL_law_781 : jd cL_law 781 (.iconst 1) 1 782 := by decide +kernel
theorem dL_law_782 : jd cL_law 782 .iadd 1 783 := by decide +kernel
theorem dL_law_783 : jd cL_law 783 .iaload 1 784 := by decide +kernel
theorem dL_law_784 : jd cL_law 784 (.aload_n 0) 1 785 := by decide +kernel
theorem dL_law_785 : jd cL_law 785 (.iload_n 3) 1 786 := by decide +kernel
theorem dL_law_786 : jd cL_law 786 (.iconst 2) 1 787 := by decide +kernel
theorem dL_law_787 : jd cL_law 787 .iadd 1 788 := by decide +kernel
theorem dL_law_788 : jd cL_law 788 .iaload 1 789 := by decide +kernel
theorem dL_law_789 : jd cL_law 789 (.aload_n 0) 1 790 := by decide +kernel
theorem dL_law_790 : jd cL_law 790 (.iload_n 3) 1 791 := by decide +kernel
theorem dL_law_791 : jd cL_law 791 (.iconst 3) 1 792 := by decide +kernel
theorem dL_law_792 : jd cL_law 792 .iadd 1 793 := by decide +kernel
theorem dL_law_793 : jd cL_law 793 .iaload 1 794 := by decide +kernel
theorem dL_law_794 : jd cL_law 794 (.aload_n 0) 1 795 := by decide +kernel
theorem dL_law_795 : jd cL_law 795 (.iload_n 3) 1 796 := by decide +kernel
theorem dL_law_796 : jd cL_law 796 (.iconst 4) 1 797 := by decide +kernel
theorem dL_law_797 : jd cL_law 797 .iadd 1 798 := by decide +kernel
theorem dL_law_798 : jd cL_law 798 .iaload 1 799 := by decide +kernel
theorem dL_law_799 : jd cL_law 799 (.aload_n 0) 1 800 := by decide +kernel
theorem dL_law_800 : jd cL_law 800 (.iload_n 3) 1 801 := by decide +kernel
theorem dL_law_801 : jd cL_law 801 (.iconst 5) 1 802 := by decide +kernel
theorem dL_law_802 : jd cL_law 802 .iadd 1 803 := by decide +kernel
theorem dL_law_803 : jd cL_law 803 .iaload 1 804 := by decide +kernel
theorem dL_law_804 : jd cL_law 804 (.invokevirtual 90) 3 807 := by decide +kernel
theorem dL_law_807 : jt cL_law 807 (.if_icmp .eq 614) 614 1421 810 := by decide +kernel
theorem dL_law_810 : jd cL_law 810 (.iconst 0) 1 811 := by decide +kernel
theorem dL_law_811 : jd cL_law 811 .ireturn 1 812 := by decide +kernel
theorem dL_law_812 : jd cL_law 812 (.aload_n 1) 1 813 := by decide +kernel
theorem dL_law_813 : jd cL_law 813 (.aload_n 0) 1 814 := by decide +kernel
theorem dL_law_814 : jd cL_law 814 (.iload_n 3) 1 815 := by decide +kernel
theorem dL_law_815 : jd cL_law 815 (.iconst 1) 1 816 := by decide +kernel
theorem dL_law_816 : jd cL_law 816 .iadd 1 817 := by decide +kernel
theorem dL_law_817 : jd cL_law 817 .iaload 1 818 := by decide +kernel
theorem dL_law_818 : jd cL_law 818 (.aload_n 0) 1 819 := by decide +kernel
theorem dL_law_819 : jd cL_law 819 (.iload_n 3) 1 820 := by decide +kernel
theorem dL_law_820 : jd cL_law 820 (.iconst 2) 1 821 := by decide +kernel
theorem dL_law_821 : jd cL_law 821 .iadd 1 822 := by decide +kernel
theorem dL_law_822 : jd cL_law 822 .iaload 1 823 := by decide +kernel
theorem dL_law_823 : jd cL_law 823 (.aload_n 0) 1 824 := by decide +kernel
theorem dL_law_824 : jd cL_law 824 (.iload_n 3) 1 825 := by decide +kernel
theorem dL_law_825 : jd cL_law 825 (.iconst 3) 1 826 := by decide +kernel
theorem dL_law_826 : jd cL_law 826 .iadd 1 827 := by decide +kernel
theorem dL_law_827 : jd cL_law 827 .iaload 1 828 := by decide +kernel
theorem dL_law_828 : jd cL_law 828 (.aload_n 0) 1 829 := by decide +kernel
theorem dL_law_829 : jd cL_law 829 (.iload_n 3) 1 830 := by decide +kernel
theorem dL_law_830 : jd cL_law 830 (.iconst 4) 1 831 := by decide +kernel
theorem dL_law_831 : jd cL_law 831 .iadd 1 832 := by decide +kernel
theorem dL_law_832 : jd cL_law 832 .iaload 1 833 := by decide +kernel
theorem dL_law_833 : jd cL_law 833 (.invokevirtual 91) 3 836 := by decide +kernel
theorem dL_law_836 : jd cL_law 836 (.aload_n 2) 1 837 := by decide +kernel
theorem dL_law_837 : jd cL_law 837 (.aload_n 0) 1 838 := by decide +kernel
theorem dL_law_838 : jd cL_law 838 (.iload_n 3) 1 839 := by decide +kernel
theorem dL_law_839 : jd cL_law 839 (.iconst 1) 1 840 := by decide +kernel
theorem dL_law_840 : jd cL_law 840 .iadd 1 841 := by decide +kernel
theorem dL_law_841 : jd cL_law 841 .iaload 1 842 := by decide +kernel
theorem dL_law_842 : jd cL_law 842 (.aload_n 0) 1 843 := by decide +kernel
theorem dL_law_843 : jd cL_law 843 (.iload_n 3) 1 844 := by decide +kernel
theorem dL_law_844 : jd cL_law 844 (.iconst 2) 1 845 := by decide +kernel
theorem dL_law_845 : jd cL_law 845 .iadd 1 846 := by decide +kernel
theorem dL_law_846 : jd cL_law 846 .iaload 1 847 := by decide +kernel
theorem dL_law_847 : jd cL_law 847 (.aload_n 0) 1 848 := by decide +kernel
theorem dL_law_848 : jd cL_law 848 (.iload_n 3) 1 849 := by decide +kernel
theorem dL_law_849 : jd cL_law 849 (.iconst 3) 1 850 := by decide +kernel
theorem dL_law_850 : jd cL_law 850 .iadd 1 851 := by decide +kernel
theorem dL_law_851 : jd cL_law 851 .iaload 1 852 := by decide +kernel
theorem dL_law_852 : jd cL_law 852 (.aload_n 0) 1 853 := by decide +kernel
theorem dL_law_853 : jd cL_law 853 (.iload_n 3) 1 854 := by decide +kernel
theorem dL_law_854 : jd cL_law 854 (.iconst 4) 1 855 := by decide +kernel
theorem dL_law_855 : jd cL_law 855 .iadd 1 856 := by decide +kernel
theorem dL_law_856 : jd cL_law 856 .iaload 1 857 := by decide +kernel
theorem dL_law_857 : jd cL_law 857 (.invokevirtual 94) 3 860 := by decide +kernel
theorem dL_law_860 : jt cL_law 860 (.if_icmp .eq 561) 561 1421 863 := by decide +kernel
theorem dL_law_863 : jd cL_law 863 (.iconst 0) 1 864 := by decide +kernel
theorem dL_law_864 : jd cL_law 864 .ireturn 1 865 := by decide +kernel
theorem dL_law_865 : jd cL_law 865 (.aload_n 1) 1 866 := by decide +kernel
theorem dL_law_866 : jd cL_law 866 (.aload_n 0) 1 867 := by decide +kernel
theorem dL_law_867 : jd cL_law 867 (.iload_n 3) 1 868 := by decide +kernel
theorem dL_law_868 : jd cL_law 868 (.iconst 1) 1 869 := by decide +kernel
theorem dL_law_869 : jd cL_law 869 .iadd 1 870 := by decide +kernel
theorem dL_law_870 : jd cL_law 870 .iaload 1 871 := by decide +kernel
theorem dL_law_871 : jd cL_law 871 (.aload_n 0) 1 872 := by decide +kernel
theorem dL_law_872 : jd cL_law 872 (.iload_n 3) 1 873 := by decide +kernel
theorem dL_law_873 : jd cL_law 873 (.iconst 2) 1 874 := by decide +kernel
theorem dL_law_874 : jd cL_law 874 .iadd 1 875 := by decide +kernel
theorem dL_law_875 : jd cL_law 875 .iaload 1 876 := by decide +kernel
theorem dL_law_876 : jd cL_law 876 (.aload_n 0) 1 877 := by decide +kernel
theorem dL_law_877 : jd cL_law 877 (.iload_n 3) 1 878 := by decide +kernel
theorem dL_law_878 : jd cL_law 878 (.iconst 3) 1 879 := by decide +kernel
theorem dL_law_879 : jd cL_law 879 .iadd 1 880 := by decide +kernel
theorem dL_law_880 : jd cL_law 880 .iaload 1 881 := by decide +kernel
theorem dL_law_881 : jd cL_law 881 (.invokevirtual 95) 3 884 := by decide +kernel
theorem dL_law_884 : jd cL_law 884 (.aload_n 2) 1 885 := by decide +kernel
theorem dL_law_885 : jd cL_law 885 (.aload_n 0) 1 886 := by decide +kernel
theorem dL_law_886 : jd cL_law 886 (.iload_n 3) 1 887 := by decide +kernel
theorem dL_law_887 : jd cL_law 887 (.iconst 1) 1 888 := by decide +kernel
theorem dL_law_888 : jd cL_law 888 .iadd 1 889 := by decide +kernel
theorem dL_law_889 : jd cL_law 889 .iaload 1 890 := by decide +kernel
theorem dL_law_890 : jd cL_law 890 (.aload_n 0) 1 891 := by decide +kernel
theorem dL_law_891 : jd cL_law 891 (.iload_n 3) 1 892 := by decide +kernel
theorem dL_law_892 : jd cL_law 892 (.iconst 2) 1 893 := by decide +kernel
theorem dL_law_893 : jd cL_law 893 .iadd 1 894 := by decide +kernel
theorem dL_law_894 : jd cL_law 894 .iaload 1 895 := by decide +kernel
theorem dL_law_895 : jd cL_law 895 (.aload_n 0) 1 896 := by decide +kernel
theorem dL_law_896 : jd cL_law 896 (.iload_n 3) 1 897 := by decide +kernel
theorem dL_law_897 : jd cL_law 897 (.iconst 3) 1 898 := by decide +kernel
theorem dL_law_898 : jd cL_law 898 .iadd 1 899 := by decide +kernel
theorem dL_law_899 : jd cL_law 899 .iaload 1 900 := by decide +kernel
theorem dL_law_900 : jd cL_law 900 (.invokevirtual 98) 3 903 := by decide +kernel
theorem dL_law_903 : jt cL_law 903 (.if_icmp .eq 518) 518 1421 906 := by decide +kernel
theorem dL_law_906 : jd cL_law 906 (.iconst 0) 1 907 := by decide +kernel
theorem dL_law_907 : jd cL_law 907 .ireturn 1 908 := by decide +kernel
theorem dL_law_908 : jd cL_law 908 (.aload_n 1) 1 909 := by decide +kernel
theorem dL_law_909 : jd cL_law 909 (.aload_n 0) 1 910 := by decide +kernel
theorem dL_law_910 : jd cL_law 910 (.iload_n 3) 1 911 := by decide +kernel
theorem dL_law_911 : jd cL_law 911 (.iconst 1) 1 912 := by decide +kernel
theorem dL_law_912 : jd cL_law 912 .iadd 1 913 := by decide +kernel
theorem dL_law_913 : jd cL_law 913 .iaload 1 914 := by decide +kernel
theorem dL_law_914 : jd cL_law 914 (.invokevirtual 99) 3 917 := by decide +kernel
theorem dL_law_917 : jd cL_law 917 (.aload_n 2) 1 918 := by decide +kernel
theorem dL_law_918 : jd cL_law 918 (.aload_n 0) 1 919 := by decide +kernel
theorem dL_law_919 : jd cL_law 919 (.iload_n 3) 1 920 := by decide +kernel
theorem dL_law_920 : jd cL_law 920 (.iconst 1) 1 921 := by decide +kernel
theorem dL_law_921 : jd cL_law 921 .iadd 1 922 := by decide +kernel
theorem dL_law_922 : jd cL_law 922 .iaload 1 923 := by decide +kernel
theorem dL_law_923 : jd cL_law 923 (.invokevirtual 102) 3 926 := by decide +kernel
theorem dL_law_926 : jt cL_law 926 (.if_icmp .eq 495) 495 1421 929 := by decide +kernel
theorem dL_law_929 : jd cL_law 929 (.iconst 0) 1 930 := by decide +kernel
theorem dL_law_930 : jd cL_law 930 .ireturn 1 931 := by decide +kernel
theorem dL_law_931 : jd cL_law 931 (.aload_n 1) 1 932 := by decide +kernel
theorem dL_law_932 : jd cL_law 932 (.aload_n 0) 1 933 := by decide +kernel
theorem dL_law_933 : jd cL_law 933 (.iload_n 3) 1 934 := by decide +kernel
theorem dL_law_934 : jd cL_law 934 (.iconst 1) 1 935 := by decide +kernel
theorem dL_law_935 : jd cL_law 935 .iadd 1 936 := by decide +kernel
theorem dL_law_936 : jd cL_law 936 .iaload 1 937 := by decide +kernel
theorem dL_law_937 : jd cL_law 937 (.aload_n 0) 1 938 := by decide +kernel
theorem dL_law_938 : jd cL_law 938 (.iload_n 3) 1 939 := by decide +kernel
theorem dL_law_939 : jd cL_law 939 (.iconst 2) 1 940 := by decide +kernel
theorem dL_law_940 : jd cL_law 940 .iadd 1 941 := by decide +kernel
theorem dL_law_941 : jd cL_law 941 .iaload 1 942 := by decide +kernel
theorem dL_law_942 : jd cL_law 942 (.invokevirtual 103) 3 945 := by decide +kernel
theorem dL_law_945 : jd cL_law 945 (.aload_n 2) 1 946 := by decide +kernel
theorem dL_law_946 : jd cL_law 946 (.aload_n 0) 1 947 := by decide +kernel
theorem dL_law_947 : jd cL_law 947 (.iload_n 3) 1 948 := by decide +kernel
theorem dL_law_948 : jd cL_law 948 (.iconst 1) 1 949 := by decide +kernel
theorem dL_law_949 : jd cL_law 949 .iadd 1 950 := by decide +kernel
theorem dL_law_950 : jd cL_law 950 .iaload 1 951 := by decide +kernel
theorem dL_law_951 : jd cL_law 951 (.aload_n 0) 1 952 := by decide +kernel
theorem dL_law_952 : jd cL_law 952 (.iload_n 3) 1 953 := by decide +kernel
theorem dL_law_953 : jd cL_law 953 (.iconst 2) 1 954 := by decide +kernel
theorem dL_law_954 : jd cL_law 954 .iadd 1 955 := by decide +kernel
theorem dL_law_955 : jd cL_law 955 .iaload 1 956 := by decide +kernel
theorem dL_law_956 : jd cL_law 956 (.invokevirtual 106) 3 959 := by decide +kernel
theorem dL_law_959 : jt cL_law 959 (.if_icmp .eq 462) 462 1421 962 := by decide +kernel
theorem dL_law_962 : jd cL_law 962 (.iconst 0) 1 963 := by decide +kernel
theorem dL_law_963 : jd cL_law 963 .ireturn 1 964 := by decide +kernel
theorem dL_law_964 : jd cL_law 964 (.aload_n 1) 1 965 := by decide +kernel
theorem dL_law_965 : jd cL_law 965 (.aload_n 0) 1 966 := by decide +kernel
theorem dL_law_966 : jd cL_law 966 (.iload_n 3) 1 967 := by decide +kernel
theorem dL_law_967 : jd cL_law 967 (.iconst 1) 1 968 := by decide +kernel
theorem dL_law_968 : jd cL_law 968 .iadd 1 969 := by decide +kernel
theorem dL_law_969 : jd cL_law 969 .iaload 1 970 := by decide +kernel
theorem dL_law_970 : jd cL_law 970 (.aload_n 0) 1 971 := by decide +kernel
theorem dL_law_971 : jd cL_law 971 (.iload_n 3) 1 972 := by decide +kernel
theorem dL_law_972 : jd cL_law 972 (.iconst 2) 1 973 := by decide +kernel
theorem dL_law_973 : jd cL_law 973 .iadd 1 974 := by decide +kernel
theorem dL_law_974 : jd cL_law 974 .iaload 1 975 := by decide +kernel
theorem dL_law_975 : jd cL_law 975 (.aload_n 0) 1 976 := by decide +kernel
theorem dL_law_976 : jd cL_law 976 (.iload_n 3) 1 977 := by decide +kernel
theorem dL_law_977 : jd cL_law 977 (.iconst 3) 1 978 := by decide +kernel
theorem dL_law_978 : jd cL_law 978 .iadd 1 979 := by decide +kernel
theorem dL_law_979 : jd cL_law 979 .iaload 1 980 := by decide +kernel
theorem dL_law_980 : jd cL_law 980 (.invokevirtual 107) 3 983 := by decide +kernel
theorem dL_law_983 : jd cL_law 983 (.aload_n 2) 1 984 := by decide +kernel
theorem dL_law_984 : jd cL_law 984 (.aload_n 0) 1 985 := by decide +kernel
theorem dL_law_985 : jd cL_law 985 (.iload_n 3) 1 986 := by decide +kernel
theorem dL_law_986 : jd cL_law 986 (.iconst 1) 1 987 := by decide +kernel
theorem dL_law_987 : jd cL_law 987 .iadd 1 988 := by decide +kernel
theorem dL_law_988 : jd cL_law 988 .iaload 1 989 := by decide +kernel
theorem dL_law_989 : jd cL_law 989 (.aload_n 0) 1 990 := by decide +kernel
theorem dL_law_990 : jd cL_law 990 (.iload_n 3) 1 991 := by decide +kernel
theorem dL_law_991 : jd cL_law 991 (.iconst 2) 1 992 := by decide +kernel
theorem dL_law_992 : jd cL_law 992 .iadd 1 993 := by decide +kernel
theorem dL_law_993 : jd cL_law 993 .iaload 1 994 := by decide +kernel
theorem dL_law_994 : jd cL_law 994 (.aload_n 0) 1 995 := by decide +kernel
theorem dL_law_995 : jd cL_law 995 (.iload_n 3) 1 996 := by decide +kernel
theorem dL_law_996 : jd cL_law 996 (.iconst 3) 1 997 := by decide +kernel
theorem dL_law_997 : jd cL_law 997 .iadd 1 998 := by decide +kernel
theorem dL_law_998 : jd cL_law 998 .iaload 1 999 := by decide +kernel
theorem dL_law_999 : jd cL_law 999 (.invokevirtual 110) 3 1002 := by decide +kernel
theorem dL_law_1002 : jt cL_law 1002 (.if_icmp .eq 419) 419 1421 1005 := by decide +kernel
theorem dL_law_1005 : jd cL_law 1005 (.iconst 0) 1 1006 := by decide +kernel
theorem dL_law_1006 : jd cL_law 1006 .ireturn 1 1007 := by decide +kernel
theorem dL_law_1007 : jd cL_law 1007 (.aload_n 1) 1 1008 := by decide +kernel
theorem dL_law_1008 : jd cL_law 1008 (.aload_n 0) 1 1009 := by decide +kernel
theorem dL_law_1009 : jd cL_law 1009 (.iload_n 3) 1 1010 := by decide +kernel
theorem dL_law_1010 : jd cL_law 1010 (.iconst 1) 1 1011 := by decide +kernel
theorem dL_law_1011 : jd cL_law 1011 .iadd 1 1012 := by decide +kernel
theorem dL_law_1012 : jd cL_law 1012 .iaload 1 1013 := by decide +kernel
theorem dL_law_1013 : jd cL_law 1013 (.aload_n 0) 1 1014 := by decide +kernel
theorem dL_law_1014 : jd cL_law 1014 (.iload_n 3) 1 1015 := by decide +kernel
theorem dL_law_1015 : jd cL_law 1015 (.iconst 2) 1 1016 := by decide +kernel
theorem dL_law_1016 : jd cL_law 1016 .iadd 1 1017 := by decide +kernel
theorem dL_law_1017 : jd cL_law 1017 .iaload 1 1018 := by decide +kernel
theorem dL_law_1018 : jd cL_law 1018 (.aload_n 0) 1 1019 := by decide +kernel
theorem dL_law_1019 : jd cL_law 1019 (.iload_n 3) 1 1020 := by decide +kernel
theorem dL_law_1020 : jd cL_law 1020 (.iconst 3) 1 1021 := by decide +kernel
theorem dL_law_1021 : jd cL_law 1021 .iadd 1 1022 := by decide +kernel
theorem dL_law_1022 : jd cL_law 1022 .iaload 1 1023 := by decide +kernel
theorem dL_law_1023 : jd cL_law 1023 (.aload_n 0) 1 1024 := by decide +kernel
theorem dL_law_1024 : jd cL_law 1024 (.iload_n 3) 1 1025 := by decide +kernel
theorem dL_law_1025 : jd cL_law 1025 (.iconst 4) 1 1026 := by decide +kernel
theorem dL_law_1026 : jd cL_law 1026 .iadd 1 1027 := by decide +kernel
theorem dL_law_1027 : jd cL_law 1027 .iaload 1 1028 := by decide +kernel
theorem dL_law_1028 : jd cL_law 1028 (.aload_n 0) 1 1029 := by decide +kernel
theorem dL_law_1029 : jd cL_law 1029 (.iload_n 3) 1 1030 := by decide +kernel
theorem dL_law_1030 : jd cL_law 1030 (.iconst 5) 1 1031 := by decide +kernel
theorem dL_law_1031 : jd cL_law 1031 .iadd 1 1032 := by decide +kernel
theorem dL_law_1032 : jd cL_law 1032 .iaload 1 1033 := by decide +kernel
theorem dL_law_1033 : jd cL_law 1033 (.aload_n 0) 1 1034 := by decide +kernel
theorem dL_law_1034 : jd cL_law 1034 (.iload_n 3) 1 1035 := by decide +kernel
theorem dL_law_1035 : jd cL_law 1035 (.bipush 6) 2 1037 := by decide +kernel
theorem dL_law_1037 : jd cL_law 1037 .iadd 1 1038 := by decide +kernel
theorem dL_law_1038 : jd cL_law 1038 .iaload 1 1039 := by decide +kernel
theorem dL_law_1039 : jd cL_law 1039 (.invokevirtual 111) 3 1042 := by decide +kernel
theorem dL_law_1042 : jd cL_law 1042 (.aload_n 2) 1 1043 := by decide +kernel
theorem dL_law_1043 : jd cL_law 1043 (.aload_n 0) 1 1044 := by decide +kernel
theorem dL_law_1044 : jd cL_law 1044 (.iload_n 3) 1 1045 := by decide +kernel
theorem dL_law_1045 : jd cL_law 1045 (.iconst 1) 1 1046 := by decide +kernel
theorem dL_law_1046 : jd cL_law 1046 .iadd 1 1047 := by decide +kernel
theorem dL_law_1047 : jd cL_law 1047 .iaload 1 1048 := by decide +kernel
theorem dL_law_1048 : jd cL_law 1048 (.aload_n 0) 1 1049 := by decide +kernel
theorem dL_law_1049 : jd cL_law 1049 (.iload_n 3) 1 1050 := by decide +kernel
theorem dL_law_1050 : jd cL_law 1050 (.iconst 2) 1 1051 := by decide +kernel
theorem dL_law_1051 : jd cL_law 1051 .iadd 1 1052 := by decide +kernel
theorem dL_law_1052 : jd cL_law 1052 .iaload 1 1053 := by decide +kernel
theorem dL_law_1053 : jd cL_law 1053 (.aload_n 0) 1 1054 := by decide +kernel
theorem dL_law_1054 : jd cL_law 1054 (.iload_n 3) 1 1055 := by decide +kernel
theorem dL_law_1055 : jd cL_law 1055 (.iconst 3) 1 1056 := by decide +kernel
theorem dL_law_1056 : jd cL_law 1056 .iadd 1 1057 := by decide +kernel
theorem dL_law_1057 : jd cL_law 1057 .iaload 1 1058 := by decide +kernel
theorem dL_law_1058 : jd cL_law 1058 (.aload_n 0) 1 1059 := by decide +kernel
theorem dL_law_1059 : jd cL_law 1059 (.iload_n 3) 1 1060 := by decide +kernel
theorem dL_law_1060 : jd cL_law 1060 (.iconst 4) 1 1061 := by decide +kernel
theorem dL_law_1061 : jd cL_law 1061 .iadd 1 1062 := by decide +kernel
theorem dL_law_1062 : jd cL_law 1062 .iaload 1 1063 := by decide +kernel
theorem dL_law_1063 : jd cL_law 1063 (.aload_n 0) 1 1064 := by decide +kernel
theorem dL_law_1064 : jd cL_law 1064 (.iload_n 3) 1 1065 := by decide +kernel
theorem dL_law_1065 : jd cL_law 1065 (.iconst 5) 1 1066 := by decide +kernel
theorem dL_law_1066 : jd cL_law 1066 .iadd 1 1067 := by decide +kernel
theorem dL_law_1067 : jd cL_law 1067 .iaload 1 1068 := by decide +kernel
theorem dL_law_1068 : jd cL_law 1068 (.aload_n 0) 1 1069 := by decide +kernel
theorem dL_law_1069 : jd cL_law 1069 (.iload_n 3) 1 1070 := by decide +kernel
theorem dL_law_1070 : jd cL_law 1070 (.bipush 6) 2 1072 := by decide +kernel
theorem dL_law_1072 : jd cL_law 1072 .iadd 1 1073 := by decide +kernel
theorem dL_law_1073 : jd cL_law 1073 .iaload 1 1074 := by decide +kernel
theorem dL_law_1074 : jd cL_law 1074 (.invokevirtual 115) 3 1077 := by decide +kernel
theorem dL_law_1077 : jt cL_law 1077 (.if_icmp .eq 344) 344 1421 1080 := by decide +kernel
theorem dL_law_1080 : jd cL_law 1080 (.iconst 0) 1 1081 := by decide +kernel
theorem dL_law_1081 : jd cL_law 1081 .ireturn 1 1082 := by decide +kernel
theorem dL_law_1082 : jd cL_law 1082 (.aload_n 1) 1 1083 := by decide +kernel
theorem dL_law_1083 : jd cL_law 1083 (.aload_n 0) 1 1084 := by decide +kernel
theorem dL_law_1084 : jd cL_law 1084 (.iload_n 3) 1 1085 := by decide +kernel
theorem dL_law_1085 : jd cL_law 1085 (.iconst 1) 1 1086 := by decide +kernel
theorem dL_law_1086 : jd cL_law 1086 .iadd 1 1087 := by decide +kernel
theorem dL_law_1087 : jd cL_law 1087 .iaload 1 1088 := by decide +kernel
theorem dL_law_1088 : jd cL_law 1088 (.aload_n 0) 1 1089 := by decide +kernel
theorem dL_law_1089 : jd cL_law 1089 (.iload_n 3) 1 1090 := by decide +kernel
theorem dL_law_1090 : jd cL_law 1090 (.iconst 2) 1 1091 := by decide +kernel
theorem dL_law_1091 : jd cL_law 1091 .iadd 1 1092 := by decide +kernel
theorem dL_law_1092 : jd cL_law 1092 .iaload 1 1093 := by decide +kernel
theorem dL_law_1093 : jd cL_law 1093 (.aload_n 0) 1 1094 := by decide +kernel
theorem dL_law_1094 : jd cL_law 1094 (.iload_n 3) 1 1095 := by decide +kernel
theorem dL_law_1095 : jd cL_law 1095 (.iconst 3) 1 1096 := by decide +kernel
theorem dL_law_1096 : jd cL_law 1096 .iadd 1 1097 := by decide +kernel
theorem dL_law_1097 : jd cL_law 1097 .iaload 1 1098 := by decide +kernel
theorem dL_law_1098 : jd cL_law 1098 (.aload_n 0) 1 1099 := by decide +kernel
theorem dL_law_1099 : jd cL_law 1099 (.iload_n 3) 1 1100 := by decide +kernel
theorem dL_law_1100 : jd cL_law 1100 (.iconst 4) 1 1101 := by decide +kernel
theorem dL_law_1101 : jd cL_law 1101 .iadd 1 1102 := by decide +kernel
theorem dL_law_1102 : jd cL_law 1102 .iaload 1 1103 := by decide +kernel
theorem dL_law_1103 : jd cL_law 1103 (.aload_n 0) 1 1104 := by decide +kernel
theorem dL_law_1104 : jd cL_law 1104 (.iload_n 3) 1 1105 := by decide +kernel
theorem dL_law_1105 : jd cL_law 1105 (.iconst 5) 1 1106 := by decide +kernel
theorem dL_law_1106 : jd cL_law 1106 .iadd 1 1107 := by decide +kernel
theorem dL_law_1107 : jd cL_law 1107 .iaload 1 1108 := by decide +kernel
theorem dL_law_1108 : jd cL_law 1108 (.aload_n 0) 1 1109 := by decide +kernel
theorem dL_law_1109 : jd cL_law 1109 (.iload_n 3) 1 1110 := by decide +kernel
theorem dL_law_1110 : jd cL_law 1110 (.bipush 6) 2 1112 := by decide +kernel
theorem dL_law_1112 : jd cL_law 1112 .iadd 1 1113 := by decide +kernel
theorem dL_law_1113 : jd cL_law 1113 .iaload 1 1114 := by decide +kernel
theorem dL_law_1114 : jd cL_law 1114 (.invokevirtual 116) 3 1117 := by decide +kernel
theorem dL_law_1117 : jd cL_law 1117 (.aload_n 2) 1 1118 := by decide +kernel
theorem dL_law_1118 : jd cL_law 1118 (.aload_n 0) 1 1119 := by decide +kernel
theorem dL_law_1119 : jd cL_law 1119 (.iload_n 3) 1 1120 := by decide +kernel
theorem dL_law_1120 : jd cL_law 1120 (.iconst 1) 1 1121 := by decide +kernel
theorem dL_law_1121 : jd cL_law 1121 .iadd 1 1122 := by decide +kernel
theorem dL_law_1122 : jd cL_law 1122 .iaload 1 1123 := by decide +kernel
theorem dL_law_1123 : jd cL_law 1123 (.aload_n 0) 1 1124 := by decide +kernel
theorem dL_law_1124 : jd cL_law 1124 (.iload_n 3) 1 1125 := by decide +kernel
theorem dL_law_1125 : jd cL_law 1125 (.iconst 2) 1 1126 := by decide +kernel
theorem dL_law_1126 : jd cL_law 1126 .iadd 1 1127 := by decide +kernel
theorem dL_law_1127 : jd cL_law 1127 .iaload 1 1128 := by decide +kernel
theorem dL_law_1128 : jd cL_law 1128 (.aload_n 0) 1 1129 := by decide +kernel
theorem dL_law_1129 : jd cL_law 1129 (.iload_n 3) 1 1130 := by decide +kernel
theorem dL_law_1130 : jd cL_law 1130 (.iconst 3) 1 1131 := by decide +kernel
theorem dL_law_1131 : jd cL_law 1131 .iadd 1 1132 := by decide +kernel
theorem dL_law_1132 : jd cL_law 1132 .iaload 1 1133 := by decide +kernel
theorem dL_law_1133 : jd cL_law 1133 (.aload_n 0) 1 1134 := by decide +kernel
theorem dL_law_1134 : jd cL_law 1134 (.iload_n 3) 1 1135 := by decide +kernel
theorem dL_law_1135 : jd cL_law 1135 (.iconst 4) 1 1136 := by decide +kernel
theorem dL_law_1136 : jd cL_law 1136 .iadd 1 1137 := by decide +kernel
theorem dL_law_1137 : jd cL_law 1137 .iaload 1 1138 := by decide +kernel
theorem dL_law_1138 : jd cL_law 1138 (.aload_n 0) 1 1139 := by decide +kernel
theorem dL_law_1139 : jd cL_law 1139 (.iload_n 3) 1 1140 := by decide +kernel
theorem dL_law_1140 : jd cL_law 1140 (.iconst 5) 1 1141 := by decide +kernel
theorem dL_law_1141 : jd cL_law 1141 .iadd 1 1142 := by decide +kernel
theorem dL_law_1142 : jd cL_law 1142 .iaload 1 1143 := by decide +kernel
theorem dL_law_1143 : jd cL_law 1143 (.aload_n 0) 1 1144 := by decide +kernel
theorem dL_law_1144 : jd cL_law 1144 (.iload_n 3) 1 1145 := by decide +kernel
theorem dL_law_1145 : jd cL_law 1145 (.bipush 6) 2 1147 := by decide +kernel
theorem dL_law_1147 : jd cL_law 1147 .iadd 1 1148 := by decide +kernel
theorem dL_law_1148 : jd cL_law 1148 .iaload 1 1149 := by decide +kernel
theorem dL_law_1149 : jd cL_law 1149 (.invokevirtual 119) 3 1152 := by decide +kernel
theorem dL_law_1152 : jt cL_law 1152 (.if_icmp .eq 269) 269 1421 1155 := by decide +kernel
theorem dL_law_1155 : jd cL_law 1155 (.iconst 0) 1 1156 := by decide +kernel
theorem dL_law_1156 : jd cL_law 1156 .ireturn 1 1157 := by decide +kernel
theorem dL_law_1157 : jd cL_law 1157 (.aload_n 1) 1 1158 := by decide +kernel
theorem dL_law_1158 : jd cL_law 1158 (.aload_n 0) 1 1159 := by decide +kernel
theorem dL_law_1159 : jd cL_law 1159 (.iload_n 3) 1 1160 := by decide +kernel
theorem dL_law_1160 : jd cL_law 1160 (.iconst 1) 1 1161 := by decide +kernel
theorem dL_law_1161 : jd cL_law 1161 .iadd 1 1162 := by decide +kernel
theorem dL_law_1162 : jd cL_law 1162 .iaload 1 1163 := by decide +kernel
theorem dL_law_1163 : jd cL_law 1163 (.aload_n 0) 1 1164 := by decide +kernel
theorem dL_law_1164 : jd cL_law 1164 (.iload_n 3) 1 1165 := by decide +kernel
theorem dL_law_1165 : jd cL_law 1165 (.iconst 2) 1 1166 := by decide +kernel
theorem dL_law_1166 : jd cL_law 1166 .iadd 1 1167 := by decide +kernel
theorem dL_law_1167 : jd cL_law 1167 .iaload 1 1168 := by decide +kernel
theorem dL_law_1168 : jd cL_law 1168 (.aload_n 0) 1 1169 := by decide +kernel
theorem dL_law_1169 : jd cL_law 1169 (.iload_n 3) 1 1170 := by decide +kernel
theorem dL_law_1170 : jd cL_law 1170 (.iconst 3) 1 1171 := by decide +kernel
theorem dL_law_1171 : jd cL_law 1171 .iadd 1 1172 := by decide +kernel
theorem dL_law_1172 : jd cL_law 1172 .iaload 1 1173 := by decide +kernel
theorem dL_law_1173 : jd cL_law 1173 (.aload_n 0) 1 1174 := by decide +kernel
theorem dL_law_1174 : jd cL_law 1174 (.iload_n 3) 1 1175 := by decide +kernel
theorem dL_law_1175 : jd cL_law 1175 (.iconst 4) 1 1176 := by decide +kernel
theorem dL_law_1176 : jd cL_law 1176 .iadd 1 1177 := by decide +kernel
theorem dL_law_1177 : jd cL_law 1177 .iaload 1 1178 := by decide +kernel
theorem dL_law_1178 : jd cL_law 1178 (.aload_n 0) 1 1179 := by decide +kernel
theorem dL_law_1179 : jd cL_law 1179 (.iload_n 3) 1 1180 := by decide +kernel
theorem dL_law_1180 : jd cL_law 1180 (.iconst 5) 1 1181 := by decide +kernel
theorem dL_law_1181 : jd cL_law 1181 .iadd 1 1182 := by decide +kernel
theorem dL_law_1182 : jd cL_law 1182 .iaload 1 1183 := by decide +kernel
theorem dL_law_1183 : jd cL_law 1183 (.aload_n 0) 1 1184 := by decide +kernel
theorem dL_law_1184 : jd cL_law 1184 (.iload_n 3) 1 1185 := by decide +kernel
theorem dL_law_1185 : jd cL_law 1185 (.bipush 6) 2 1187 := by decide +kernel
theorem dL_law_1187 : jd cL_law 1187 .iadd 1 1188 := by decide +kernel
theorem dL_law_1188 : jd cL_law 1188 .iaload 1 1189 := by decide +kernel
theorem dL_law_1189 : jd cL_law 1189 (.invokevirtual 120) 3 1192 := by decide +kernel
theorem dL_law_1192 : jd cL_law 1192 (.aload_n 2) 1 1193 := by decide +kernel
theorem dL_law_1193 : jd cL_law 1193 (.aload_n 0) 1 1194 := by decide +kernel
theorem dL_law_1194 : jd cL_law 1194 (.iload_n 3) 1 1195 := by decide +kernel
theorem dL_law_1195 : jd cL_law 1195 (.iconst 1) 1 1196 := by decide +kernel
theorem dL_law_1196 : jd cL_law 1196 .iadd 1 1197 := by decide +kernel
theorem dL_law_1197 : jd cL_law 1197 .iaload 1 1198 := by decide +kernel
theorem dL_law_1198 : jd cL_law 1198 (.aload_n 0) 1 1199 := by decide +kernel
theorem dL_law_1199 : jd cL_law 1199 (.iload_n 3) 1 1200 := by decide +kernel
theorem dL_law_1200 : jd cL_law 1200 (.iconst 2) 1 1201 := by decide +kernel
theorem dL_law_1201 : jd cL_law 1201 .iadd 1 1202 := by decide +kernel
theorem dL_law_1202 : jd cL_law 1202 .iaload 1 1203 := by decide +kernel
theorem dL_law_1203 : jd cL_law 1203 (.aload_n 0) 1 1204 := by decide +kernel
theorem dL_law_1204 : jd cL_law 1204 (.iload_n 3) 1 1205 := by decide +kernel
theorem dL_law_1205 : jd cL_law 1205 (.iconst 3) 1 1206 := by decide +kernel
theorem dL_law_1206 : jd cL_law 1206 .iadd 1 1207 := by decide +kernel
theorem dL_law_1207 : jd cL_law 1207 .iaload 1 1208 := by decide +kernel
theorem dL_law_1208 : jd cL_law 1208 (.aload_n 0) 1 1209 := by decide +kernel
theorem dL_law_1209 : jd cL_law 1209 (.iload_n 3) 1 1210 := by decide +kernel
theorem dL_law_1210 : jd cL_law 1210 (.iconst 4) 1 1211 := by decide +kernel
theorem dL_law_1211 : jd cL_law 1211 .iadd 1 1212 := by decide +kernel
theorem dL_law_1212 : jd cL_law 1212 .iaload 1 1213 := by decide +kernel
theorem dL_law_1213 : jd cL_law 1213 (.aload_n 0) 1 1214 := by decide +kernel
theorem dL_law_1214 : jd cL_law 1214 (.iload_n 3) 1 1215 := by decide +kernel
theorem dL_law_1215 : jd cL_law 1215 (.iconst 5) 1 1216 := by decide +kernel
theorem dL_law_1216 : jd cL_law 1216 .iadd 1 1217 := by decide +kernel
theorem dL_law_1217 : jd cL_law 1217 .iaload 1 1218 := by decide +kernel
theorem dL_law_1218 : jd cL_law 1218 (.aload_n 0) 1 1219 := by decide +kernel
theorem dL_law_1219 : jd cL_law 1219 (.iload_n 3) 1 1220 := by decide +kernel
theorem dL_law_1220 : jd cL_law 1220 (.bipush 6) 2 1222 := by decide +kernel
theorem dL_law_1222 : jd cL_law 1222 .iadd 1 1223 := by decide +kernel
theorem dL_law_1223 : jd cL_law 1223 .iaload 1 1224 := by decide +kernel
theorem dL_law_1224 : jd cL_law 1224 (.invokevirtual 123) 3 1227 := by decide +kernel
theorem dL_law_1227 : jt cL_law 1227 (.if_icmp .eq 194) 194 1421 1230 := by decide +kernel
theorem dL_law_1230 : jd cL_law 1230 (.iconst 0) 1 1231 := by decide +kernel
theorem dL_law_1231 : jd cL_law 1231 .ireturn 1 1232 := by decide +kernel
theorem dL_law_1232 : jd cL_law 1232 (.aload_n 1) 1 1233 := by decide +kernel
theorem dL_law_1233 : jd cL_law 1233 (.aload_n 0) 1 1234 := by decide +kernel
theorem dL_law_1234 : jd cL_law 1234 (.iload_n 3) 1 1235 := by decide +kernel
theorem dL_law_1235 : jd cL_law 1235 (.iconst 1) 1 1236 := by decide +kernel
theorem dL_law_1236 : jd cL_law 1236 .iadd 1 1237 := by decide +kernel
theorem dL_law_1237 : jd cL_law 1237 .iaload 1 1238 := by decide +kernel
theorem dL_law_1238 : jd cL_law 1238 (.aload_n 0) 1 1239 := by decide +kernel
theorem dL_law_1239 : jd cL_law 1239 (.iload_n 3) 1 1240 := by decide +kernel
theorem dL_law_1240 : jd cL_law 1240 (.iconst 2) 1 1241 := by decide +kernel
theorem dL_law_1241 : jd cL_law 1241 .iadd 1 1242 := by decide +kernel
theorem dL_law_1242 : jd cL_law 1242 .iaload 1 1243 := by decide +kernel
theorem dL_law_1243 : jd cL_law 1243 (.aload_n 0) 1 1244 := by decide +kernel
theorem dL_law_1244 : jd cL_law 1244 (.iload_n 3) 1 1245 := by decide +kernel
theorem dL_law_1245 : jd cL_law 1245 (.iconst 3) 1 1246 := by decide +kernel
theorem dL_law_1246 : jd cL_law 1246 .iadd 1 1247 := by decide +kernel
theorem dL_law_1247 : jd cL_law 1247 .iaload 1 1248 := by decide +kernel
theorem dL_law_1248 : jd cL_law 1248 (.aload_n 0) 1 1249 := by decide +kernel
theorem dL_law_1249 : jd cL_law 1249 (.iload_n 3) 1 1250 := by decide +kernel
theorem dL_law_1250 : jd cL_law 1250 (.iconst 4) 1 1251 := by decide +kernel
theorem dL_law_1251 : jd cL_law 1251 .iadd 1 1252 := by decide +kernel
theorem dL_law_1252 : jd cL_law 1252 .iaload 1 1253 := by decide +kernel
theorem dL_law_1253 : jd cL_law 1253 (.invokevirtual 124) 3 1256 := by decide +kernel
theorem dL_law_1256 : jd cL_law 1256 (.aload_n 2) 1 1257 := by decide +kernel
theorem dL_law_1257 : jd cL_law 1257 (.aload_n 0) 1 1258 := by decide +kernel
theorem dL_law_1258 : jd cL_law 1258 (.iload_n 3) 1 1259 := by decide +kernel
theorem dL_law_1259 : jd cL_law 1259 (.iconst 1) 1 1260 := by decide +kernel
theorem dL_law_1260 : jd cL_law 1260 .iadd 1 1261 := by decide +kernel
theorem dL_law_1261 : jd cL_law 1261 .iaload 1 1262 := by decide +kernel
theorem dL_law_1262 : jd cL_law 1262 (.aload_n 0) 1 1263 := by decide +kernel
theorem dL_law_1263 : jd cL_law 1263 (.iload_n 3) 1 1264 := by decide +kernel
theorem dL_law_1264 : jd cL_law 1264 (.iconst 2) 1 1265 := by decide +kernel
theorem dL_law_1265 : jd cL_law 1265 .iadd 1 1266 := by decide +kernel
theorem dL_law_1266 : jd cL_law 1266 .iaload 1 1267 := by decide +kernel
theorem dL_law_1267 : jd cL_law 1267 (.aload_n 0) 1 1268 := by decide +kernel
theorem dL_law_1268 : jd cL_law 1268 (.iload_n 3) 1 1269 := by decide +kernel
theorem dL_law_1269 : jd cL_law 1269 (.iconst 3) 1 1270 := by decide +kernel
theorem dL_law_1270 : jd cL_law 1270 .iadd 1 1271 := by decide +kernel
theorem dL_law_1271 : jd cL_law 1271 .iaload 1 1272 := by decide +kernel
theorem dL_law_1272 : jd cL_law 1272 (.aload_n 0) 1 1273 := by decide +kernel
theorem dL_law_1273 : jd cL_law 1273 (.iload_n 3) 1 1274 := by decide +kernel
theorem dL_law_1274 : jd cL_law 1274 (.iconst 4) 1 1275 := by decide +kernel
theorem dL_law_1275 : jd cL_law 1275 .iadd 1 1276 := by decide +kernel
theorem dL_law_1276 : jd cL_law 1276 .iaload 1 1277 := by decide +kernel
theorem dL_law_1277 : jd cL_law 1277 (.invokevirtual 127) 3 1280 := by decide +kernel
theorem dL_law_1280 : jt cL_law 1280 (.if_icmp .eq 141) 141 1421 1283 := by decide +kernel
theorem dL_law_1283 : jd cL_law 1283 (.iconst 0) 1 1284 := by decide +kernel
theorem dL_law_1284 : jd cL_law 1284 .ireturn 1 1285 := by decide +kernel
theorem dL_law_1285 : jd cL_law 1285 (.aload_n 1) 1 1286 := by decide +kernel
theorem dL_law_1286 : jd cL_law 1286 (.aload_n 0) 1 1287 := by decide +kernel
theorem dL_law_1287 : jd cL_law 1287 (.iload_n 3) 1 1288 := by decide +kernel
theorem dL_law_1288 : jd cL_law 1288 (.iconst 1) 1 1289 := by decide +kernel
theorem dL_law_1289 : jd cL_law 1289 .iadd 1 1290 := by decide +kernel
theorem dL_law_1290 : jd cL_law 1290 .iaload 1 1291 := by decide +kernel
theorem dL_law_1291 : jd cL_law 1291 (.invokevirtual 128) 3 1294 := by decide +kernel
theorem dL_law_1294 : jd cL_law 1294 (.aload_n 2) 1 1295 := by decide +kernel
theorem dL_law_1295 : jd cL_law 1295 (.aload_n 0) 1 1296 := by decide +kernel
theorem dL_law_1296 : jd cL_law 1296 (.iload_n 3) 1 1297 := by decide +kernel
theorem dL_law_1297 : jd cL_law 1297 (.iconst 1) 1 1298 := by decide +kernel
theorem dL_law_1298 : jd cL_law 1298 .iadd 1 1299 := by decide +kernel
theorem dL_law_1299 : jd cL_law 1299 .iaload 1 1300 := by decide +kernel
theorem dL_law_1300 : jd cL_law 1300 (.invokevirtual 131) 3 1303 := by decide +kernel
theorem dL_law_1303 : jt cL_law 1303 (.if_icmp .eq 118) 118 1421 1306 := by decide +kernel
theorem dL_law_1306 : jd cL_law 1306 (.iconst 0) 1 1307 := by decide +kernel
theorem dL_law_1307 : jd cL_law 1307 .ireturn 1 1308 := by decide +kernel
theorem dL_law_1308 : jd cL_law 1308 (.aload_n 1) 1 1309 := by decide +kernel
theorem dL_law_1309 : jd cL_law 1309 (.invokevirtual 132) 3 1312 := by decide +kernel
theorem dL_law_1312 : jd cL_law 1312 (.aload_n 2) 1 1313 := by decide +kernel
theorem dL_law_1313 : jd cL_law 1313 (.invokevirtual 135) 3 1316 := by decide +kernel
theorem dL_law_1316 : jt cL_law 1316 (.if_icmp .eq 105) 105 1421 1319 := by decide +kernel
theorem dL_law_1319 : jd cL_law 1319 (.iconst 0) 1 1320 := by decide +kernel
theorem dL_law_1320 : jd cL_law 1320 .ireturn 1 1321 := by decide +kernel
theorem dL_law_1321 : jd cL_law 1321 (.aload_n 1) 1 1322 := by decide +kernel
theorem dL_law_1322 : jd cL_law 1322 (.invokevirtual 136) 3 1325 := by decide +kernel
theorem dL_law_1325 : jd cL_law 1325 (.aload_n 2) 1 1326 := by decide +kernel
theorem dL_law_1326 : jd cL_law 1326 (.invokevirtual 139) 3 1329 := by decide +kernel
theorem dL_law_1329 : jt cL_law 1329 (.if_icmp .eq 92) 92 1421 1332 := by decide +kernel
theorem dL_law_1332 : jd cL_law 1332 (.iconst 0) 1 1333 := by decide +kernel
theorem dL_law_1333 : jd cL_law 1333 .ireturn 1 1334 := by decide +kernel
theorem dL_law_1334 : jd cL_law 1334 (.aload_n 1) 1 1335 := by decide +kernel
theorem dL_law_1335 : jd cL_law 1335 (.invokevirtual 140) 3 1338 := by decide +kernel
theorem dL_law_1338 : jd cL_law 1338 (.aload_n 2) 1 1339 := by decide +kernel
theorem dL_law_1339 : jd cL_law 1339 (.invokevirtual 144) 3 1342 := by decide +kernel
theorem dL_law_1342 : jd cL_law 1342 .lcmp 1 1343 := by decide +kernel
theorem dL_law_1343 : jt cL_law 1343 (.ifCond .eq 78) 78 1421 1346 := by decide +kernel
theorem dL_law_1346 : jd cL_law 1346 (.iconst 0) 1 1347 := by decide +kernel
theorem dL_law_1347 : jd cL_law 1347 .ireturn 1 1348 := by decide +kernel
theorem dL_law_1348 : jd cL_law 1348 (.aload_n 1) 1 1349 := by decide +kernel
theorem dL_law_1349 : jd cL_law 1349 (.aload_n 0) 1 1350 := by decide +kernel
theorem dL_law_1350 : jd cL_law 1350 (.iload_n 3) 1 1351 := by decide +kernel
theorem dL_law_1351 : jd cL_law 1351 (.iconst 1) 1 1352 := by decide +kernel
theorem dL_law_1352 : jd cL_law 1352 .iadd 1 1353 := by decide +kernel
theorem dL_law_1353 : jd cL_law 1353 .iaload 1 1354 := by decide +kernel
theorem dL_law_1354 : jd cL_law 1354 (.invokevirtual 145) 3 1357 := by decide +kernel
theorem dL_law_1357 : jd cL_law 1357 (.aload_n 2) 1 1358 := by decide +kernel
theorem dL_law_1358 : jd cL_law 1358 (.aload_n 0) 1 1359 := by decide +kernel
theorem dL_law_1359 : jd cL_law 1359 (.iload_n 3) 1 1360 := by decide +kernel
theorem dL_law_1360 : jd cL_law 1360 (.iconst 1) 1 1361 := by decide +kernel
theorem dL_law_1361 : jd cL_law 1361 .iadd 1 1362 := by decide +kernel
theorem dL_law_1362 : jd cL_law 1362 .iaload 1 1363 := by decide +kernel
theorem dL_law_1363 : jd cL_law 1363 (.invokevirtual 148) 3 1366 := by decide +kernel
theorem dL_law_1366 : jt cL_law 1366 (.if_icmp .eq 55) 55 1421 1369 := by decide +kernel
theorem dL_law_1369 : jd cL_law 1369 (.iconst 0) 1 1370 := by decide +kernel
theorem dL_law_1370 : jd cL_law 1370 .ireturn 1 1371 := by decide +kernel
theorem dL_law_1371 : jd cL_law 1371 (.aload_n 1) 1 1372 := by decide +kernel
theorem dL_law_1372 : jd cL_law 1372 (.invokevirtual 149) 3 1375 := by decide +kernel
theorem dL_law_1375 : jd cL_law 1375 (.aload_n 2) 1 1376 := by decide +kernel
theorem dL_law_1376 : jd cL_law 1376 (.invokevirtual 152) 3 1379 := by decide +kernel
theorem dL_law_1379 : jt cL_law 1379 (.if_icmp .eq 42) 42 1421 1382 := by decide +kernel
theorem dL_law_1382 : jd cL_law 1382 (.iconst 0) 1 1383 := by decide +kernel
theorem dL_law_1383 : jd cL_law 1383 .ireturn 1 1384 := by decide +kernel
theorem dL_law_1384 : jd cL_law 1384 (.aload_n 1) 1 1385 := by decide +kernel
theorem dL_law_1385 : jd cL_law 1385 (.aload_n 0) 1 1386 := by decide +kernel
theorem dL_law_1386 : jd cL_law 1386 (.iload_n 3) 1 1387 := by decide +kernel
theorem dL_law_1387 : jd cL_law 1387 (.iconst 1) 1 1388 := by decide +kernel
theorem dL_law_1388 : jd cL_law 1388 .iadd 1 1389 := by decide +kernel
theorem dL_law_1389 : jd cL_law 1389 .iaload 1 1390 := by decide +kernel
theorem dL_law_1390 : jd cL_law 1390 (.invokevirtual 153) 3 1393 := by decide +kernel
theorem dL_law_1393 : jd cL_law 1393 (.aload_n 2) 1 1394 := by decide +kernel
theorem dL_law_1394 : jd cL_law 1394 (.aload_n 0) 1 1395 := by decide +kernel
theorem dL_law_1395 : jd cL_law 1395 (.iload_n 3) 1 1396 := by decide +kernel
theorem dL_law_1396 : jd cL_law 1396 (.iconst 1) 1 1397 := by decide +kernel
theorem dL_law_1397 : jd cL_law 1397 .iadd 1 1398 := by decide +kernel
theorem dL_law_1398 : jd cL_law 1398 .iaload 1 1399 := by decide +kernel
theorem dL_law_1399 : jd cL_law 1399 (.invokevirtual 156) 3 1402 := by decide +kernel
theorem dL_law_1402 : jt cL_law 1402 (.if_icmp .eq 19) 19 1421 1405 := by decide +kernel
theorem dL_law_1405 : jd cL_law 1405 (.iconst 0) 1 1406 := by decide +kernel
theorem dL_law_1406 : jd cL_law 1406 .ireturn 1 1407 := by decide +kernel
theorem dL_law_1407 : jd cL_law 1407 (.aload_n 1) 1 1408 := by decide +kernel
theorem dL_law_1408 : jd cL_law 1408 (.invokevirtual 157) 3 1411 := by decide +kernel
theorem dL_law_1411 : jd cL_law 1411 (.aload_n 2) 1 1412 := by decide +kernel
theorem dL_law_1412 : jd cL_law 1412 (.invokevirtual 160) 3 1415 := by decide +kernel
theorem dL_law_1415 : jd cL_law 1415 .lcmp 1 1416 := by decide +kernel
theorem dL_law_1416 : jt cL_law 1416 (.ifCond .eq 5) 5 1421 1419 := by decide +kernel
theorem dL_law_1419 : jd cL_law 1419 (.iconst 0) 1 1420 := by decide +kernel
theorem dL_law_1420 : jd cL_law 1420 .ireturn 1 1421 := by decide +kernel
theorem dL_law_1421 : jd cL_law 1421 (.iinc 3 7) 3 1424 := by decide +kernel
theorem dL_law_1424 : jt cL_law 1424 (.goto (-1406)) (-1406) 18 1427 := by decide +kernel
theorem dL_law_1427 : jd cL_law 1427 (.iconst 1) 1 1428 := by decide +kernel
theorem dL_law_1428 : jd cL_law 1428 .ireturn 1 1429 := by decide +kernel
end
section
/-! THE JUDGEMENT J: at method μ, world ws, place pc, locals lv, stack st, the machine comes to its end -/
def cls9 : List vw_C := [(RX0, TX0, 2), (RX1, TX1, 3), (RX2, TX2, 9), (RX3, TX3, 3), (RX4, TX4, 2), (RX5, TX5, 4), (RX6, TX6, 4), (RX7, TX7, 17), (RX8, TX8, 26)]
def gt : List Cond := lw_tbl.filter goodWord
def jisN : Cond → Bool
  | .fieldLinkNest .. => true
  | .methodLinkNest .. => true
  | _ => false
def nt : List Cond := lw_tbl.filter jisN
theorem gt_of {w : Cond} (h : w ∈ lw_tbl) (g : goodWord w = true) : w ∈ gt := List.mem_filter.mpr ⟨h, g⟩
theorem nt_of {w : Cond} (h : w ∈ lw_tbl) (g : jisN w = true) : w ∈ nt := List.mem_filter.mpr ⟨h, g⟩
theorem gt_good : GoodIn gt gt := fun _ h => ⟨h, good_of_word (List.mem_filter.mp h).2⟩
abbrev jG : Type := va_G × (ClassId × ClassId × ClassId × ClassId) × Nat
def jtys (G : jG) : List (ClassId × FieldType) := [(G.2.1.1, .int), (G.2.1.2.1, .boolean), (G.2.1.2.2.1, .object RX6), (G.2.1.2.2.2, .object RX5)]
def jA (G : jG) : Nat → Prop := fun q => G.2.2 ≤ q
def jH (G : jG) (ws : va_W) (H : Heap) : Prop := va_P G.1 cls9 ws H ∧ va_D (jA G) ws
def jN (U : State) : Prop := (∀ w ∈ nt, va_Nw w U) ∧ va_AO RX6 U ∧ va_AO RX5 U
def jK (G : jG) (U : State) : Prop := va_K G.1 cls9 (jtys G) U ∧ jN U
theorem jN.warm {s U : State} (hW : s.WarmedH U.vm) (h : jN s) : jN U := by
  refine ⟨fun w hw => ?_, va_AO.moved hW.alike h.2.1, va_AO.moved hW.alike h.2.2⟩
  have h1 := h.1 w hw
  have h2 := (List.mem_filter.mp hw).2
  cases w <;> first | exact va_Nw.warmF hW h1 | exact va_Nw.warmM hW h1 | (simp [jisN] at h2)
theorem jK.warm {G : jG} {s U : State} (hW : s.WarmedH U.vm) (h : jK G s) : jK G U := ⟨va_K.moved hW.alike h.1, h.2.warm hW⟩
abbrev jX : Type := Program × Launch × Env × Room × State × MethodId × Array Value × List Frame × Method × Code × (State → Prop)
def jC (G : jG) (X : jX) (μ : jM) : Prop := match X, μ with
  | (p, _, _, _, s, m, args, _, meth, c, _), (own, cc, nL, ret) => p.tables.exec = Jvm.exec ∧ c.code = cc ∧ c.maxLocals = nL ∧ s.vm.findClass own = some m.cls ∧ (∀ w ∈ gt, w.before args s = true) ∧ jK G s ∧ meth.sig.returnType = ret ∧ meth.locks = false ∧ G.2.2 ≤ s.heap.size
def J (G : jG) (X : jX) (μ : jM) (ws : va_W) (k n pc : Nat) (lv : List (Nat × Value)) (st : List Value) : Prop := match X with
  | (p, l, e, R, s, m, args, below, meth, c, Q) => jC G X μ → ∀ (H : Heap) (locs : List Loc) (ls : Array Slot), jH G ws H → va_S (jA G) s.heap H locs → lv_has ls μ.2.2.1 lv → W p l e R s m args below meth c H locs k n Q (F0 m pc ls st)
section JR
variable {G : jG} {X : jX} {μ : jM} {ws : va_W} {k n pc p2 : Nat} {lv : List (Nat × Value)} {st : List Value}
theorem J.iadd {x y : Int32} (d : jd μ.2.1 pc .iadd 1 p2)  (h : J G X μ ws k n p2 lv (.int (x + y) :: st)) : J G X μ ws k n pc lv (.int y :: .int x :: st) := by
  obtain ⟨p, l, e, R, s, m, args, below, meth, c, Q⟩ := X
  obtain ⟨own, cc, nL, ret⟩ := μ
  obtain ⟨d, rfl⟩ := d
  intro C H locs ls hW hS hl
  exact lv_iadd C.1 C.2.1 d (h C H locs ls hW hS hl)
theorem J.isub {x y : Int32} (d : jd μ.2.1 pc .isub 1 p2)  (h : J G X μ ws k n p2 lv (.int (x - y) :: st)) : J G X μ ws k n pc lv (.int y :: .int x :: st) := by
  obtain ⟨p, l, e, R, s, m, args, below, meth, c, Q⟩ := X
  obtain ⟨own, cc, nL, ret⟩ := μ
  obtain ⟨d, rfl⟩ := d
  intro C H locs ls hW hS hl
  exact lv_isub C.1 C.2.1 d (h C H locs ls hW hS hl)
theorem J.imul {x y : Int32} (d : jd μ.2.1 pc .imul 1 p2)  (h : J G X μ ws k n p2 lv (.int (x * y) :: st)) : J G X μ ws k n pc lv (.int y :: .int x :: st) := by
  obtain ⟨p, l, e, R, s, m, args, below, meth, c, Q⟩ := X
  obtain ⟨own, cc, nL, ret⟩ := μ
  obtain ⟨d, rfl⟩ := d
  intro C H locs ls hW hS hl
  exact lv_imul C.1 C.2.1 d (h C H locs ls hW hS hl)
theorem J.iand {x y : Int32} (d : jd μ.2.1 pc .iand 1 p2)  (h : J G X μ ws k n p2 lv (.int (x &&& y) :: st)) : J G X μ ws k n pc lv (.int y :: .int x :: st) := by
  obtain ⟨p, l, e, R, s, m, args, below, meth, c, Q⟩ := X
  obtain ⟨own, cc, nL, ret⟩ := μ
  obtain ⟨d, rfl⟩ := d
  intro C H locs ls hW hS hl
  exact lv_iand C.1 C.2.1 d (h C H locs ls hW hS hl)
theorem J.ior {x y : Int32} (d : jd μ.2.1 pc .ior 1 p2)  (h : J G X μ ws k n p2 lv (.int (x ||| y) :: st)) : J G X μ ws k n pc lv (.int y :: .int x :: st) := by
  obtain ⟨p, l, e, R, s, m, args, below, meth, c, Q⟩ := X
  obtain ⟨own, cc, nL, ret⟩ := μ
  obtain ⟨d, rfl⟩ := d
  intro C H locs ls hW hS hl
  exact lv_ior C.1 C.2.1 d (h C H locs ls hW hS hl)
theorem J.ixor {x y : Int32} (d : jd μ.2.1 pc .ixor 1 p2)  (h : J G X μ ws k n p2 lv (.int (x ^^^ y) :: st)) : J G X μ ws k n pc lv (.int y :: .int x :: st) := by
  obtain ⟨p, l, e, R, s, m, args, below, meth, c, Q⟩ := X
  obtain ⟨own, cc, nL, ret⟩ := μ
  obtain ⟨d, rfl⟩ := d
  intro C H locs ls hW hS hl
  exact lv_ixor C.1 C.2.1 d (h C H locs ls hW hS hl)
theorem J.ishl {x y : Int32} (d : jd μ.2.1 pc .ishl 1 p2)  (h : J G X μ ws k n p2 lv (.int (x <<< (y &&& 31)) :: st)) : J G X μ ws k n pc lv (.int y :: .int x :: st) := by
  obtain ⟨p, l, e, R, s, m, args, below, meth, c, Q⟩ := X
  obtain ⟨own, cc, nL, ret⟩ := μ
  obtain ⟨d, rfl⟩ := d
  intro C H locs ls hW hS hl
  exact lv_ishl C.1 C.2.1 d (h C H locs ls hW hS hl)
theorem J.ladd {x y : Int64} (d : jd μ.2.1 pc .ladd 1 p2)  (h : J G X μ ws k n p2 lv (.long (x + y) :: st)) : J G X μ ws k n pc lv (.long y :: .long x :: st) := by
  obtain ⟨p, l, e, R, s, m, args, below, meth, c, Q⟩ := X
  obtain ⟨own, cc, nL, ret⟩ := μ
  obtain ⟨d, rfl⟩ := d
  intro C H locs ls hW hS hl
  exact lv_ladd C.1 C.2.1 d (h C H locs ls hW hS hl)
theorem J.lsub {x y : Int64} (d : jd μ.2.1 pc .lsub 1 p2)  (h : J G X μ ws k n p2 lv (.long (x - y) :: st)) : J G X μ ws k n pc lv (.long y :: .long x :: st) := by
  obtain ⟨p, l, e, R, s, m, args, below, meth, c, Q⟩ := X
  obtain ⟨own, cc, nL, ret⟩ := μ
  obtain ⟨d, rfl⟩ := d
  intro C H locs ls hW hS hl
  exact lv_lsub C.1 C.2.1 d (h C H locs ls hW hS hl)
theorem J.lmul {x y : Int64} (d : jd μ.2.1 pc .lmul 1 p2)  (h : J G X μ ws k n p2 lv (.long (x * y) :: st)) : J G X μ ws k n pc lv (.long y :: .long x :: st) := by
  obtain ⟨p, l, e, R, s, m, args, below, meth, c, Q⟩ := X
  obtain ⟨own, cc, nL, ret⟩ := μ
  obtain ⟨d, rfl⟩ := d
  intro C H locs ls hW hS hl
  exact lv_lmul C.1 C.2.1 d (h C H locs ls hW hS hl)
theorem J.idiv {x y : Int32} (d : jd μ.2.1 pc .idiv 1 p2) (hne : ¬ y = 0) (h : J G X μ ws k n p2 lv (.int (x / y) :: st)) : J G X μ ws k n pc lv (.int y :: .int x :: st) := by
  obtain ⟨p, l, e, R, s, m, args, below, meth, c, Q⟩ := X
  obtain ⟨own, cc, nL, ret⟩ := μ
  obtain ⟨d, rfl⟩ := d
  intro C H locs ls hW hS hl
  exact lv_idiv C.1 C.2.1 d hne (h C H locs ls hW hS hl)
theorem J.irem {x y : Int32} (d : jd μ.2.1 pc .irem 1 p2) (hne : ¬ y = 0) (h : J G X μ ws k n p2 lv (.int (x - x / y * y) :: st)) : J G X μ ws k n pc lv (.int y :: .int x :: st) := by
  obtain ⟨p, l, e, R, s, m, args, below, meth, c, Q⟩ := X
  obtain ⟨own, cc, nL, ret⟩ := μ
  obtain ⟨d, rfl⟩ := d
  intro C H locs ls hW hS hl
  exact lv_irem C.1 C.2.1 d hne (h C H locs ls hW hS hl)
theorem J.ldiv {x y : Int64} (d : jd μ.2.1 pc .ldiv 1 p2) (hne : ¬ y = 0) (h : J G X μ ws k n p2 lv (.long (x / y) :: st)) : J G X μ ws k n pc lv (.long y :: .long x :: st) := by
  obtain ⟨p, l, e, R, s, m, args, below, meth, c, Q⟩ := X
  obtain ⟨own, cc, nL, ret⟩ := μ
  obtain ⟨d, rfl⟩ := d
  intro C H locs ls hW hS hl
  exact lv_ldiv C.1 C.2.1 d hne (h C H locs ls hW hS hl)
theorem J.ineg {x : Int32} (d : jd μ.2.1 pc .ineg 1 p2)  (h : J G X μ ws k n p2 lv (.int (-x) :: st)) : J G X μ ws k n pc lv (.int x :: st) := by
  obtain ⟨p, l, e, R, s, m, args, below, meth, c, Q⟩ := X
  obtain ⟨own, cc, nL, ret⟩ := μ
  obtain ⟨d, rfl⟩ := d
  intro C H locs ls hW hS hl
  exact lv_ineg C.1 C.2.1 d (h C H locs ls hW hS hl)
theorem J.i2l {x : Int32} (d : jd μ.2.1 pc .i2l 1 p2)  (h : J G X μ ws k n p2 lv (.long x.toInt64 :: st)) : J G X μ ws k n pc lv (.int x :: st) := by
  obtain ⟨p, l, e, R, s, m, args, below, meth, c, Q⟩ := X
  obtain ⟨own, cc, nL, ret⟩ := μ
  obtain ⟨d, rfl⟩ := d
  intro C H locs ls hW hS hl
  exact lv_i2l C.1 C.2.1 d rfl (h C H locs ls hW hS hl)
theorem J.lcmp {x y : Int64} (d : jd μ.2.1 pc .lcmp 1 p2)  (h : J G X μ ws k n p2 lv (.int (lg_cmp x y) :: st)) : J G X μ ws k n pc lv (.long y :: .long x :: st) := by
  obtain ⟨p, l, e, R, s, m, args, below, meth, c, Q⟩ := X
  obtain ⟨own, cc, nL, ret⟩ := μ
  obtain ⟨d, rfl⟩ := d
  intro C H locs ls hW hS hl
  exact W.lcmp C.1 C.2.1 d (h C H locs ls hW hS hl)
theorem J.iconst {z : Int} (v : Int32) (d : jd μ.2.1 pc (.iconst z) 1 p2) (hv : Int32.ofInt z = v) (h : J G X μ ws k n p2 lv (.int v :: st)) : J G X μ ws k n pc lv (st) := by
  obtain ⟨p, l, e, R, s, m, args, below, meth, c, Q⟩ := X
  obtain ⟨own, cc, nL, ret⟩ := μ
  obtain ⟨d, rfl⟩ := d
  intro C H locs ls hW hS hl
  exact lv_iconst C.1 C.2.1 d hv (h C H locs ls hW hS hl)
theorem J.bipush {z : Int} (v : Int32) (d : jd μ.2.1 pc (.bipush z) 2 p2) (hv : (Int8.ofInt z).toInt32 = v) (h : J G X μ ws k n p2 lv (.int v :: st)) : J G X μ ws k n pc lv (st) := by
  obtain ⟨p, l, e, R, s, m, args, below, meth, c, Q⟩ := X
  obtain ⟨own, cc, nL, ret⟩ := μ
  obtain ⟨d, rfl⟩ := d
  intro C H locs ls hW hS hl
  exact lv_bipush C.1 C.2.1 d hv (h C H locs ls hW hS hl)
theorem J.sipush {z : Int} (v : Int32) (d : jd μ.2.1 pc (.sipush z) 3 p2) (hv : (Int16.ofInt z).toInt32 = v) (h : J G X μ ws k n p2 lv (.int v :: st)) : J G X μ ws k n pc lv (st) := by
  obtain ⟨p, l, e, R, s, m, args, below, meth, c, Q⟩ := X
  obtain ⟨own, cc, nL, ret⟩ := μ
  obtain ⟨d, rfl⟩ := d
  intro C H locs ls hW hS hl
  exact lv_sipush C.1 C.2.1 d hv (h C H locs ls hW hS hl)
theorem J.lconst {z : Fin 2} (v : Int64) (d : jd μ.2.1 pc (.lconst z) 1 p2) (hv : Int64.ofNat (z : Nat) = v) (h : J G X μ ws k n p2 lv (.long v :: st)) : J G X μ ws k n pc lv (st) := by
  obtain ⟨p, l, e, R, s, m, args, below, meth, c, Q⟩ := X
  obtain ⟨own, cc, nL, ret⟩ := μ
  obtain ⟨d, rfl⟩ := d
  intro C H locs ls hW hS hl
  exact lv_lconst C.1 C.2.1 d hv (h C H locs ls hW hS hl)
theorem J.ldc2 {ix : Nat} {v : Int64} (d : jd μ.2.1 pc (.ldc2_w ix) 3 p2) (hw : Cond.constantLong μ.1 ix v ∈ gt) (h : J G X μ ws k n p2 lv (.long v :: st)) : J G X μ ws k n pc lv (st) := by
  obtain ⟨p, l, e, R, s, m, args, below, meth, c, Q⟩ := X
  obtain ⟨own, cc, nL, ret⟩ := μ
  obtain ⟨d, rfl⟩ := d
  intro C H locs ls hW hS hl
  exact lv_ldc2 C.1 C.2.1 C.2.2.2.1 (C.2.2.2.2.1 _ hw) d (h C H locs ls hW hS hl)
theorem J.dup {v : Value} (d : jd μ.2.1 pc .dup 1 p2) (hc : v.category = 1) (h : J G X μ ws k n p2 lv (v :: v :: st)) : J G X μ ws k n pc lv (v :: st) := by
  obtain ⟨p, l, e, R, s, m, args, below, meth, c, Q⟩ := X
  obtain ⟨own, cc, nL, ret⟩ := μ
  obtain ⟨d, rfl⟩ := d
  intro C H locs ls hW hS hl
  exact lv_dup C.1 C.2.1 d hc (h C H locs ls hW hS hl)
theorem J.dup2 {v u : Value} (d : jd μ.2.1 pc .dup2 1 p2) (hc : v.category = 1) (hc2 : u.category = 1) (h : J G X μ ws k n p2 lv (v :: u :: v :: u :: st)) : J G X μ ws k n pc lv (v :: u :: st) := by
  obtain ⟨p, l, e, R, s, m, args, below, meth, c, Q⟩ := X
  obtain ⟨own, cc, nL, ret⟩ := μ
  obtain ⟨d, rfl⟩ := d
  intro C H locs ls hW hS hl
  exact lv_dup2_11 C.1 C.2.1 d hc hc2 (h C H locs ls hW hS hl)
theorem J.pop {v : Value} (d : jd μ.2.1 pc .pop 1 p2) (hc : v.category = 1) (h : J G X μ ws k n p2 lv (st)) : J G X μ ws k n pc lv (v :: st) := by
  obtain ⟨p, l, e, R, s, m, args, below, meth, c, Q⟩ := X
  obtain ⟨own, cc, nL, ret⟩ := μ
  obtain ⟨d, rfl⟩ := d
  intro C H locs ls hW hS hl
  exact lv_pop C.1 C.2.1 d hc (h C H locs ls hW hS hl)
theorem J.aconst_null  (d : jd μ.2.1 pc .aconst_null 1 p2)  (h : J G X μ ws k n p2 lv (.null :: st)) : J G X μ ws k n pc lv (st) := by
  obtain ⟨p, l, e, R, s, m, args, below, meth, c, Q⟩ := X
  obtain ⟨own, cc, nL, ret⟩ := μ
  obtain ⟨d, rfl⟩ := d
  intro C H locs ls hW hS hl
  exact lv_null C.1 C.2.1 d (h C H locs ls hW hS hl)
theorem J.iload_n (q : Nat) {f : Fin 4} {x : Int32} (d : jd μ.2.1 pc (.iload_n f) 1 p2) (hq : lv[q]? = some ((f : Nat), .int x)) (h : J G X μ ws k n p2 lv (.int x :: st)) : J G X μ ws k n pc lv (st) := by
  obtain ⟨p, l, e, R, s, m, args, below, meth, c, Q⟩ := X
  obtain ⟨own, cc, nL, ret⟩ := μ
  obtain ⟨d, rfl⟩ := d
  intro C H locs ls hW hS hl
  exact lv_iload_n C.1 C.2.1 d rfl (lv_at hl q hq) (h C H locs ls hW hS hl)
theorem J.iload (q : Nat) {i : Nat} {x : Int32} (d : jd μ.2.1 pc (.iload i) 2 p2) (hq : lv[q]? = some (i, .int x)) (h : J G X μ ws k n p2 lv (.int x :: st)) : J G X μ ws k n pc lv (st) := by
  obtain ⟨p, l, e, R, s, m, args, below, meth, c, Q⟩ := X
  obtain ⟨own, cc, nL, ret⟩ := μ
  obtain ⟨d, rfl⟩ := d
  intro C H locs ls hW hS hl
  exact lv_iload C.1 C.2.1 d (lv_at hl q hq) (h C H locs ls hW hS hl)
theorem J.lload_n (q : Nat) {f : Fin 4} {x : Int64} (d : jd μ.2.1 pc (.lload_n f) 1 p2) (hq : lv[q]? = some ((f : Nat), .long x)) (h : J G X μ ws k n p2 lv (.long x :: st)) : J G X μ ws k n pc lv (st) := by
  obtain ⟨p, l, e, R, s, m, args, below, meth, c, Q⟩ := X
  obtain ⟨own, cc, nL, ret⟩ := μ
  obtain ⟨d, rfl⟩ := d
  intro C H locs ls hW hS hl
  exact lv_lload_n C.1 C.2.1 d rfl (lv_at hl q hq) (h C H locs ls hW hS hl)
theorem J.lload (q : Nat) {i : Nat} {x : Int64} (d : jd μ.2.1 pc (.lload i) 2 p2) (hq : lv[q]? = some (i, .long x)) (h : J G X μ ws k n p2 lv (.long x :: st)) : J G X μ ws k n pc lv (st) := by
  obtain ⟨p, l, e, R, s, m, args, below, meth, c, Q⟩ := X
  obtain ⟨own, cc, nL, ret⟩ := μ
  obtain ⟨d, rfl⟩ := d
  intro C H locs ls hW hS hl
  exact lv_lload C.1 C.2.1 d (lv_at hl q hq) (h C H locs ls hW hS hl)
theorem J.aload_n (q : Nat) {f : Fin 4} {x : Nat} (d : jd μ.2.1 pc (.aload_n f) 1 p2) (hq : lv[q]? = some ((f : Nat), .ref x)) (h : J G X μ ws k n p2 lv (.ref x :: st)) : J G X μ ws k n pc lv (st) := by
  obtain ⟨p, l, e, R, s, m, args, below, meth, c, Q⟩ := X
  obtain ⟨own, cc, nL, ret⟩ := μ
  obtain ⟨d, rfl⟩ := d
  intro C H locs ls hW hS hl
  exact lv_aload_n C.1 C.2.1 d rfl (lv_at hl q hq) (h C H locs ls hW hS hl)
theorem J.aload (q : Nat) {i : Nat} {x : Nat} (d : jd μ.2.1 pc (.aload i) 2 p2) (hq : lv[q]? = some (i, .ref x)) (h : J G X μ ws k n p2 lv (.ref x :: st)) : J G X μ ws k n pc lv (st) := by
  obtain ⟨p, l, e, R, s, m, args, below, meth, c, Q⟩ := X
  obtain ⟨own, cc, nL, ret⟩ := μ
  obtain ⟨d, rfl⟩ := d
  intro C H locs ls hW hS hl
  exact lv_aload C.1 C.2.1 d (lv_at hl q hq) (h C H locs ls hW hS hl)
theorem J.aload_nN (q : Nat) {f : Fin 4} (d : jd μ.2.1 pc (.aload_n f) 1 p2) (hq : lv[q]? = some ((f : Nat), .null)) (h : J G X μ ws k n p2 lv (.null :: st)) : J G X μ ws k n pc lv (st) := by
  obtain ⟨p, l, e, R, s, m, args, below, meth, c, Q⟩ := X
  obtain ⟨own, cc, nL, ret⟩ := μ
  obtain ⟨d, rfl⟩ := d
  intro C H locs ls hW hS hl
  exact lv_aload_nN C.1 C.2.1 d rfl (lv_at hl q hq) (h C H locs ls hW hS hl)
theorem J.aloadN (q : Nat) {i : Nat} (d : jd μ.2.1 pc (.aload i) 2 p2) (hq : lv[q]? = some (i, .null)) (h : J G X μ ws k n p2 lv (.null :: st)) : J G X μ ws k n pc lv (st) := by
  obtain ⟨p, l, e, R, s, m, args, below, meth, c, Q⟩ := X
  obtain ⟨own, cc, nL, ret⟩ := μ
  obtain ⟨d, rfl⟩ := d
  intro C H locs ls hW hS hl
  exact lv_aloadN C.1 C.2.1 d (lv_at hl q hq) (h C H locs ls hW hS hl)
theorem J.istore_n (ks : List Nat) {f : Fin 4} {x : Int32} {lv' : List (Nat × Value)} (d : jd μ.2.1 pc (.istore_n f) 1 p2) (hn : Nat.ble ((f : Nat) + 1) μ.2.2.1 = true) (hv : lv_pick (((f : Nat), .int x) :: lv.filter (fun q => !(q.1 == (f : Nat)) && !(q.1 + 1 == (f : Nat) && q.2.category == 2))) ks = lv') (h : J G X μ ws k n p2 lv' st) : J G X μ ws k n pc lv (.int x :: st) := by
  obtain ⟨p, l, e, R, s, m, args, below, meth, c, Q⟩ := X
  obtain ⟨own, cc, nL, ret⟩ := μ
  obtain ⟨d, rfl⟩ := d
  intro C H locs ls hW hS hl
  exact lv_istore_n C.1 C.2.1 d rfl hl (Nat.le_of_ble_eq_true hn) rfl (fun ls' hl' => h C H locs ls' hW hS (lv_sub hl' ks hv))
theorem J.istore (ks : List Nat) {i : Nat} {x : Int32} {lv' : List (Nat × Value)} (d : jd μ.2.1 pc (.istore i) 2 p2) (hn : Nat.ble (i + 1) μ.2.2.1 = true) (hv : lv_pick ((i, .int x) :: lv.filter (fun q => !(q.1 == i) && !(q.1 + 1 == i && q.2.category == 2))) ks = lv') (h : J G X μ ws k n p2 lv' st) : J G X μ ws k n pc lv (.int x :: st) := by
  obtain ⟨p, l, e, R, s, m, args, below, meth, c, Q⟩ := X
  obtain ⟨own, cc, nL, ret⟩ := μ
  obtain ⟨d, rfl⟩ := d
  intro C H locs ls hW hS hl
  exact lv_istore C.1 C.2.1 d hl (Nat.le_of_ble_eq_true hn) rfl (fun ls' hl' => h C H locs ls' hW hS (lv_sub hl' ks hv))
theorem J.lstore_n (ks : List Nat) {f : Fin 4} {x : Int64} {lv' : List (Nat × Value)} (d : jd μ.2.1 pc (.lstore_n f) 1 p2) (hn : Nat.ble ((f : Nat) + 1 + 1) μ.2.2.1 = true) (hv : lv_pick (((f : Nat), .long x) :: lv.filter (fun q => !(q.1 == (f : Nat)) && (!(q.1 == (f : Nat) + 1) && !(q.1 + 1 == (f : Nat) && q.2.category == 2)))) ks = lv') (h : J G X μ ws k n p2 lv' st) : J G X μ ws k n pc lv (.long x :: st) := by
  obtain ⟨p, l, e, R, s, m, args, below, meth, c, Q⟩ := X
  obtain ⟨own, cc, nL, ret⟩ := μ
  obtain ⟨d, rfl⟩ := d
  intro C H locs ls hW hS hl
  exact lv_lstore_n C.1 C.2.1 d rfl hl (Nat.le_of_ble_eq_true hn) rfl (fun ls' hl' => h C H locs ls' hW hS (lv_sub hl' ks hv))
theorem J.lstore (ks : List Nat) {i : Nat} {x : Int64} {lv' : List (Nat × Value)} (d : jd μ.2.1 pc (.lstore i) 2 p2) (hn : Nat.ble (i + 1 + 1) μ.2.2.1 = true) (hv : lv_pick ((i, .long x) :: lv.filter (fun q => !(q.1 == i) && (!(q.1 == i + 1) && !(q.1 + 1 == i && q.2.category == 2)))) ks = lv') (h : J G X μ ws k n p2 lv' st) : J G X μ ws k n pc lv (.long x :: st) := by
  obtain ⟨p, l, e, R, s, m, args, below, meth, c, Q⟩ := X
  obtain ⟨own, cc, nL, ret⟩ := μ
  obtain ⟨d, rfl⟩ := d
  intro C H locs ls hW hS hl
  exact lv_lstore C.1 C.2.1 d hl (Nat.le_of_ble_eq_true hn) rfl (fun ls' hl' => h C H locs ls' hW hS (lv_sub hl' ks hv))
theorem J.astore_n (ks : List Nat) {f : Fin 4} {x : Nat} {lv' : List (Nat × Value)} (d : jd μ.2.1 pc (.astore_n f) 1 p2) (hn : Nat.ble ((f : Nat) + 1) μ.2.2.1 = true) (hv : lv_pick (((f : Nat), .ref x) :: lv.filter (fun q => !(q.1 == (f : Nat)) && !(q.1 + 1 == (f : Nat) && q.2.category == 2))) ks = lv') (h : J G X μ ws k n p2 lv' st) : J G X μ ws k n pc lv (.ref x :: st) := by
  obtain ⟨p, l, e, R, s, m, args, below, meth, c, Q⟩ := X
  obtain ⟨own, cc, nL, ret⟩ := μ
  obtain ⟨d, rfl⟩ := d
  intro C H locs ls hW hS hl
  exact lv_astore_n C.1 C.2.1 d rfl hl (Nat.le_of_ble_eq_true hn) rfl (fun ls' hl' => h C H locs ls' hW hS (lv_sub hl' ks hv))
theorem J.astore (ks : List Nat) {i : Nat} {x : Nat} {lv' : List (Nat × Value)} (d : jd μ.2.1 pc (.astore i) 2 p2) (hn : Nat.ble (i + 1) μ.2.2.1 = true) (hv : lv_pick ((i, .ref x) :: lv.filter (fun q => !(q.1 == i) && !(q.1 + 1 == i && q.2.category == 2))) ks = lv') (h : J G X μ ws k n p2 lv' st) : J G X μ ws k n pc lv (.ref x :: st) := by
  obtain ⟨p, l, e, R, s, m, args, below, meth, c, Q⟩ := X
  obtain ⟨own, cc, nL, ret⟩ := μ
  obtain ⟨d, rfl⟩ := d
  intro C H locs ls hW hS hl
  exact lv_astore C.1 C.2.1 d hl (Nat.le_of_ble_eq_true hn) rfl (fun ls' hl' => h C H locs ls' hW hS (lv_sub hl' ks hv))
theorem J.astore_nN (ks : List Nat) {f : Fin 4} {lv' : List (Nat × Value)} (d : jd μ.2.1 pc (.astore_n f) 1 p2) (hn : Nat.ble ((f : Nat) + 1) μ.2.2.1 = true) (hv : lv_pick (((f : Nat), .null) :: lv.filter (fun q => !(q.1 == (f : Nat)) && !(q.1 + 1 == (f : Nat) && q.2.category == 2))) ks = lv') (h : J G X μ ws k n p2 lv' st) : J G X μ ws k n pc lv (.null :: st) := by
  obtain ⟨p, l, e, R, s, m, args, below, meth, c, Q⟩ := X
  obtain ⟨own, cc, nL, ret⟩ := μ
  obtain ⟨d, rfl⟩ := d
  intro C H locs ls hW hS hl
  exact lv_astore_nN C.1 C.2.1 d rfl hl (Nat.le_of_ble_eq_true hn) rfl (fun ls' hl' => h C H locs ls' hW hS (lv_sub hl' ks hv))
theorem J.astoreN (ks : List Nat) {i : Nat} {lv' : List (Nat × Value)} (d : jd μ.2.1 pc (.astore i) 2 p2) (hn : Nat.ble (i + 1) μ.2.2.1 = true) (hv : lv_pick ((i, .null) :: lv.filter (fun q => !(q.1 == i) && !(q.1 + 1 == i && q.2.category == 2))) ks = lv') (h : J G X μ ws k n p2 lv' st) : J G X μ ws k n pc lv (.null :: st) := by
  obtain ⟨p, l, e, R, s, m, args, below, meth, c, Q⟩ := X
  obtain ⟨own, cc, nL, ret⟩ := μ
  obtain ⟨d, rfl⟩ := d
  intro C H locs ls hW hS hl
  exact lv_astoreN C.1 C.2.1 d hl (Nat.le_of_ble_eq_true hn) rfl (fun ls' hl' => h C H locs ls' hW hS (lv_sub hl' ks hv))
theorem J.iinc (q : Nat) (ks : List Nat) {i : Nat} {z : Int} {x v : Int32} {lv' : List (Nat × Value)} (d : jd μ.2.1 pc (.iinc i z) 3 p2) (hq : lv[q]? = some (i, .int x)) (he : x + Int32.ofInt z = v) (hn : Nat.ble (i + 1) μ.2.2.1 = true) (hv : lv_pick ((i, .int v) :: lv.filter (fun q => !(q.1 == i) && !(q.1 + 1 == i && q.2.category == 2))) ks = lv') (h : J G X μ ws k n p2 lv' st) : J G X μ ws k n pc lv st := by
  obtain ⟨p, l, e, R, s, m, args, below, meth, c, Q⟩ := X
  obtain ⟨own, cc, nL, ret⟩ := μ
  obtain ⟨d, rfl⟩ := d
  intro C H locs ls hW hS hl
  exact lv_iinc C.1 C.2.1 d hl hq he (Nat.le_of_ble_eq_true hn) rfl (fun ls' hl' => h C H locs ls' hW hS (lv_sub hl' ks hv))
theorem J.if_eq {x : Int32} {off : Int} {tgt : Nat} (d : jt μ.2.1 pc (.ifCond .eq off) off tgt p2) (ht : x = 0 → J G X μ ws k n tgt lv st) (hf : ¬ x = 0 → J G X μ ws k n p2 lv st) : J G X μ ws k n pc lv (.int x :: st) := by
  obtain ⟨p, l, e, R, s, m, args, below, meth, c, Q⟩ := X
  obtain ⟨own, cc, nL, ret⟩ := μ
  obtain ⟨d, d2, rfl⟩ := d
  intro C H locs ls hW hS hl
  exact lv_if_eq C.1 C.2.1 d d2 (fun z => ht z C H locs ls hW hS hl) (fun z => hf z C H locs ls hW hS hl)
theorem J.icmp_eq {x y : Int32} {off : Int} {tgt : Nat} (d : jt μ.2.1 pc (.if_icmp .eq off) off tgt p2) (ht : x = y → J G X μ ws k n tgt lv st) (hf : ¬ x = y → J G X μ ws k n p2 lv st) : J G X μ ws k n pc lv (.int y :: .int x :: st) := by
  obtain ⟨p, l, e, R, s, m, args, below, meth, c, Q⟩ := X
  obtain ⟨own, cc, nL, ret⟩ := μ
  obtain ⟨d, d2, rfl⟩ := d
  intro C H locs ls hW hS hl
  exact lv_icmp_eq C.1 C.2.1 d d2 (fun z => ht z C H locs ls hW hS hl) (fun z => hf z C H locs ls hW hS hl)
theorem J.if_ne {x : Int32} {off : Int} {tgt : Nat} (d : jt μ.2.1 pc (.ifCond .ne off) off tgt p2) (ht : ¬ x = 0 → J G X μ ws k n tgt lv st) (hf : x = 0 → J G X μ ws k n p2 lv st) : J G X μ ws k n pc lv (.int x :: st) := by
  obtain ⟨p, l, e, R, s, m, args, below, meth, c, Q⟩ := X
  obtain ⟨own, cc, nL, ret⟩ := μ
  obtain ⟨d, d2, rfl⟩ := d
  intro C H locs ls hW hS hl
  exact lv_if_ne C.1 C.2.1 d d2 (fun z => ht z C H locs ls hW hS hl) (fun z => hf z C H locs ls hW hS hl)
theorem J.icmp_ne {x y : Int32} {off : Int} {tgt : Nat} (d : jt μ.2.1 pc (.if_icmp .ne off) off tgt p2) (ht : ¬ x = y → J G X μ ws k n tgt lv st) (hf : x = y → J G X μ ws k n p2 lv st) : J G X μ ws k n pc lv (.int y :: .int x :: st) := by
  obtain ⟨p, l, e, R, s, m, args, below, meth, c, Q⟩ := X
  obtain ⟨own, cc, nL, ret⟩ := μ
  obtain ⟨d, d2, rfl⟩ := d
  intro C H locs ls hW hS hl
  exact lv_icmp_ne C.1 C.2.1 d d2 (fun z => ht z C H locs ls hW hS hl) (fun z => hf z C H locs ls hW hS hl)
theorem J.if_lt {x : Int32} {off : Int} {tgt : Nat} (d : jt μ.2.1 pc (.ifCond .lt off) off tgt p2) (ht : x < 0 → J G X μ ws k n tgt lv st) (hf : ¬ x < 0 → J G X μ ws k n p2 lv st) : J G X μ ws k n pc lv (.int x :: st) := by
  obtain ⟨p, l, e, R, s, m, args, below, meth, c, Q⟩ := X
  obtain ⟨own, cc, nL, ret⟩ := μ
  obtain ⟨d, d2, rfl⟩ := d
  intro C H locs ls hW hS hl
  exact lv_if_lt C.1 C.2.1 d d2 (fun z => ht z C H locs ls hW hS hl) (fun z => hf z C H locs ls hW hS hl)
theorem J.icmp_lt {x y : Int32} {off : Int} {tgt : Nat} (d : jt μ.2.1 pc (.if_icmp .lt off) off tgt p2) (ht : x < y → J G X μ ws k n tgt lv st) (hf : ¬ x < y → J G X μ ws k n p2 lv st) : J G X μ ws k n pc lv (.int y :: .int x :: st) := by
  obtain ⟨p, l, e, R, s, m, args, below, meth, c, Q⟩ := X
  obtain ⟨own, cc, nL, ret⟩ := μ
  obtain ⟨d, d2, rfl⟩ := d
  intro C H locs ls hW hS hl
  exact lv_icmp_lt C.1 C.2.1 d d2 (fun z => ht z C H locs ls hW hS hl) (fun z => hf z C H locs ls hW hS hl)
theorem J.if_ge {x : Int32} {off : Int} {tgt : Nat} (d : jt μ.2.1 pc (.ifCond .ge off) off tgt p2) (ht : 0 ≤ x → J G X μ ws k n tgt lv st) (hf : ¬ 0 ≤ x → J G X μ ws k n p2 lv st) : J G X μ ws k n pc lv (.int x :: st) := by
  obtain ⟨p, l, e, R, s, m, args, below, meth, c, Q⟩ := X
  obtain ⟨own, cc, nL, ret⟩ := μ
  obtain ⟨d, d2, rfl⟩ := d
  intro C H locs ls hW hS hl
  exact lv_if_ge C.1 C.2.1 d d2 (fun z => ht z C H locs ls hW hS hl) (fun z => hf z C H locs ls hW hS hl)
theorem J.icmp_ge {x y : Int32} {off : Int} {tgt : Nat} (d : jt μ.2.1 pc (.if_icmp .ge off) off tgt p2) (ht : y ≤ x → J G X μ ws k n tgt lv st) (hf : ¬ y ≤ x → J G X μ ws k n p2 lv st) : J G X μ ws k n pc lv (.int y :: .int x :: st) := by
  obtain ⟨p, l, e, R, s, m, args, below, meth, c, Q⟩ := X
  obtain ⟨own, cc, nL, ret⟩ := μ
  obtain ⟨d, d2, rfl⟩ := d
  intro C H locs ls hW hS hl
  exact lv_icmp_ge C.1 C.2.1 d d2 (fun z => ht z C H locs ls hW hS hl) (fun z => hf z C H locs ls hW hS hl)
theorem J.if_gt {x : Int32} {off : Int} {tgt : Nat} (d : jt μ.2.1 pc (.ifCond .gt off) off tgt p2) (ht : 0 < x → J G X μ ws k n tgt lv st) (hf : ¬ 0 < x → J G X μ ws k n p2 lv st) : J G X μ ws k n pc lv (.int x :: st) := by
  obtain ⟨p, l, e, R, s, m, args, below, meth, c, Q⟩ := X
  obtain ⟨own, cc, nL, ret⟩ := μ
  obtain ⟨d, d2, rfl⟩ := d
  intro C H locs ls hW hS hl
  exact lv_if_gt C.1 C.2.1 d d2 (fun z => ht z C H locs ls hW hS hl) (fun z => hf z C H locs ls hW hS hl)
theorem J.icmp_gt {x y : Int32} {off : Int} {tgt : Nat} (d : jt μ.2.1 pc (.if_icmp .gt off) off tgt p2) (ht : y < x → J G X μ ws k n tgt lv st) (hf : ¬ y < x → J G X μ ws k n p2 lv st) : J G X μ ws k n pc lv (.int y :: .int x :: st) := by
  obtain ⟨p, l, e, R, s, m, args, below, meth, c, Q⟩ := X
  obtain ⟨own, cc, nL, ret⟩ := μ
  obtain ⟨d, d2, rfl⟩ := d
  intro C H locs ls hW hS hl
  exact lv_icmp_gt C.1 C.2.1 d d2 (fun z => ht z C H locs ls hW hS hl) (fun z => hf z C H locs ls hW hS hl)
theorem J.if_le {x : Int32} {off : Int} {tgt : Nat} (d : jt μ.2.1 pc (.ifCond .le off) off tgt p2) (ht : x ≤ 0 → J G X μ ws k n tgt lv st) (hf : ¬ x ≤ 0 → J G X μ ws k n p2 lv st) : J G X μ ws k n pc lv (.int x :: st) := by
  obtain ⟨p, l, e, R, s, m, args, below, meth, c, Q⟩ := X
  obtain ⟨own, cc, nL, ret⟩ := μ
  obtain ⟨d, d2, rfl⟩ := d
  intro C H locs ls hW hS hl
  exact lv_if_le C.1 C.2.1 d d2 (fun z => ht z C H locs ls hW hS hl) (fun z => hf z C H locs ls hW hS hl)
theorem J.icmp_le {x y : Int32} {off : Int} {tgt : Nat} (d : jt μ.2.1 pc (.if_icmp .le off) off tgt p2) (ht : x ≤ y → J G X μ ws k n tgt lv st) (hf : ¬ x ≤ y → J G X μ ws k n p2 lv st) : J G X μ ws k n pc lv (.int y :: .int x :: st) := by
  obtain ⟨p, l, e, R, s, m, args, below, meth, c, Q⟩ := X
  obtain ⟨own, cc, nL, ret⟩ := μ
  obtain ⟨d, d2, rfl⟩ := d
  intro C H locs ls hW hS hl
  exact lv_icmp_le C.1 C.2.1 d d2 (fun z => ht z C H locs ls hW hS hl) (fun z => hf z C H locs ls hW hS hl)
theorem J.goto {off : Int} {tgt : Nat} (d : jt μ.2.1 pc (.goto off) off tgt p2) (h : J G X μ ws k n tgt lv st) : J G X μ ws k n pc lv st := by
  obtain ⟨p, l, e, R, s, m, args, below, meth, c, Q⟩ := X
  obtain ⟨own, cc, nL, ret⟩ := μ
  obtain ⟨d, d2, rfl⟩ := d
  intro C H locs ls hW hS hl
  exact lv_goto C.1 C.2.1 d d2 (h C H locs ls hW hS hl)
theorem J.ifnull {off : Int} {tgt x : Nat} (d : jt μ.2.1 pc (.ifnull off) off tgt p2) (h : J G X μ ws k n p2 lv st) : J G X μ ws k n pc lv (.ref x :: st) := by
  obtain ⟨p, l, e, R, s, m, args, below, meth, c, Q⟩ := X
  obtain ⟨own, cc, nL, ret⟩ := μ
  obtain ⟨d, d2, rfl⟩ := d
  intro C H locs ls hW hS hl
  exact lv_ifnull C.1 C.2.1 d (h C H locs ls hW hS hl)
theorem J.ifnullN {off : Int} {tgt : Nat} (d : jt μ.2.1 pc (.ifnull off) off tgt p2) (h : J G X μ ws k n tgt lv st) : J G X μ ws k n pc lv (.null :: st) := by
  obtain ⟨p, l, e, R, s, m, args, below, meth, c, Q⟩ := X
  obtain ⟨own, cc, nL, ret⟩ := μ
  obtain ⟨d, d2, rfl⟩ := d
  intro C H locs ls hW hS hl
  exact lv_ifnullN C.1 C.2.1 d d2 (h C H locs ls hW hS hl)
theorem J.ifnonnull {off : Int} {tgt x : Nat} (d : jt μ.2.1 pc (.ifnonnull off) off tgt p2) (h : J G X μ ws k n tgt lv st) : J G X μ ws k n pc lv (.ref x :: st) := by
  obtain ⟨p, l, e, R, s, m, args, below, meth, c, Q⟩ := X
  obtain ⟨own, cc, nL, ret⟩ := μ
  obtain ⟨d, d2, rfl⟩ := d
  intro C H locs ls hW hS hl
  exact lv_ifnonnull C.1 C.2.1 d d2 (h C H locs ls hW hS hl)
theorem J.ifnonnullN {off : Int} {tgt : Nat} (d : jt μ.2.1 pc (.ifnonnull off) off tgt p2) (h : J G X μ ws k n p2 lv st) : J G X μ ws k n pc lv (.null :: st) := by
  obtain ⟨p, l, e, R, s, m, args, below, meth, c, Q⟩ := X
  obtain ⟨own, cc, nL, ret⟩ := μ
  obtain ⟨d, d2, rfl⟩ := d
  intro C H locs ls hW hS hl
  exact lv_ifnonnullN C.1 C.2.1 d (h C H locs ls hW hS hl)
theorem J.tableOut {dflt lo hi : Int} {offs : Array Int} {len tgt : Nat} {x : Int32} (d : jd μ.2.1 pc (.tableswitch dflt lo hi offs) len p2) (hx : x.toInt < lo ∨ hi < x.toInt) (ht : (pc : Int) + dflt = (tgt : Int)) (h : J G X μ ws k n tgt lv st) : J G X μ ws k n pc lv (.int x :: st) := by
  obtain ⟨p, l, e, R, s, m, args, below, meth, c, Q⟩ := X
  obtain ⟨own, cc, nL, ret⟩ := μ
  obtain ⟨d, rfl⟩ := d
  intro C H locs ls hW hS hl
  exact lv_tableOut C.1 C.2.1 d hx ht (h C H locs ls hW hS hl)
theorem J.tableIn {dflt lo hi off : Int} {offs : Array Int} {len tgt : Nat} {x : Int32} (d : jd μ.2.1 pc (.tableswitch dflt lo hi offs) len p2) (h1 : ¬ x.toInt < lo) (h2 : ¬ hi < x.toInt) (ho : offs[(x.toInt - lo).toNat]? = some off) (ht : (pc : Int) + off = (tgt : Int)) (h : J G X μ ws k n tgt lv st) : J G X μ ws k n pc lv (.int x :: st) := by
  obtain ⟨p, l, e, R, s, m, args, below, meth, c, Q⟩ := X
  obtain ⟨own, cc, nL, ret⟩ := μ
  obtain ⟨d, rfl⟩ := d
  intro C H locs ls hW hS hl
  exact lv_tableIn C.1 C.2.1 d h1 h2 ho ht (h C H locs ls hW hS hl)
theorem J.lookup {dflt off : Int} {ps : Array (Int × Int)} {len tgt : Nat} {x : Int32} (d : jd μ.2.1 pc (.lookupswitch dflt ps) len p2) (hp : (ps.toList.zip (ps.toList.drop 1)).all (fun (a, next) => a.1 < next.1) = true) (ho : Op.lookupswitch.offset ps.toList dflt x.toInt = off) (ht : (pc : Int) + off = (tgt : Int)) (h : J G X μ ws k n tgt lv st) : J G X μ ws k n pc lv (.int x :: st) := by
  obtain ⟨p, l, e, R, s, m, args, below, meth, c, Q⟩ := X
  obtain ⟨own, cc, nL, ret⟩ := μ
  obtain ⟨d, rfl⟩ := d
  intro C H locs ls hW hS hl
  exact lv_lookup C.1 C.2.1 d hp ho ht (h C H locs ls hW hS hl)
/-- fewer locals, or in another order -/
theorem J.loc (ks : List Nat) {lv' : List (Nat × Value)} (hv : lv_pick lv ks = lv') (h : J G X μ ws k n pc lv' st) : J G X μ ws k n pc lv st := by
  obtain ⟨p, l, e, R, s, m, args, below, meth, c, Q⟩ := X
  intro C H locs ls hW hS hl
  exact h C H locs ls hW hS (lv_sub hl ks hv)
def jpick (ws : va_W) (is : List Nat) (m : Nat) : va_W := is.filterMap (fun i => ws[i]?) ++ ws.drop m
def jnd (is : List Nat) (m : Nat) : Bool := va_nd is && is.all (fun i => Nat.blt i m)
theorem jpick_map (ws : va_W) : ∀ is : List Nat, ∃ js : List Nat, js.map (fun i => ws[i]?) = (is.filterMap (fun i => ws[i]?)).map some ∧ (∀ j ∈ js, j ∈ is) ∧ (va_nd is = true → va_nd js = true)
  | [] => ⟨[], rfl, fun _ h => h, fun h => h⟩
  | i :: is => by
    obtain ⟨js, h1, h2, h3⟩ := jpick_map ws is
    rcases hi : ws[i]? with _ | q
    · refine ⟨js, by simp [hi, h1], fun j hj => List.mem_cons_of_mem _ (h2 j hj), fun h => h3 ?_⟩
      simp only [va_nd, Bool.and_eq_true] at h
      exact h.2
    · refine ⟨i :: js, by simp [hi, h1], fun j hj => ?_, fun h => ?_⟩
      · rcases List.mem_cons.mp hj with rfl | hj
        · exact List.mem_cons_self
        · exact List.mem_cons_of_mem _ (h2 j hj)
      · simp only [va_nd, Bool.and_eq_true, decide_eq_true_eq] at h ⊢
        exact ⟨fun hh => h.1 (h2 _ hh), h3 h.2⟩
end JR
end
section
theorem jH.re {G : jG} {ws : va_W} {H : Heap} (h : jH G ws H) {is : List Nat} {m : Nat} (hnd : jnd is m = true) : jH G (jpick ws is m) H := by
  simp only [jnd, Bool.and_eq_true, List.all_eq_true] at hnd
  obtain ⟨hn, hm⟩ := hnd
  have hm : ∀ i ∈ is, i < m := fun i hi => Nat.blt_eq.mp (hm i hi)
  obtain ⟨js, j1, j2, j3⟩ := jpick_map ws is
  refine ⟨fun k q hq => ?_, va_D.app (h.2.sub js (j3 hn) j1) ⟨fun i j p q hp hq e => ?_, fun k q hq => ?_⟩ (fun i j p q hp hq e => ?_)⟩
  · rcases List.mem_append.mp (List.mem_of_getElem? hq) with h1 | h1
    · obtain ⟨i, -, hi⟩ := List.mem_filterMap.mp h1
      exact h.1 i q hi
    · obtain ⟨i, hi⟩ := List.getElem?_of_mem (List.mem_of_mem_drop h1)
      exact h.1 i q hi
  · rw [List.getElem?_drop] at hp hq
    have := h.2.1 _ _ p q hp hq e
    omega
  · rw [List.getElem?_drop] at hq
    exact h.2.2 _ q hq
  · obtain ⟨i', hi', hp'⟩ := List.mem_filterMap.mp (List.mem_of_getElem? hp)
    rw [List.getElem?_drop] at hq
    have := h.2.1 _ _ p q hp' hq e
    have := hm i' hi'
    omega
theorem jH.perm {G : jG} {ws ws' : va_W} {H : Heap} (hp : ws.Perm ws') (h : jH G ws H) : jH G ws' H := by
  have hn : (ws.map Prod.fst).Nodup := by
    show List.Pairwise (· ≠ ·) _
    rw [List.pairwise_iff_getElem]
    intro i j hi hj hij e
    have hi' : i < ws.length := by simpa using hi
    have hj' : j < ws.length := by simpa using hj
    have := h.2.1 i j _ _ (List.getElem?_eq_getElem hi') (List.getElem?_eq_getElem hj') (by simpa using e)
    omega
  have hn' : (ws'.map Prod.fst).Nodup := (hp.map Prod.fst).nodup_iff.mp hn
  refine ⟨fun k q hq => ?_, fun i j p q hp1 hq1 e => ?_, fun k q hq => ?_⟩
  · obtain ⟨i, hi⟩ := List.getElem?_of_mem (hp.mem_iff.mpr (List.mem_of_getElem? hq))
    exact h.1 i q hi
  · have hi : i < (ws'.map Prod.fst).length := by rw [List.length_map]; exact (List.getElem?_eq_some_iff.mp hp1).1
    have hj : j < (ws'.map Prod.fst).length := by rw [List.length_map]; exact (List.getElem?_eq_some_iff.mp hq1).1
    refine (List.getElem?_inj hi hn').mp ?_
    rw [List.getElem?_map, List.getElem?_map, hp1, hq1]
    simp [e]
  · obtain ⟨i, hi⟩ := List.getElem?_of_mem (hp.mem_iff.mpr (List.mem_of_getElem? hq))
    exact h.2.2 i q hi
theorem jH.rot {G : jG} {ws : va_W} {x : Nat × va_E} {H : Heap} (h : jH G (ws ++ [x]) H) : jH G (x :: ws) H := h.perm (List.perm_append_comm)
section JR2
variable {G : jG} {X : jX} {μ : jM} {ws : va_W} {k n pc p2 : Nat} {lv : List (Nat × Value)} {st : List Value}
theorem J.re (is : List Nat) (m : Nat) {ws2 : va_W} (hp : jpick ws is m = ws2) (hn : jnd is m = true) (h : J G X μ ws2 k n pc lv st) : J G X μ ws k n pc lv st := by
  obtain ⟨p, l, e, R, s, m, args, below, meth, c, Q⟩ := X
  intro C H locs ls hW hS hl
  exact h C H locs ls (hp ▸ hW.re hn) hS hl
theorem J.to {ws2 : va_W} (hp : ∀ H, jH G ws H → jH G ws2 H) (h : J G X μ ws2 k n pc lv st) : J G X μ ws k n pc lv st := by
  obtain ⟨p, l, e, R, s, m, args, below, meth, c, Q⟩ := X
  intro C H locs ls hW hS hl
  exact h C H locs ls (hp H hW) hS hl
theorem J.perm {ws2 : va_W} (hp : ws.Perm ws2) (h : J G X μ ws2 k n pc lv st) : J G X μ ws k n pc lv st := J.to (fun _ => jH.perm hp) h
theorem J.wide {k' n' : Nat} (h1 : Nat.ble k k' = true) (h2 : Nat.ble n n' = true) (h : J G X μ ws k' n' pc lv st) : J G X μ ws k n pc lv st := by
  obtain ⟨p, l, e, R, s, m, args, below, meth, c, Q⟩ := X
  intro C H locs ls hW hS hl
  exact W.widen (Nat.le_of_ble_eq_true h1) (Nat.le_of_ble_eq_true h2) (h C H locs ls hW hS hl)
/-- what a place's field link says -/
def jlk (own : String) (ix : Nat) (q : String × String × String × Bool) : Prop := Cond.fieldLink own ix q.1 q.2.1 q.2.2.1 ∈ gt ∨ ∃ host, Cond.fieldLinkNest own ix q.1 q.2.1 q.2.2.1 host ∈ nt
def jcl (ci : Nat) (C : String) (T : u_T) (N : Nat) : Prop := cls9[ci]? = some (C, T, N) ∧ (∀ w ∈ u_ws C T N, w ∈ gt) ∧ (∃ ty0 : Nat → FieldType, ∀ j, j < N → parseFieldDescriptor (T j).2.2.1 = some (ty0 j)) ∧ (∀ a, a < N → ∀ b, b < N → a ≠ b → (T a).2.1 ≠ (T b).2.1)
def jfl (own : String) (ix ci j : Nat) : Prop := ∃ (C : String) (T : u_T) (N : Nat), jcl ci C T N ∧ j < N ∧ jlk own ix (T j)
def jfp (own : String) (ix ci j : Nat) (ty : FieldType) (fin : Bool) : Prop := ∃ (C : String) (T : u_T) (N : Nat), jcl ci C T N ∧ j < N ∧ jlk own ix (T j) ∧ (T j).2.2.2 = fin ∧ parseFieldDescriptor (T j).2.2.1 = some ty ∧ (fin = true → (T j).1 = own ∧ Cond.fieldLink own ix (T j).1 (T j).2.1 (T j).2.2.1 ∈ gt)
theorem J.get (q0 : Nat) {ix ci j a : Nat} {fs : List Value} {v : Value} (F : jfl μ.1 ix ci j) (d : jd μ.2.1 pc (.getfield ix) 3 p2) (he : ws[q0]? = some (a, .inr (ci, fs))) (hv : fs[j]? = some v) (h : J G X μ ws k n p2 lv (v :: st)) : J G X μ ws k n pc lv (.ref a :: st) := by
  obtain ⟨p, l, e, R, s, m, args, below, meth, c, Q⟩ := X
  obtain ⟨own, cc, nL, ret⟩ := μ
  obtain ⟨d, rfl⟩ := d
  obtain ⟨C0, T, N, ⟨hc, hin, -, -⟩, hk, hL⟩ := F
  intro C H locs ls hW hS hl
  rcases hL with hL | ⟨host, hL⟩
  · exact va_get (D := G.1) C.1 C.2.1 C.2.2.2.2.1 hin C.2.2.2.1 C.2.2.2.2.2.1.1 hW.1 q0 he hc j hk (C.2.2.2.2.1 _ hL) (fun _ h9 => h9) hv d (h C H locs ls hW hS hl)
  · exact va_getN (D := G.1) C.1 C.2.1 C.2.2.2.2.1 hin C.2.2.2.1 C.2.2.2.2.2.1.1 hW.1 q0 he hc j hk (va_Nw.use rfl (C.2.2.2.2.2.1.2.1 _ hL)) (fun _ h9 => h9) hv d (h C H locs ls hW hS hl)
theorem J.put (q0 : Nat) {ix ci j a : Nat} {fs : List Value} {v : Value} {ty : FieldType} {ws' : va_W} (F : jfp μ.1 ix ci j ty false) (d : jd μ.2.1 pc (.putfield ix) 3 p2) (he : ws[q0]? = some (a, .inr (ci, fs))) (hn : narrow ty v = v) (hf : fits ty v = true) (hlen : Nat.ble (j + 1) fs.length = true) (hw : ws.set q0 (a, .inr (ci, fs.set j v)) = ws') (h : J G X μ ws' k n p2 lv st) : J G X μ ws k n pc lv (v :: .ref a :: st) := by
  obtain ⟨p, l, e, R, s, m, args, below, meth, c, Q⟩ := X
  obtain ⟨own, cc, nL, ret⟩ := μ
  obtain ⟨d, rfl⟩ := d
  obtain ⟨C0, T, N, ⟨hc, hin, ⟨ty0, hty⟩, hnm⟩, hk, hL, hfin, hd, -⟩ := F
  subst hw
  intro C H locs ls hW hS hl
  rcases hL with hL | ⟨host, hL⟩
  · exact va_put (D := G.1) C.1 C.2.1 C.2.2.2.2.1 hin ty0 hty hnm C.2.2.2.1 C.2.2.2.2.2.1.1 hW.1 hW.2 hS q0 he hc j hk (C.2.2.2.2.1 _ hL) (fun _ h9 => h9) hfin hd hn hf (Nat.le_of_ble_eq_true hlen) d (fun H1 locs1 a1 a2 a3 => h C H1 locs1 ls ⟨a1, a2⟩ a3 hl)
  · exact va_putN (D := G.1) C.1 C.2.1 C.2.2.2.2.1 hin ty0 hty hnm C.2.2.2.1 C.2.2.2.2.2.1.1 hW.1 hW.2 hS q0 he hc j hk (va_Nw.use rfl (C.2.2.2.2.2.1.2.1 _ hL)) (fun _ h9 => h9) hfin hd hn hf (Nat.le_of_ble_eq_true hlen) d (fun H1 locs1 a1 a2 a3 => h C H1 locs1 ls ⟨a1, a2⟩ a3 hl)
/-- contracts -/
def jQ (G : jG) (post : Option Value → va_W → Prop) : Array Value → State → Outcome → State → Prop := fun _ st oc t => (∃ (v : Option Value) (ws' : va_W), oc = .returned v ∧ post v ws' ∧ jH G ws' t.heap) ∧ va_F (jA G) st t
def jP (G : jG) (av : List Value) (ws : va_W) : Array Value → State → Prop := va_Pc av (fun U => jH G ws U.heap ∧ jK G U ∧ G.2.2 ≤ U.heap.size)
def jWs (y : MethodName) (μ : jM) : List Cond := .code y μ.2.1 μ.2.2.1 μ.2.2.2 :: gt
def jRm (fr lo mc ms : Nat) : Room := { frames := fr, cells := mc, slots := ms, locals := lo }
def Mt (l : Launch) (G : jG) (y : MethodName) (μ : jM) (fr lo mc ms : Nat) (av : List Value) (ws : va_W) (post : Option Value → va_W → Prop) : Prop :=
  Met l y (jWs y μ) (jRm fr lo mc ms) (jP G av ws) (jQ G post) mc ms (jA G)
def jB (l : Launch) (G : jG) (X : jX) (fr lo mc ms : Nat) (post : Option Value → va_W → Prop) (nm : String) : Prop := match X with
  | (_, l', _, R, s, _, args, below, meth, _, Q) => l' = l ∧ R = jRm fr lo mc ms ∧ Q = MQ below (jQ G post) args s mc ms (jA G) ∧ meth.name = nm
theorem J.putF (q0 : Nat) {l : Launch} {fr lo mc ms : Nat} {post : Option Value → va_W → Prop} (B : jB l G X fr lo mc ms post "<init>") {ix ci j a : Nat} {fs : List Value} {v : Value} {ty : FieldType} {ws' : va_W} (F : jfp μ.1 ix ci j ty true) (d : jd μ.2.1 pc (.putfield ix) 3 p2) (he : ws[q0]? = some (a, .inr (ci, fs))) (hn : narrow ty v = v) (hf : fits ty v = true) (hlen : Nat.ble (j + 1) fs.length = true) (hw : ws.set q0 (a, .inr (ci, fs.set j v)) = ws') (h : J G X μ ws' k n p2 lv st) : J G X μ ws k n pc lv (v :: .ref a :: st) := by
  obtain ⟨p, l, e, R, s, m, args, below, meth, c, Q⟩ := X
  obtain ⟨own, cc, nL, ret⟩ := μ
  obtain ⟨d, rfl⟩ := d
  obtain ⟨C0, T, N, ⟨hc, hin, ⟨ty0, hty⟩, hnm⟩, hk, -, hfin, hd, hdecl⟩ := F
  subst hw
  obtain ⟨hdecl, hL⟩ := hdecl rfl
  intro C H locs ls hW hS hl
  exact va_putF (D := G.1) C.1 C.2.1 C.2.2.2.2.1 hin ty0 hty hnm C.2.2.2.1 C.2.2.2.2.2.1.1 hW.1 hW.2 hS q0 he hc j hk (C.2.2.2.2.1 _ hL) (fun _ h9 => h9) hfin B.2.2.2 hdecl hd hn hf (Nat.le_of_ble_eq_true hlen) d (fun H1 locs1 a1 a2 a3 => h C H1 locs1 ls ⟨a1, a2⟩ a3 hl)
theorem J.iald (q0 j : Nat) {a len : Nat} {f : Nat → Int32} {i : Int32} (d : jd μ.2.1 pc .iaload 1 p2) (he : ws[q0]? = some (a, .inl (G.2.1.1, len, .inl f))) (hi : i = nI j) (hj : j < len) (hb : len < 2 ^ 31) (h : J G X μ ws k n p2 lv (.int (f j) :: st)) : J G X μ ws k n pc lv (.int i :: .ref a :: st) := by
  obtain ⟨p, l, e, R, s, m, args, below, meth, c, Q⟩ := X
  obtain ⟨own, cc, nL, ret⟩ := μ
  obtain ⟨d, rfl⟩ := d
  subst hi
  intro C H locs ls hW hS hl
  refine va_iald (D := G.1) (tys := jtys G) C.1 C.2.1 C.2.2.2.2.2.1.1 hW.1 q0 0 he rfl (vp_in_nI hj hb) d ?_
  rw [nI_clamp (Nat.lt_trans hj hb)]
  exact h C H locs ls hW hS hl
theorem J.zald (q0 j : Nat) {a len : Nat} {f : Nat → Int32} {i : Int32} (d : jd μ.2.1 pc .baload 1 p2) (he : ws[q0]? = some (a, .inl (G.2.1.2.1, len, .inl f))) (hi : i = nI j) (hj : j < len) (hb : len < 2 ^ 31) (h : J G X μ ws k n p2 lv (.int (f j) :: st)) : J G X μ ws k n pc lv (.int i :: .ref a :: st) := by
  obtain ⟨p, l, e, R, s, m, args, below, meth, c, Q⟩ := X
  obtain ⟨own, cc, nL, ret⟩ := μ
  obtain ⟨d, rfl⟩ := d
  subst hi
  intro C H locs ls hW hS hl
  refine va_zald (D := G.1) (tys := jtys G) C.1 C.2.1 C.2.2.2.2.2.1.1 hW.1 q0 1 he rfl (vp_in_nI hj hb) d ?_
  rw [nI_clamp (Nat.lt_trans hj hb)]
  exact h C H locs ls hW hS hl
theorem J.iast (q0 j : Nat) {a len : Nat} {f : Nat → Int32} {i x : Int32} {ws' : va_W} (d : jd μ.2.1 pc .iastore 1 p2) (he : ws[q0]? = some (a, .inl (G.2.1.1, len, .inl f))) (hi : i = nI j) (hj : j < len) (hb : len < 2 ^ 31) (hw : ws.set q0 (a, .inl (G.2.1.1, len, .inl (upd f j x))) = ws') (h : J G X μ ws' k n p2 lv st) : J G X μ ws k n pc lv (.int x :: .int i :: .ref a :: st) := by
  obtain ⟨p, l, e, R, s, m, args, below, meth, c, Q⟩ := X
  obtain ⟨own, cc, nL, ret⟩ := μ
  obtain ⟨d, rfl⟩ := d
  subst hi
  subst hw
  intro C H locs ls hW hS hl
  refine va_iast (D := G.1) (tys := jtys G) C.1 C.2.1 C.2.2.2.2.2.1.1 hW.1 hW.2 hS q0 0 he rfl (vp_in_nI hj hb) d (fun H1 locs1 a1 a2 a3 => ?_)
  rw [nI_clamp (Nat.lt_trans hj hb)] at a1 a2
  exact h C H1 locs1 ls ⟨a1, a2⟩ a3 hl
theorem J.zast (q0 j : Nat) {a len : Nat} {f : Nat → Int32} {i x : Int32} {ws' : va_W} (d : jd μ.2.1 pc .bastore 1 p2) (he : ws[q0]? = some (a, .inl (G.2.1.2.1, len, .inl f))) (hi : i = nI j) (hj : j < len) (hb : len < 2 ^ 31) (hx : vp_nar .boolean x = x) (hw : ws.set q0 (a, .inl (G.2.1.2.1, len, .inl (upd f j x))) = ws') (h : J G X μ ws' k n p2 lv st) : J G X μ ws k n pc lv (.int x :: .int i :: .ref a :: st) := by
  obtain ⟨p, l, e, R, s, m, args, below, meth, c, Q⟩ := X
  obtain ⟨own, cc, nL, ret⟩ := μ
  obtain ⟨d, rfl⟩ := d
  subst hi
  subst hw
  intro C H locs ls hW hS hl
  refine va_zast (D := G.1) (tys := jtys G) C.1 C.2.1 C.2.2.2.2.2.1.1 hW.1 hW.2 hS q0 1 he rfl (vp_in_nI hj hb) d (fun H1 locs1 a1 a2 a3 => ?_)
  rw [nI_clamp (Nat.lt_trans hj hb), hx] at a1 a2
  exact h C H1 locs1 ls ⟨a1, a2⟩ a3 hl
theorem J.aald (q0 t0 j : Nat) {a len b : Nat} {C0 : String} {cA : ClassId} {f : Nat → Option Nat} {i : Int32} (d : jd μ.2.1 pc .aaload 1 p2) (ht : (jtys G)[t0]? = some (cA, .object C0)) (he : ws[q0]? = some (a, .inl (cA, len, .inr (.inr (.inr (.inr f)))))) (hi : i = nI j) (hj : j < len) (hb : len < 2 ^ 31) (hf : f j = some b) (h : J G X μ ws k n p2 lv (.ref b :: st)) : J G X μ ws k n pc lv (.int i :: .ref a :: st) := by
  obtain ⟨p, l, e, R, s, m, args, below, meth, c, Q⟩ := X
  obtain ⟨own, cc, nL, ret⟩ := μ
  obtain ⟨d, rfl⟩ := d
  subst hi
  intro C H locs ls hW hS hl
  refine va_aldq (D := G.1) (tys := jtys G) C.1 C.2.1 C.2.2.2.2.2.1.1 hW.1 q0 t0 he ht (vp_in_nI hj hb) d ?_
  rw [nI_clamp (Nat.lt_trans hj hb), hf]
  exact h C H locs ls hW hS hl
theorem J.aast (q0 t0 qk ci j : Nat) {a len v : Nat} {cA : ClassId} {r : vw_C} {vs : List Value} {f : Nat → Option Nat} {i : Int32} {ws' : va_W} (d : jd μ.2.1 pc .aastore 1 p2) (ht : (jtys G)[t0]? = some (cA, .object r.1)) (he : ws[q0]? = some (a, .inl (cA, len, .inr (.inr (.inr (.inr f)))))) (hv : ws[qk]? = some (v, .inr (ci, vs))) (hc : cls9[ci]? = some r) (hi : i = nI j) (hj : j < len) (hb : len < 2 ^ 31) (hw : ws.set q0 (a, .inl (cA, len, .inr (.inr (.inr (.inr (va_up f j (some v))))))) = ws') (h : J G X μ ws' k n p2 lv st) : J G X μ ws k n pc lv (.ref v :: .int i :: .ref a :: st) := by
  obtain ⟨p, l, e, R, s, m, args, below, meth, c, Q⟩ := X
  obtain ⟨own, cc, nL, ret⟩ := μ
  obtain ⟨d, rfl⟩ := d
  subst hi
  subst hw
  intro C H locs ls hW hS hl
  refine va_astq (D := G.1) (tys := jtys G) C.1 C.2.1 C.2.2.2.2.2.1.1 hW.1 hW.2 hS q0 t0 qk ci he ht hv hc (vp_in_nI hj hb) d (fun H1 locs1 a1 a2 a3 => ?_)
  rw [nI_clamp (Nat.lt_trans hj hb)] at a1 a2
  exact h C H1 locs1 ls ⟨a1, a2⟩ a3 hl
theorem J.alen (q0 t0 : Nat) {a : Nat} {cA : ClassId} {x : vp_A} {ty : FieldType} (v : Int32) (d : jd μ.2.1 pc .arraylength 1 p2) (ht : (jtys G)[t0]? = some (cA, ty)) (he : ws[q0]? = some (a, .inl (cA, x))) (hv : Int32.ofNat x.1 = v) (h : J G X μ ws k n p2 lv (.int v :: st)) : J G X μ ws k n pc lv (.ref a :: st) := by
  obtain ⟨p, l, e, R, s, m, args, below, meth, c, Q⟩ := X
  obtain ⟨own, cc, nL, ret⟩ := μ
  obtain ⟨d, rfl⟩ := d
  intro C H locs ls hW hS hl
  exact va_alen (D := G.1) (tys := jtys G) C.1 C.2.1 C.2.2.2.2.2.1.1 hW.1 q0 t0 he ht hv d (h C H locs ls hW hS hl)
theorem jA_old {G : jG} {X : jX} {μ : jM} (C : jC G X μ) : ∀ q, X.2.2.2.2.1.heap.size ≤ q → jA G q := by
  obtain ⟨p, l, e, R, s, m, args, below, meth, c, Q⟩ := X
  obtain ⟨own, cc, nL, ret⟩ := μ
  exact fun q h => Nat.le_trans C.2.2.2.2.2.2.2.2 h
variable {l : Launch} {fr lo mc ms : Nat} {post : Option Value → va_W → Prop} {nm : String}
theorem J.newi (N' : Nat) (B : jB l G X fr lo mc ms post nm) {i : Int32} (d : jd μ.2.1 pc (.newarray .int) 2 p2) (harr : Cond.arrayClass .int ∈ gt) (hi : i = nI N') (hN : Nat.ble N' 100000 = true) (hk : Nat.ble (k + 1) mc = true) (hn : Nat.ble (n + N') ms = true) (h : ∀ q : Nat, J G X μ ((q, .inl (G.2.1.1, N', .inl (fun _ => 0))) :: ws) (k + 1) (n + N') p2 lv (.ref q :: st)) : J G X μ ws k n pc lv (.int i :: st) := by
  obtain ⟨p, l, e, R, s, m, args, below, meth, c, Q⟩ := X
  obtain ⟨own, cc, nL, ret⟩ := μ
  obtain ⟨d, rfl⟩ := d
  subst hi
  have hN1 : N' ≤ 100000 := Nat.le_of_ble_eq_true hN
  obtain ⟨-, hR, -, -⟩ := B
  subst hR
  intro C H locs ls hW hS hl
  refine va_newa (D := G.1) (tys := jtys G) (atype := .int) (ty := .int) (a0 := (N', .inl (fun _ => 0))) C.1 C.2.1 (C.2.2.2.2.1 _ harr) rfl C.2.2.2.2.2.1.1 hW.1 hW.2 hS (jA_old C) (fun cA => rfl) (nI_pos (by omega)) (nI_clamp (by omega)) (by show N' * 4 ≤ _; omega) (Nat.le_of_ble_eq_true hk) (Nat.le_of_ble_eq_true hn) d (fun q cA H1 a0 a1 a2 a3 => ?_)
  have e : cA = G.2.1.1 := by
    have h1 := (a0.2 4 (cA, .int) rfl).2
    have h2 := (a0.2 0 (G.2.1.1, .int) rfl).2
    exact Option.some.inj (h1.symm.trans h2)
  subst e
  exact h q C H1 locs ls (jH.rot ⟨a1, a2⟩) a3 hl
theorem J.newz (N' : Nat) (B : jB l G X fr lo mc ms post nm) {i : Int32} (d : jd μ.2.1 pc (.newarray .boolean) 2 p2) (harr : Cond.arrayClass .boolean ∈ gt) (hi : i = nI N') (hN : Nat.ble N' 100000 = true) (hk : Nat.ble (k + 1) mc = true) (hn : Nat.ble (n + N') ms = true) (h : ∀ q : Nat, J G X μ ((q, .inl (G.2.1.2.1, N', .inl (fun _ => 0))) :: ws) (k + 1) (n + N') p2 lv (.ref q :: st)) : J G X μ ws k n pc lv (.int i :: st) := by
  obtain ⟨p, l, e, R, s, m, args, below, meth, c, Q⟩ := X
  obtain ⟨own, cc, nL, ret⟩ := μ
  obtain ⟨d, rfl⟩ := d
  subst hi
  have hN1 : N' ≤ 100000 := Nat.le_of_ble_eq_true hN
  obtain ⟨-, hR, -, -⟩ := B
  subst hR
  intro C H locs ls hW hS hl
  refine va_newa (D := G.1) (tys := jtys G) (atype := .boolean) (ty := .boolean) (a0 := (N', .inl (fun _ => 0))) C.1 C.2.1 (C.2.2.2.2.1 _ harr) rfl C.2.2.2.2.2.1.1 hW.1 hW.2 hS (jA_old C) (fun cA => rfl) (nI_pos (by omega)) (nI_clamp (by omega)) (by show N' * 1 ≤ _; omega) (Nat.le_of_ble_eq_true hk) (Nat.le_of_ble_eq_true hn) d (fun q cA H1 a0 a1 a2 a3 => ?_)
  have e : cA = G.2.1.2.1 := by
    have h1 := (a0.2 4 (cA, .boolean) rfl).2
    have h2 := (a0.2 1 (G.2.1.2.1, .boolean) rfl).2
    exact Option.some.inj (h1.symm.trans h2)
  subst e
  exact h q C H1 locs ls (jH.rot ⟨a1, a2⟩) a3 hl
theorem J.newq6 (N' : Nat) (B : jB l G X fr lo mc ms post nm) {ix : Nat} {i : Int32} (d : jd μ.2.1 pc (.anewarray ix) 3 p2) (hcl : Cond.classLink μ.1 ix RX6 ∈ gt) (hi : i = nI N') (hN : Nat.ble N' 100000 = true) (hk : Nat.ble (k + 1) mc = true) (hn : Nat.ble (n + N') ms = true) (h : ∀ q : Nat, J G X μ ((q, .inl (G.2.1.2.2.1, N', .inr (.inr (.inr (.inr (fun _ => none)))))) :: ws) (k + 1) (n + N') p2 lv (.ref q :: st)) : J G X μ ws k n pc lv (.int i :: st) := by
  obtain ⟨p, l, e, R, s, m, args, below, meth, c, Q⟩ := X
  obtain ⟨own, cc, nL, ret⟩ := μ
  obtain ⟨d, rfl⟩ := d
  subst hi
  have hN1 : N' ≤ 100000 := Nat.le_of_ble_eq_true hN
  obtain ⟨-, hR, -, -⟩ := B
  subst hR
  intro C H locs ls hW hS hl
  refine va_newq (D := G.1) (tys := jtys G) (C := RX6) C.1 C.2.1 C.2.2.2.1 (C.2.2.2.2.1 _ hcl) C.2.2.2.2.2.1.2.2.1 C.2.2.2.2.2.1.1 hW.1 hW.2 hS (jA_old C) (nI_pos (by omega)) (nI_clamp (by omega)) (by omega) (Nat.le_of_ble_eq_true hk) (Nat.le_of_ble_eq_true hn) d (fun q cA H1 a0 a1 a2 a3 => ?_)
  have e : cA = G.2.1.2.2.1 := by
    obtain ⟨_, _, -, -, -, h1⟩ := (a0.2 4 (cA, .object RX6) rfl).2
    obtain ⟨_, _, -, -, -, h2⟩ := (a0.2 2 (G.2.1.2.2.1, .object RX6) rfl).2
    exact Option.some.inj (h1.symm.trans h2)
  subst e
  exact h q C H1 locs ls (jH.rot ⟨a1, a2⟩) a3 hl
theorem J.newq5 (N' : Nat) (B : jB l G X fr lo mc ms post nm) {ix : Nat} {i : Int32} (d : jd μ.2.1 pc (.anewarray ix) 3 p2) (hcl : Cond.classLink μ.1 ix RX5 ∈ gt) (hi : i = nI N') (hN : Nat.ble N' 100000 = true) (hk : Nat.ble (k + 1) mc = true) (hn : Nat.ble (n + N') ms = true) (h : ∀ q : Nat, J G X μ ((q, .inl (G.2.1.2.2.2, N', .inr (.inr (.inr (.inr (fun _ => none)))))) :: ws) (k + 1) (n + N') p2 lv (.ref q :: st)) : J G X μ ws k n pc lv (.int i :: st) := by
  obtain ⟨p, l, e, R, s, m, args, below, meth, c, Q⟩ := X
  obtain ⟨own, cc, nL, ret⟩ := μ
  obtain ⟨d, rfl⟩ := d
  subst hi
  have hN1 : N' ≤ 100000 := Nat.le_of_ble_eq_true hN
  obtain ⟨-, hR, -, -⟩ := B
  subst hR
  intro C H locs ls hW hS hl
  refine va_newq (D := G.1) (tys := jtys G) (C := RX5) C.1 C.2.1 C.2.2.2.1 (C.2.2.2.2.1 _ hcl) C.2.2.2.2.2.1.2.2.2 C.2.2.2.2.2.1.1 hW.1 hW.2 hS (jA_old C) (nI_pos (by omega)) (nI_clamp (by omega)) (by omega) (Nat.le_of_ble_eq_true hk) (Nat.le_of_ble_eq_true hn) d (fun q cA H1 a0 a1 a2 a3 => ?_)
  have e : cA = G.2.1.2.2.2 := by
    obtain ⟨_, _, -, -, -, h1⟩ := (a0.2 4 (cA, .object RX5) rfl).2
    obtain ⟨_, _, -, -, -, h2⟩ := (a0.2 3 (G.2.1.2.2.2, .object RX5) rfl).2
    exact Option.some.inj (h1.symm.trans h2)
  subst e
  exact h q C H1 locs ls (jH.rot ⟨a1, a2⟩) a3 hl
def jdf (ty : Nat → FieldType) (fs : List Value) (N : Nat) : Prop := ∀ j, j < N → defaultValue (ty j) = vp_V fs j
theorem J.new (B : jB l G X fr lo mc ms post nm) {ix ci : Nat} {C0 : String} {T : u_T} {N : Nat} {ty : Nat → FieldType} {fs : List Value} (d : jd μ.2.1 pc (.new ix) 3 p2) (F : jcl ci C0 T N) (hty : ∀ j, j < N → parseFieldDescriptor (T j).2.2.1 = some (ty j)) (hcl : Cond.classLink μ.1 ix C0 ∈ gt) (hi : Cond.instantiable C0 N ∈ gt) (hini : Cond.initialized C0 ∈ gt) (hfs : jdf ty fs N) (hk : Nat.ble (k + 1) mc = true) (hn : Nat.ble (n + N) ms = true) (h : ∀ q : Nat, J G X μ ((q, .inr (ci, fs)) :: ws) (k + 1) (n + N) p2 lv (.ref q :: st)) : J G X μ ws k n pc lv st := by
  obtain ⟨p, l, e, R, s, m, args, below, meth, c, Q⟩ := X
  obtain ⟨own, cc, nL, ret⟩ := μ
  obtain ⟨d, rfl⟩ := d
  obtain ⟨-, hR, -, -⟩ := B
  subst hR
  obtain ⟨hc, hin, -, -⟩ := F
  intro C H locs ls hW hS hl
  exact va_new (D := G.1) (tys := jtys G) C.1 C.2.1 C.2.2.2.2.1 hin ty hty C.2.2.2.1 (C.2.2.2.2.1 _ hcl) (C.2.2.2.2.1 _ hi) (C.2.2.2.2.1 _ hini) C.2.2.2.2.2.1.1 hW.1 hW.2 hS (jA_old C) hc hfs (Nat.le_of_ble_eq_true hk) (Nat.le_of_ble_eq_true hn) d (fun q H1 a1 a2 a3 => h q C H1 locs ls (jH.rot ⟨a1, a2⟩) a3 hl)
/-- ends -/
theorem J.iret (B : jB l G X fr lo mc ms post nm) {v : Int32} (d : jd μ.2.1 pc .ireturn 1 p2) (hr : μ.2.2.2 = some .int) (hp : post (some (.int v)) ws) : J G X μ ws mc ms pc lv [.int v] := by
  obtain ⟨p, l, e, R, s, m, args, below, meth, c, Q⟩ := X
  obtain ⟨own, cc, nL, ret⟩ := μ
  obtain ⟨d, rfl⟩ := d
  obtain ⟨-, -, hQ, -⟩ := B
  subst hQ
  intro C H locs ls hW hS hl
  exact W.iret C.1 C.2.1 (C.2.2.2.2.2.2.1.trans hr) (fun t ht _ => ⟨⟨_, ws, rfl, hp, by rw [ht]; exact hW⟩, hS.F ht⟩) hS.2.2 d C.2.2.2.2.2.2.2.1
theorem J.zret (B : jB l G X fr lo mc ms post nm) {v : Int32} (d : jd μ.2.1 pc .ireturn 1 p2) (hr : μ.2.2.2 = some .boolean) (hv : v = 0 ∨ v = 1) (hp : post (some (.int v)) ws) : J G X μ ws mc ms pc lv [.int v] := by
  obtain ⟨p, l, e, R, s, m, args, below, meth, c, Q⟩ := X
  obtain ⟨own, cc, nL, ret⟩ := μ
  obtain ⟨d, rfl⟩ := d
  obtain ⟨-, -, hQ, -⟩ := B
  subst hQ
  intro C H locs ls hW hS hl
  exact W.zret C.1 C.2.1 (C.2.2.2.2.2.2.1.trans hr) (by rcases hv with rfl | rfl <;> rfl) (fun t ht _ => ⟨⟨_, ws, rfl, hp, by rw [ht]; exact hW⟩, hS.F ht⟩) hS.2.2 d C.2.2.2.2.2.2.2.1
theorem J.lret (B : jB l G X fr lo mc ms post nm) {v : Int64} (d : jd μ.2.1 pc .lreturn 1 p2) (hr : μ.2.2.2 = some .long) (hp : post (some (.long v)) ws) : J G X μ ws mc ms pc lv [.long v] := by
  obtain ⟨p, l, e, R, s, m, args, below, meth, c, Q⟩ := X
  obtain ⟨own, cc, nL, ret⟩ := μ
  obtain ⟨d, rfl⟩ := d
  obtain ⟨-, -, hQ, -⟩ := B
  subst hQ
  intro C H locs ls hW hS hl
  exact W.lret C.1 C.2.1 (C.2.2.2.2.2.2.1.trans hr) (fun t ht _ => ⟨⟨_, ws, rfl, hp, by rw [ht]; exact hW⟩, hS.F ht⟩) hS.2.2 d C.2.2.2.2.2.2.2.1
theorem J.vret (B : jB l G X fr lo mc ms post nm) (d : jd μ.2.1 pc .return_ 1 p2) (hr : μ.2.2.2 = none) (hp : post none ws) : J G X μ ws mc ms pc lv [] := by
  obtain ⟨p, l, e, R, s, m, args, below, meth, c, Q⟩ := X
  obtain ⟨own, cc, nL, ret⟩ := μ
  obtain ⟨d, rfl⟩ := d
  obtain ⟨-, -, hQ, -⟩ := B
  subst hQ
  intro C H locs ls hW hS hl
  exact W.vret C.1 C.2.1 (C.2.2.2.2.2.2.1.trans hr) (fun t ht _ => ⟨⟨_, ws, rfl, hp, by rw [ht]; exact hW⟩, hS.F ht⟩) hS.2.2 d C.2.2.2.2.2.2.2.1
theorem J.aret (B : jB l G X fr lo mc ms post nm) {v : Value} {cn : String} (d : jd μ.2.1 pc .areturn 1 p2) (hr : μ.2.2.2 = some (.object cn)) (hv : v = .null ∨ ∃ a, v = .ref a) (hp : post (some v) ws) : J G X μ ws mc ms pc lv [v] := by
  obtain ⟨p, l, e, R, s, m, args, below, meth, c, Q⟩ := X
  obtain ⟨own, cc, nL, ret⟩ := μ
  obtain ⟨d, rfl⟩ := d
  obtain ⟨-, -, hQ, -⟩ := B
  subst hQ
  intro C H locs ls hW hS hl
  exact W.aret C.1 C.2.1 (C.2.2.2.2.2.2.1.trans hr) (Or.inl ⟨_, rfl⟩) hv (fun t ht _ => ⟨⟨_, ws, rfl, hp, by rw [ht]; exact hW⟩, hS.F ht⟩) hS.2.2 d C.2.2.2.2.2.2.2.1
theorem Met.ofWF {l : Launch} {y : MethodName} {ws ws' : List Cond} {rm : Room} {Pc : Array Value → State → Prop} {Qc : Array Value → State → Outcome → State → Prop} {mc ms : Nat} {free : Addr → Prop} {cc : ByteArray} {maxL : Nat} {ret : Option FieldType}
    (hy : plainFor y = true) (hw : ws = Cond.code y cc maxL ret :: ws')
    (body : ∀ p e s m args below meth c s₁, BodyLoose p l y (headSpec ws rm) cc maxL ret e s m args below meth c s₁ → c.maxLocals = maxL → Pc args s →
      W p l e (headSpec ws rm).room s m args below meth c s.heap [] 0 0 (MQ below Qc args s mc ms free) (entryFrame m args maxL)) : Met l y ws rm Pc Qc mc ms free := by
  refine MetFree.of_bodyRF (code := cc) (maxLocals := maxL) (ret := ret) hy ?_ ?_
  · intro args s m h hn
    obtain ⟨meth, c, h1, h2, h3, h4, h5, h6, -, -⟩ := Cond.code_spec hn (atoms_spec (ws := ws) h _ (by rw [hw]; exact List.mem_cons_self))
    exact ⟨meth, c, h1, h2, h3, h4, h5, h6⟩
  · intro p e s m args below meth c s₁ B hml hP _ hsteps
    have hh0 : s₁.heap = s.heap := by rw [B.state]; rfl
    obtain ⟨t, a1, o, b1, b2, b3⟩ := body p e s m args below meth c s₁ B hml hP s₁ hh0 (Stand.of_body B)
    exact ⟨t, o, hsteps.trans a1, b1, b2, ⟨b3.1, b3.2⟩⟩
/-- a contract, out of a walk -/
theorem Mt.of {y : MethodName} {av : List Value} (hy : plainFor y = true) (hc : y.cls = μ.1) (hn : Nat.ble (lg_sl av).length μ.2.2.1 = true)
    (h : ∀ X : jX, jB l G X fr lo mc ms post y.name → J G X μ ws 0 0 0 (lv_args 0 av) []) : Mt l G y μ fr lo mc ms av ws post := by
  obtain ⟨own, cc, nL, ret⟩ := μ
  refine Met.ofWF (cc := cc) (maxL := nL) (ret := ret) hy rfl ?_
  intro p e s m args below meth c s₁ B hml hv
  obtain ⟨rfl, hW, hK, hz⟩ := hv
  have hts := atoms_spec (ws := jWs y (own, cc, nL, ret)) B.pre
  have hl := lv_entry av (n := nL) (Nat.le_of_ble_eq_true hn)
  rw [lg_entry_eq]
  exact h (p, l, e, jRm fr lo mc ms, s, m, av.toArray, below, meth, c, MQ below (jQ G post) av.toArray s mc ms (jA G)) ⟨rfl, rfl, rfl, (name_of_methodNamed B.named B.method).1⟩
    ⟨B.exec, B.bytes, hml, by rw [show own = y.cls from hc.symm]; exact findClass_of_methodNamed B.named, fun w hw => hts w (List.mem_cons_of_mem _ hw), hK, B.returns, B.notSynchronized, hz⟩ s.heap [] _ hW va_S.rf hl
theorem jK.calling {G : jG} {U : State} {g : JFrame} {mk : MethodId} {a : Array Value} (h : jK G U) : jK G (U.calling g mk a) := by
  refine ⟨va_K.moved (u := U) (U := U.calling g mk a) (Vm.Alike.refl U.vm) h.1, fun w hw => ?_, va_AO.moved (u := U) (U := U.calling g mk a) (Vm.Alike.refl U.vm) h.2.2.1, va_AO.moved (u := U) (U := U.calling g mk a) (Vm.Alike.refl U.vm) h.2.2.2⟩
  have h1 := h.2.1 w hw
  have h2 := (List.mem_filter.mp hw).2
  have h3 : w.onTables = true := by cases w <;> first | rfl | (simp [jisN] at h2)
  exact va_Nw.same (u := U) (U := U.calling g mk a) h3 rfl h1
theorem jP.blind {G : jG} {av : List Value} {ws : va_W} : FrameBlind (jP G av ws) := fun _ _ _ _ h => ⟨h.1, h.2.1, h.2.2.1.calling, h.2.2.2⟩
theorem jP.at {G : jG} {av : List Value} {ws : va_W} {s : State} {H : Heap} (hW : jH G ws H) (hK : jK G s) (hz : G.2.2 ≤ H.size) : ∀ U : State, U.heap = H → s.WarmedH U.vm → jP G av ws av.toArray U := fun U hU hw => ⟨rfl, by rw [hU]; exact hW, hK.warm hw, by rw [hU]; exact hz⟩
def jmf (y : MethodName) (μy : jM) (na : Nat) : Prop := Cond.code y μy.2.1 μy.2.2.1 μy.2.2.2 ∈ gt ∧ Cond.initialized y.cls ∈ gt ∧ y.cls ≠ "java/lang/invoke/MethodHandle" ∧ y.cls ≠ "java/lang/invoke/VarHandle" ∧ (parseMethodDescriptor y.desc).map (fun d => d.parameters.length) = some na
def jmi (y : MethodName) : Prop := Cond.instanceMethod y ∈ gt ∧ Cond.selects y.cls y y ∈ gt
def jml (own : String) (ix : Nat) (y : MethodName) : Prop := Cond.methodLink own ix y ∈ gt ∨ ∃ host, Cond.methodLinkNest own ix y host ∈ nt
theorem gt_in {y : MethodName} {μy : jM} {na : Nat} (F : jmf y μy na) : GoodIn gt (jWs y μy) := by
  intro w hw
  rcases List.mem_cons.mp hw with rfl | hw
  · exact gt_good _ F.1
  · exact gt_good _ hw
theorem jcall {p : Program} {l : Launch} {e : Env} {R : Room} {s : State} {m : MethodId} {args : Array Value} {below : List Frame} {meth : Method} {c : Code} {H : Heap} {locs : List Loc} {cells slots mc ms pc : Nat} {Q : State → Prop} {ls : Array Slot} {rest st0 : List Value} {a : Array Value} {G : jG} {post : Option Value → va_W → Prop}
    (hr : va_Run p l e R s m args below meth c H locs cells slots mc ms (F0 m pc ls st0) rest (jQ G post a) (jA G)) (hS : va_S (jA G) s.heap H locs)
    (kk : ∀ (v : Option Value) (ws' : va_W) (H1 : Heap) (locs1 : List Loc), post v ws' → jH G ws' H1 → va_S (jA G) s.heap H1 locs1 → W p l e R s m args below meth c H1 locs1 (cells + mc) (slots + ms) Q (F0 m (pc + 3) ls (v.toList ++ rest))) : W p l e R s m args below meth c H locs cells slots Q (F0 m pc ls st0) := by
  intro T hT X
  obtain ⟨v, st₀, t, T', L, h0, X', hL, e1, e2, ⟨⟨v', ws', hv, hp, hb⟩, hz, hk⟩, st⟩ := hr T hT X
  cases hv
  rw [h0] at hz hk
  obtain ⟨t2, a1, b1⟩ := kk v ws' T'.heap (locs ++ L) hp (by rw [e1]; exact hb)
    ⟨Nat.le_trans hS.1 (by rw [e1]; exact hz), fun q h1 h2 => by rw [e1, hk q (Nat.lt_of_lt_of_le h1 hS.1) h2]; exact hS.2.1 q h1 h2, fun q hq => by
      rcases List.mem_append.mp hq with h | h
      · exact hS.2.2 q h
      · exact hL q h⟩ T' rfl X'
  exact ⟨t2, st t2 a1, b1⟩
theorem jsz {G : jG} {X : jX} {μ : jM} {H : Heap} {locs : List Loc} (C : jC G X μ) (hS : va_S (jA G) X.2.2.2.2.1.heap H locs) : G.2.2 ≤ H.size := by
  obtain ⟨p, l, e, R, s, m, args, below, meth, c, Q⟩ := X
  obtain ⟨own, cc, nL, ret⟩ := μ
  exact Nat.le_trans C.2.2.2.2.2.2.2.2 hS.1
theorem J.callV (q0 : Nat) {b ci ix na fr1 lo1 mc1 ms1 : Nat} {y : MethodName} {μy : jM} {T : u_T} {N : Nat} {fs As stk : List Value} {po : Option Value → va_W → Prop} (B : jB l G X fr lo mc ms post nm) (M : Mt l G y μy fr1 lo1 mc1 ms1 (.ref b :: As) ws po) (L : jml μ.1 ix y) (F : jmf y μy na) (F2 : jmi y) (hc : cls9[ci]? = some (y.cls, T, N)) (d : jd μ.2.1 pc (.invokevirtual ix) 3 p2) (he : ws[q0]? = some (b, .inr (ci, fs))) (hstk : stk = As.reverse ++ .ref b :: st) (hna : As.length = na)
    (hr : (Nat.ble (fr1 + 1) fr && Nat.ble (8 + (μy.2.2.1 + 11) + lo1) lo && Nat.ble (k + mc1) mc && Nat.ble (n + ms1) ms && Nat.ble ((st.map fun v => v.category).sum) 8) = true)
    (h : ∀ (v : Option Value) (ws' : va_W), po v ws' → J G X μ ws' (k + mc1) (n + ms1) p2 lv (v.toList ++ st)) : J G X μ ws k n pc lv stk := by
  obtain ⟨p, l, e, R, s, m, args, below, meth, c, Q⟩ := X
  obtain ⟨own, cc, nL, ret⟩ := μ
  obtain ⟨own1, cc1, nL1, ret1⟩ := μy
  obtain ⟨d, rfl⟩ := d
  obtain ⟨rfl, hR, -, -⟩ := B
  subst hR
  simp only [Bool.and_eq_true] at hr
  obtain ⟨⟨⟨⟨h1, h2⟩, h3⟩, h4⟩, h5⟩ := hr
  intro C H locs ls hW hS hl
  obtain ⟨f1, f2, f3, f4, f5⟩ := F
  have hq := jP.at (G := G) (av := .ref b :: As) hW C.2.2.2.2.2.1 (jsz C hS)
  rcases L with L | ⟨host, L⟩
  · exact jcall (va_runV (As := As) (rest := st) ⟨C.1, C.2.1, C.2.2.1, C.2.2.2.1, C.2.2.2.2.1⟩ M ⟨callB_of na C.2.2.2.2.1 (gt_in ⟨f1, f2, f3, f4, f5⟩) rfl rfl rfl (C.2.2.2.2.1 _ f2) (C.2.2.2.2.1 _ L) ⟨f3, f4, f5⟩ ⟨Nat.le_of_ble_eq_true h1, Nat.le_of_ble_eq_true h2⟩, C.2.2.2.2.1 _ F2.1, C.2.2.2.2.1 _ F2.2⟩ ⟨jP.blind, va_recv C.2.2.2.2.2.1.1 hW.1 hc he, hq⟩ rfl hna hl.1 hstk (lv_room (Nat.le_of_ble_eq_true h5)) d ⟨Nat.le_of_ble_eq_true h3, Nat.le_of_ble_eq_true h4⟩) hS (fun v ws' H1 locs1 hp hw hs => h v ws' hp C H1 locs1 ls hw hs hl)
  · exact jcall (va_runVN (As := As) (rest := st) ⟨C.1, C.2.1, C.2.2.1, C.2.2.2.1, C.2.2.2.2.1⟩ M ⟨va_cnB na C.2.2.2.2.1 (gt_in ⟨f1, f2, f3, f4, f5⟩) rfl rfl rfl (C.2.2.2.2.2.1.2.1 _ L) (C.2.2.2.2.1 _ f2) ⟨f3, f4, f5⟩ ⟨Nat.le_of_ble_eq_true h1, Nat.le_of_ble_eq_true h2⟩, C.2.2.2.2.1 _ F2.1, C.2.2.2.2.1 _ F2.2⟩ ⟨jP.blind, va_recv C.2.2.2.2.2.1.1 hW.1 hc he, hq⟩ rfl hna hl.1 hstk (lv_room (Nat.le_of_ble_eq_true h5)) d ⟨Nat.le_of_ble_eq_true h3, Nat.le_of_ble_eq_true h4⟩) hS (fun v ws' H1 locs1 hp hw hs => h v ws' hp C H1 locs1 ls hw hs hl)
theorem J.callS {ix na fr1 lo1 mc1 ms1 : Nat} {y : MethodName} {μy : jM} {As stk : List Value} {po : Option Value → va_W → Prop} (B : jB l G X fr lo mc ms post nm) (M : Mt l G y μy fr1 lo1 mc1 ms1 As ws po) (L : jml μ.1 ix y) (F : jmf y μy na) (F2 : Cond.static y ∈ gt) (d : jd μ.2.1 pc (.invokestatic ix) 3 p2) (hstk : stk = As.reverse ++ st) (hna : As.length = na)
    (hr : (Nat.ble (fr1 + 1) fr && Nat.ble (8 + (μy.2.2.1 + 11) + lo1) lo && Nat.ble (k + mc1) mc && Nat.ble (n + ms1) ms && Nat.ble ((st.map fun v => v.category).sum) 8) = true)
    (h : ∀ (v : Option Value) (ws' : va_W), po v ws' → J G X μ ws' (k + mc1) (n + ms1) p2 lv (v.toList ++ st)) : J G X μ ws k n pc lv stk := by
  obtain ⟨p, l, e, R, s, m, args, below, meth, c, Q⟩ := X
  obtain ⟨own, cc, nL, ret⟩ := μ
  obtain ⟨own1, cc1, nL1, ret1⟩ := μy
  obtain ⟨d, rfl⟩ := d
  obtain ⟨rfl, hR, -, -⟩ := B
  subst hR
  simp only [Bool.and_eq_true] at hr
  obtain ⟨⟨⟨⟨h1, h2⟩, h3⟩, h4⟩, h5⟩ := hr
  intro C H locs ls hW hS hl
  obtain ⟨f1, f2, f3, f4, f5⟩ := F
  have hq := jP.at (G := G) (av := As) hW C.2.2.2.2.2.1 (jsz C hS)
  rcases L with L | ⟨host, L⟩
  · exact jcall (va_runS (As := As) (rest := st) ⟨C.1, C.2.1, C.2.2.1, C.2.2.2.1, C.2.2.2.2.1⟩ M ⟨callB_of na C.2.2.2.2.1 (gt_in ⟨f1, f2, f3, f4, f5⟩) rfl rfl rfl (C.2.2.2.2.1 _ f2) (C.2.2.2.2.1 _ L) ⟨f3, f4, f5⟩ ⟨Nat.le_of_ble_eq_true h1, Nat.le_of_ble_eq_true h2⟩, C.2.2.2.2.1 _ F2⟩ ⟨jP.blind, hq⟩ rfl hna hl.1 hstk (lv_room (Nat.le_of_ble_eq_true h5)) d ⟨Nat.le_of_ble_eq_true h3, Nat.le_of_ble_eq_true h4⟩) hS (fun v ws' H1 locs1 hp hw hs => h v ws' hp C H1 locs1 ls hw hs hl)
  · exact jcall (va_runSN (As := As) (rest := st) ⟨C.1, C.2.1, C.2.2.1, C.2.2.2.1, C.2.2.2.2.1⟩ M ⟨va_cnB na C.2.2.2.2.1 (gt_in ⟨f1, f2, f3, f4, f5⟩) rfl rfl rfl (C.2.2.2.2.2.1.2.1 _ L) (C.2.2.2.2.1 _ f2) ⟨f3, f4, f5⟩ ⟨Nat.le_of_ble_eq_true h1, Nat.le_of_ble_eq_true h2⟩, C.2.2.2.2.1 _ F2, trivial⟩ ⟨jP.blind, hq⟩ rfl hna hl.1 hstk (lv_room (Nat.le_of_ble_eq_true h5)) d ⟨Nat.le_of_ble_eq_true h3, Nat.le_of_ble_eq_true h4⟩) hS (fun v ws' H1 locs1 hp hw hs => h v ws' hp C H1 locs1 ls hw hs hl)
theorem J.callI {b ix na fr1 lo1 mc1 ms1 : Nat} {y : MethodName} {own1 : String} {cc1 : ByteArray} {nL1 : Nat} {As stk : List Value} {po : Option Value → va_W → Prop} (B : jB l G X fr lo mc ms post nm) (M : Mt l G y (own1, cc1, nL1, none) fr1 lo1 mc1 ms1 (.ref b :: As) ws po) (L : jml μ.1 ix y) (F : jmf y (own1, cc1, nL1, none) na) (F2 : Cond.instanceMethod y ∈ gt) (hy1 : y.name = "<init>") (d : jd μ.2.1 pc (.invokespecial ix) 3 p2) (hstk : stk = As.reverse ++ .ref b :: st) (hna : As.length = na)
    (hr : (Nat.ble (fr1 + 1) fr && Nat.ble (8 + (nL1 + 11) + lo1) lo && Nat.ble (k + mc1) mc && Nat.ble (n + ms1) ms && Nat.ble ((st.map fun v => v.category).sum) 8) = true)
    (h : ∀ (v : Option Value) (ws' : va_W), po v ws' → J G X μ ws' (k + mc1) (n + ms1) p2 lv (v.toList ++ st)) : J G X μ ws k n pc lv stk := by
  obtain ⟨p, l, e, R, s, m, args, below, meth, c, Q⟩ := X
  obtain ⟨own, cc, nL, ret⟩ := μ
  obtain ⟨d, rfl⟩ := d
  obtain ⟨rfl, hR, -, -⟩ := B
  subst hR
  simp only [Bool.and_eq_true] at hr
  obtain ⟨⟨⟨⟨h1, h2⟩, h3⟩, h4⟩, h5⟩ := hr
  intro C H locs ls hW hS hl
  obtain ⟨f1, f2, f3, f4, f5⟩ := F
  have hq := jP.at (G := G) (av := .ref b :: As) hW C.2.2.2.2.2.1 (jsz C hS)
  rcases L with L | ⟨host, L⟩
  · exact jcall (va_runI (As := As) (rest := st) ⟨C.1, C.2.1, C.2.2.1, C.2.2.2.1, C.2.2.2.2.1⟩ M ⟨callB_of na C.2.2.2.2.1 (gt_in ⟨f1, f2, f3, f4, f5⟩) rfl rfl rfl (C.2.2.2.2.1 _ f2) (C.2.2.2.2.1 _ L) ⟨f3, f4, f5⟩ ⟨Nat.le_of_ble_eq_true h1, Nat.le_of_ble_eq_true h2⟩, hy1, C.2.2.2.2.1 _ F2⟩ ⟨jP.blind, hq⟩ rfl hna hl.1 hstk (lv_room (Nat.le_of_ble_eq_true h5)) d ⟨Nat.le_of_ble_eq_true h3, Nat.le_of_ble_eq_true h4⟩) hS (fun v ws' H1 locs1 hp hw hs => h v ws' hp C H1 locs1 ls hw hs hl)
  · exact jcall (va_runIN (As := As) (rest := st) ⟨C.1, C.2.1, C.2.2.1, C.2.2.2.1, C.2.2.2.2.1⟩ M ⟨va_cnB na C.2.2.2.2.1 (gt_in ⟨f1, f2, f3, f4, f5⟩) rfl rfl rfl (C.2.2.2.2.2.1.2.1 _ L) (C.2.2.2.2.1 _ f2) ⟨f3, f4, f5⟩ ⟨Nat.le_of_ble_eq_true h1, Nat.le_of_ble_eq_true h2⟩, hy1, C.2.2.2.2.1 _ F2⟩ ⟨jP.blind, hq⟩ rfl hna hl.1 hstk (lv_room (Nat.le_of_ble_eq_true h5)) d ⟨Nat.le_of_ble_eq_true h3, Nat.le_of_ble_eq_true h4⟩) hS (fun v ws' H1 locs1 hp hw hs => h v ws' hp C H1 locs1 ls hw hs hl)
theorem J.objInit (B : jB l G X fr lo mc ms post nm) {ix a : Nat} (d : jd μ.2.1 pc (.invokespecial ix) 3 p2) (hL : Cond.methodLink μ.1 ix Lib.objectInit ∈ gt) (hI : Cond.instanceMethod Lib.objectInit ∈ gt) (hC : Cond.code Lib.objectInit ⟨#[0xb1]⟩ 1 none ∈ gt) (hr : (Nat.ble 1 fr && Nat.ble ((st.map fun v => v.category).sum + 12) lo) = true) (h : J G X μ ws k n p2 lv st) : J G X μ ws k n pc lv (.ref a :: st) := by
  obtain ⟨p, l, e, R, s, m, args, below, meth, c, Q⟩ := X
  obtain ⟨own, cc, nL, ret⟩ := μ
  obtain ⟨d, rfl⟩ := d
  obtain ⟨rfl, hR, -, -⟩ := B
  subst hR
  simp only [Bool.and_eq_true] at hr
  intro C H locs ls hW hS hl
  exact W.objInit C.1 C.2.1 C.2.2.2.1 (C.2.2.2.2.1 _ hL) (C.2.2.2.2.1 _ hI) (C.2.2.2.2.1 _ hC) rfl (hl.1.trans C.2.2.1.symm) rfl d (Nat.le_of_ble_eq_true hr.1) (by show 2 * 0 + _ + 12 ≤ _; have := Nat.le_of_ble_eq_true hr.2; simp only [Nat.mul_zero, Nat.zero_add]; exact this) (h C H locs ls hW hS hl)
end JR2
end
section
theorem ly_X0_0 : u_lay RX0 TX0 0 ∈ gt := gt_of (List.mem_of_getElem? (i := 123) (by decide +kernel)) rfl
theorem ly_X0_1 : u_lay RX0 TX0 1 ∈ gt := gt_of (List.mem_of_getElem? (i := 125) (by decide +kernel)) rfl
theorem lyw_X0 : ∀ w ∈ u_ws RX0 TX0 2, w ∈ gt := by
  intro w hw
  obtain ⟨j, hj, rfl⟩ := List.mem_map.mp hw
  have hj := List.mem_range.mp hj
  match j, hj with
  | 0, _ => exact ly_X0_0
  | 1, _ => exact ly_X0_1
theorem clX0 : jcl 0 RX0 TX0 2 := ⟨rfl, lyw_X0, ⟨tyX0, tyX0_ok⟩, nmX0⟩
theorem ly_X1_0 : u_lay RX1 TX1 0 ∈ gt := gt_of (List.mem_of_getElem? (i := 107) (by decide +kernel)) rfl
theorem ly_X1_1 : u_lay RX1 TX1 1 ∈ gt := gt_of (List.mem_of_getElem? (i := 109) (by decide +kernel)) rfl
theorem ly_X1_2 : u_lay RX1 TX1 2 ∈ gt := gt_of (List.mem_of_getElem? (i := 111) (by decide +kernel)) rfl
theorem lyw_X1 : ∀ w ∈ u_ws RX1 TX1 3, w ∈ gt := by
  intro w hw
  obtain ⟨j, hj, rfl⟩ := List.mem_map.mp hw
  have hj := List.mem_range.mp hj
  match j, hj with
  | 0, _ => exact ly_X1_0
  | 1, _ => exact ly_X1_1
  | 2, _ => exact ly_X1_2
theorem clX1 : jcl 1 RX1 TX1 3 := ⟨rfl, lyw_X1, ⟨tyX1, tyX1_ok⟩, nmX1⟩
theorem ly_X2_0 : u_lay RX2 TX2 0 ∈ gt := gt_of (List.mem_of_getElem? (i := 178) (by decide +kernel)) rfl
theorem ly_X2_1 : u_lay RX2 TX2 1 ∈ gt := gt_of (List.mem_of_getElem? (i := 180) (by decide +kernel)) rfl
theorem ly_X2_2 : u_lay RX2 TX2 2 ∈ gt := gt_of (List.mem_of_getElem? (i := 182) (by decide +kernel)) rfl
theorem ly_X2_3 : u_lay RX2 TX2 3 ∈ gt := gt_of (List.mem_of_getElem? (i := 184) (by decide +kernel)) rfl
theorem ly_X2_4 : u_lay RX2 TX2 4 ∈ gt := gt_of (List.mem_of_getElem? (i := 186) (by decide +kernel)) rfl
theorem ly_X2_5 : u_lay RX2 TX2 5 ∈ gt := gt_of (List.mem_of_getElem? (i := 188) (by decide +kernel)) rfl
theorem ly_X2_6 : u_lay RX2 TX2 6 ∈ gt := gt_of (List.mem_of_getElem? (i := 190) (by decide +kernel)) rfl
theorem ly_X2_7 : u_lay RX2 TX2 7 ∈ gt := gt_of (List.mem_of_getElem? (i := 192) (by decide +kernel)) rfl
theorem ly_X2_8 : u_lay RX2 TX2 8 ∈ gt := gt_of (List.mem_of_getElem? (i := 194) (by decide +kernel)) rfl
theorem lyw_X2 : ∀ w ∈ u_ws RX2 TX2 9, w ∈ gt := by
  intro w hw
  obtain ⟨j, hj, rfl⟩ := List.mem_map.mp hw
  have hj := List.mem_range.mp hj
  match j, hj with
  | 0, _ => exact ly_X2_0
  | 1, _ => exact ly_X2_1
  | 2, _ => exact ly_X2_2
  | 3, _ => exact ly_X2_3
  | 4, _ => exact ly_X2_4
  | 5, _ => exact ly_X2_5
  | 6, _ => exact ly_X2_6
  | 7, _ => exact ly_X2_7
  | 8, _ => exact ly_X2_8
theorem clX2 : jcl 2 RX2 TX2 9 := ⟨rfl, lyw_X2, ⟨tyX2, tyX2_ok⟩, nmX2⟩
theorem ly_X3_0 : u_lay RX3 TX3 0 ∈ gt := gt_of (List.mem_of_getElem? (i := 138) (by decide +kernel)) rfl
theorem ly_X3_1 : u_lay RX3 TX3 1 ∈ gt := gt_of (List.mem_of_getElem? (i := 140) (by decide +kernel)) rfl
theorem ly_X3_2 : u_lay RX3 TX3 2 ∈ gt := gt_of (List.mem_of_getElem? (i := 142) (by decide +kernel)) rfl
theorem lyw_X3 : ∀ w ∈ u_ws RX3 TX3 3, w ∈ gt := by
  intro w hw
  obtain ⟨j, hj, rfl⟩ := List.mem_map.mp hw
  have hj := List.mem_range.mp hj
  match j, hj with
  | 0, _ => exact ly_X3_0
  | 1, _ => exact ly_X3_1
  | 2, _ => exact ly_X3_2
theorem clX3 : jcl 3 RX3 TX3 3 := ⟨rfl, lyw_X3, ⟨tyX3, tyX3_ok⟩, nmX3⟩
theorem ly_X4_0 : u_lay RX4 TX4 0 ∈ gt := gt_of (List.mem_of_getElem? (i := 155) (by decide +kernel)) rfl
theorem ly_X4_1 : u_lay RX4 TX4 1 ∈ gt := gt_of (List.mem_of_getElem? (i := 157) (by decide +kernel)) rfl
theorem lyw_X4 : ∀ w ∈ u_ws RX4 TX4 2, w ∈ gt := by
  intro w hw
  obtain ⟨j, hj, rfl⟩ := List.mem_map.mp hw
  have hj := List.mem_range.mp hj
  match j, hj with
  | 0, _ => exact ly_X4_0
  | 1, _ => exact ly_X4_1
theorem clX4 : jcl 4 RX4 TX4 2 := ⟨rfl, lyw_X4, ⟨tyX4, tyX4_ok⟩, nmX4⟩
theorem ly_X5_0 : u_lay RX5 TX5 0 ∈ gt := gt_of (List.mem_of_getElem? (i := 579) (by decide +kernel)) rfl
theorem ly_X5_1 : u_lay RX5 TX5 1 ∈ gt := gt_of (List.mem_of_getElem? (i := 581) (by decide +kernel)) rfl
theorem ly_X5_2 : u_lay RX5 TX5 2 ∈ gt := gt_of (List.mem_of_getElem? (i := 583) (by decide +kernel)) rfl
theorem ly_X5_3 : u_lay RX5 TX5 3 ∈ gt := gt_of (List.mem_of_getElem? (i := 585) (by decide +kernel)) rfl
theorem lyw_X5 : ∀ w ∈ u_ws RX5 TX5 4, w ∈ gt := by
  intro w hw
  obtain ⟨j, hj, rfl⟩ := List.mem_map.mp hw
  have hj := List.mem_range.mp hj
  match j, hj with
  | 0, _ => exact ly_X5_0
  | 1, _ => exact ly_X5_1
  | 2, _ => exact ly_X5_2
  | 3, _ => exact ly_X5_3
theorem clX5 : jcl 5 RX5 TX5 4 := ⟨rfl, lyw_X5, ⟨tyX5, tyX5_ok⟩, nmX5⟩
theorem ly_X6_0 : u_lay RX6 TX6 0 ∈ gt := gt_of (List.mem_of_getElem? (i := 273) (by decide +kernel)) rfl
theorem ly_X6_1 : u_lay RX6 TX6 1 ∈ gt := gt_of (List.mem_of_getElem? (i := 275) (by decide +kernel)) rfl
theorem ly_X6_2 : u_lay RX6 TX6 2 ∈ gt := gt_of (List.mem_of_getElem? (i := 277) (by decide +kernel)) rfl
theorem ly_X6_3 : u_lay RX6 TX6 3 ∈ gt := gt_of (List.mem_of_getElem? (i := 279) (by decide +kernel)) rfl
theorem lyw_X6 : ∀ w ∈ u_ws RX6 TX6 4, w ∈ gt := by
  intro w hw
  obtain ⟨j, hj, rfl⟩ := List.mem_map.mp hw
  have hj := List.mem_range.mp hj
  match j, hj with
  | 0, _ => exact ly_X6_0
  | 1, _ => exact ly_X6_1
  | 2, _ => exact ly_X6_2
  | 3, _ => exact ly_X6_3
theorem clX6 : jcl 6 RX6 TX6 4 := ⟨rfl, lyw_X6, ⟨tyX6, tyX6_ok⟩, nmX6⟩
theorem ly_X7_0 : u_lay RX7 TX7 0 ∈ gt := gt_of (List.mem_of_getElem? (i := 214) (by decide +kernel)) rfl
theorem ly_X7_1 : u_lay RX7 TX7 1 ∈ gt := gt_of (List.mem_of_getElem? (i := 216) (by decide +kernel)) rfl
theorem ly_X7_2 : u_lay RX7 TX7 2 ∈ gt := gt_of (List.mem_of_getElem? (i := 218) (by decide +kernel)) rfl
theorem ly_X7_3 : u_lay RX7 TX7 3 ∈ gt := gt_of (List.mem_of_getElem? (i := 220) (by decide +kernel)) rfl
theorem ly_X7_4 : u_lay RX7 TX7 4 ∈ gt := gt_of (List.mem_of_getElem? (i := 222) (by decide +kernel)) rfl
theorem ly_X7_5 : u_lay RX7 TX7 5 ∈ gt := gt_of (List.mem_of_getElem? (i := 224) (by decide +kernel)) rfl
theorem ly_X7_6 : u_lay RX7 TX7 6 ∈ gt := gt_of (List.mem_of_getElem? (i := 226) (by decide +kernel)) rfl
theorem ly_X7_7 : u_lay RX7 TX7 7 ∈ gt := gt_of (List.mem_of_getElem? (i := 228) (by decide +kernel)) rfl
theorem ly_X7_8 : u_lay RX7 TX7 8 ∈ gt := gt_of (List.mem_of_getElem? (i := 230) (by decide +kernel)) rfl
theorem ly_X7_9 : u_lay RX7 TX7 9 ∈ gt := gt_of (List.mem_of_getElem? (i := 232) (by decide +kernel)) rfl
theorem ly_X7_10 : u_lay RX7 TX7 10 ∈ gt := gt_of (List.mem_of_getElem? (i := 234) (by decide +kernel)) rfl
theorem ly_X7_11 : u_lay RX7 TX7 11 ∈ gt := gt_of (List.mem_of_getElem? (i := 236) (by decide +kernel)) rfl
theorem ly_X7_12 : u_lay RX7 TX7 12 ∈ gt := gt_of (List.mem_of_getElem? (i := 238) (by decide +kernel)) rfl
theorem ly_X7_13 : u_lay RX7 TX7 13 ∈ gt := gt_of (List.mem_of_getElem? (i := 240) (by decide +kernel)) rfl
theorem ly_X7_14 : u_lay RX7 TX7 14 ∈ gt := gt_of (List.mem_of_getElem? (i := 242) (by decide +kernel)) rfl
theorem ly_X7_15 : u_lay RX7 TX7 15 ∈ gt := gt_of (List.mem_of_getElem? (i := 244) (by decide +kernel)) rfl
theorem ly_X7_16 : u_lay RX7 TX7 16 ∈ gt := gt_of (List.mem_of_getElem? (i := 246) (by decide +kernel)) rfl
theorem lyw_X7 : ∀ w ∈ u_ws RX7 TX7 17, w ∈ gt := by
  intro w hw
  obtain ⟨j, hj, rfl⟩ := List.mem_map.mp hw
  have hj := List.mem_range.mp hj
  match j, hj with
  | 0, _ => exact ly_X7_0
  | 1, _ => exact ly_X7_1
  | 2, _ => exact ly_X7_2
  | 3, _ => exact ly_X7_3
  | 4, _ => exact ly_X7_4
  | 5, _ => exact ly_X7_5
  | 6, _ => exact ly_X7_6
  | 7, _ => exact ly_X7_7
  | 8, _ => exact ly_X7_8
  | 9, _ => exact ly_X7_9
  | 10, _ => exact ly_X7_10
  | 11, _ => exact ly_X7_11
  | 12, _ => exact ly_X7_12
  | 13, _ => exact ly_X7_13
  | 14, _ => exact ly_X7_14
  | 15, _ => exact ly_X7_15
  | 16, _ => exact ly_X7_16
  | q + 17, h => exact absurd h (by omega)
theorem clX7 : jcl 7 RX7 TX7 17 := ⟨rfl, lyw_X7, ⟨tyX7, tyX7_ok⟩, nmX7⟩
theorem ly_X8_0 : u_lay RX8 TX8 0 ∈ gt := gt_of (List.mem_of_getElem? (i := 675) (by decide +kernel)) rfl
theorem ly_X8_1 : u_lay RX8 TX8 1 ∈ gt := gt_of (List.mem_of_getElem? (i := 677) (by decide +kernel)) rfl
theorem ly_X8_2 : u_lay RX8 TX8 2 ∈ gt := gt_of (List.mem_of_getElem? (i := 679) (by decide +kernel)) rfl
theorem ly_X8_3 : u_lay RX8 TX8 3 ∈ gt := gt_of (List.mem_of_getElem? (i := 681) (by decide +kernel)) rfl
theorem ly_X8_4 : u_lay RX8 TX8 4 ∈ gt := gt_of (List.mem_of_getElem? (i := 683) (by decide +kernel)) rfl
theorem ly_X8_5 : u_lay RX8 TX8 5 ∈ gt := gt_of (List.mem_of_getElem? (i := 685) (by decide +kernel)) rfl
theorem ly_X8_6 : u_lay RX8 TX8 6 ∈ gt := gt_of (List.mem_of_getElem? (i := 687) (by decide +kernel)) rfl
theorem ly_X8_7 : u_lay RX8 TX8 7 ∈ gt := gt_of (List.mem_of_getElem? (i := 689) (by decide +kernel)) rfl
theorem ly_X8_8 : u_lay RX8 TX8 8 ∈ gt := gt_of (List.mem_of_getElem? (i := 691) (by decide +kernel)) rfl
theorem ly_X8_9 : u_lay RX8 TX8 9 ∈ gt := gt_of (List.mem_of_getElem? (i := 693) (by decide +kernel)) rfl
theorem ly_X8_10 : u_lay RX8 TX8 10 ∈ gt := gt_of (List.mem_of_getElem? (i := 695) (by decide +kernel)) rfl
theorem ly_X8_11 : u_lay RX8 TX8 11 ∈ gt := gt_of (List.mem_of_getElem? (i := 697) (by decide +kernel)) rfl
theorem ly_X8_12 : u_lay RX8 TX8 12 ∈ gt := gt_of (List.mem_of_getElem? (i := 699) (by decide +kernel)) rfl
theorem ly_X8_13 : u_lay RX8 TX8 13 ∈ gt := gt_of (List.mem_of_getElem? (i := 701) (by decide +kernel)) rfl
theorem ly_X8_14 : u_lay RX8 TX8 14 ∈ gt := gt_of (List.mem_of_getElem? (i := 703) (by decide +kernel)) rfl
theorem ly_X8_15 : u_lay RX8 TX8 15 ∈ gt := gt_of (List.mem_of_getElem? (i := 705) (by decide +kernel)) rfl
theorem ly_X8_16 : u_lay RX8 TX8 16 ∈ gt := gt_of (List.mem_of_getElem? (i := 707) (by decide +kernel)) rfl
theorem ly_X8_17 : u_lay RX8 TX8 17 ∈ gt := gt_of (List.mem_of_getElem? (i := 709) (by decide +kernel)) rfl
theorem ly_X8_18 : u_lay RX8 TX8 18 ∈ gt := gt_of (List.mem_of_getElem? (i := 711) (by decide +kernel)) rfl
theorem ly_X8_19 : u_lay RX8 TX8 19 ∈ gt := gt_of (List.mem_of_getElem? (i := 713) (by decide +kernel)) rfl
theorem ly_X8_20 : u_lay RX8 TX8 20 ∈ gt := gt_of (List.mem_of_getElem? (i := 715) (by decide +kernel)) rfl
theorem ly_X8_21 : u_lay RX8 TX8 21 ∈ gt := gt_of (List.mem_of_getElem? (i := 717) (by decide +kernel)) rfl
theorem ly_X8_22 : u_lay RX8 TX8 22 ∈ gt := gt_of (List.mem_of_getElem? (i := 719) (by decide +kernel)) rfl
theorem ly_X8_23 : u_lay RX8 TX8 23 ∈ gt := gt_of (List.mem_of_getElem? (i := 721) (by decide +kernel)) rfl
theorem ly_X8_24 : u_lay RX8 TX8 24 ∈ gt := gt_of (List.mem_of_getElem? (i := 723) (by decide +kernel)) rfl
theorem ly_X8_25 : u_lay RX8 TX8 25 ∈ gt := gt_of (List.mem_of_getElem? (i := 725) (by decide +kernel)) rfl
theorem lyw_X8 : ∀ w ∈ u_ws RX8 TX8 26, w ∈ gt := by
  intro w hw
  obtain ⟨j, hj, rfl⟩ := List.mem_map.mp hw
  have hj := List.mem_range.mp hj
  match j, hj with
  | 0, _ => exact ly_X8_0
  | 1, _ => exact ly_X8_1
  | 2, _ => exact ly_X8_2
  | 3, _ => exact ly_X8_3
  | 4, _ => exact ly_X8_4
  | 5, _ => exact ly_X8_5
  | 6, _ => exact ly_X8_6
  | 7, _ => exact ly_X8_7
  | 8, _ => exact ly_X8_8
  | 9, _ => exact ly_X8_9
  | 10, _ => exact ly_X8_10
  | 11, _ => exact ly_X8_11
  | 12, _ => exact ly_X8_12
  | 13, _ => exact ly_X8_13
  | 14, _ => exact ly_X8_14
  | 15, _ => exact ly_X8_15
  | 16, _ => exact ly_X8_16
  | 17, _ => exact ly_X8_17
  | 18, _ => exact ly_X8_18
  | 19, _ => exact ly_X8_19
  | 20, _ => exact ly_X8_20
  | 21, _ => exact ly_X8_21
  | 22, _ => exact ly_X8_22
  | 23, _ => exact ly_X8_23
  | 24, _ => exact ly_X8_24
  | 25, _ => exact ly_X8_25
  | q + 26, h => exact absurd h (by omega)
theorem clX8 : jcl 8 RX8 TX8 26 := ⟨rfl, lyw_X8, ⟨tyX8, tyX8_ok⟩, nmX8⟩
theorem fw_X1_9 : Cond.fieldLink RX1 9 (TX1 0).1 (TX1 0).2.1 (TX1 0).2.2.1 ∈ gt := gt_of (List.mem_of_getElem? (i := 92) (by decide +kernel)) rfl
theorem fl_X1_9 : jfl RX1 9 1 0 := ⟨_, _, _, clX1, by decide, Or.inl fw_X1_9⟩
theorem fp_X1_9 : jfp RX1 9 1 0 (.array .int) true := ⟨_, _, _, clX1, by decide, Or.inl fw_X1_9, rfl, by decide +kernel, fun _ => ⟨rfl, fw_X1_9⟩⟩
theorem fw_X3_27 : Cond.fieldLinkNest RX3 27 (TX1 0).1 (TX1 0).2.1 (TX1 0).2.2.1 "ChangingStars" ∈ nt := nt_of (List.mem_of_getElem? (i := 93) (by decide +kernel)) rfl
theorem fl_X3_27 : jfl RX3 27 1 0 := ⟨_, _, _, clX1, by decide, Or.inr ⟨_, fw_X3_27⟩⟩
theorem fw_X2_76 : Cond.fieldLinkNest RX2 76 (TX1 0).1 (TX1 0).2.1 (TX1 0).2.2.1 "ChangingStars" ∈ nt := nt_of (List.mem_of_getElem? (i := 94) (by decide +kernel)) rfl
theorem fl_X2_76 : jfl RX2 76 1 0 := ⟨_, _, _, clX1, by decide, Or.inr ⟨_, fw_X2_76⟩⟩
theorem fw_X4_25 : Cond.fieldLinkNest RX4 25 (TX1 0).1 (TX1 0).2.1 (TX1 0).2.2.1 "ChangingStars" ∈ nt := nt_of (List.mem_of_getElem? (i := 95) (by decide +kernel)) rfl
theorem fl_X4_25 : jfl RX4 25 1 0 := ⟨_, _, _, clX1, by decide, Or.inr ⟨_, fw_X4_25⟩⟩
theorem fw_X7_179 : Cond.fieldLinkNest RX7 179 (TX1 0).1 (TX1 0).2.1 (TX1 0).2.2.1 "ChangingStars" ∈ nt := nt_of (List.mem_of_getElem? (i := 96) (by decide +kernel)) rfl
theorem fl_X7_179 : jfl RX7 179 1 0 := ⟨_, _, _, clX1, by decide, Or.inr ⟨_, fw_X7_179⟩⟩
theorem fw_X1_15 : Cond.fieldLink RX1 15 (TX1 1).1 (TX1 1).2.1 (TX1 1).2.2.1 ∈ gt := gt_of (List.mem_of_getElem? (i := 97) (by decide +kernel)) rfl
theorem fl_X1_15 : jfl RX1 15 1 1 := ⟨_, _, _, clX1, by decide, Or.inl fw_X1_15⟩
theorem fp_X1_15 : jfp RX1 15 1 1 (.array .int) true := ⟨_, _, _, clX1, by decide, Or.inl fw_X1_15, rfl, by decide +kernel, fun _ => ⟨rfl, fw_X1_15⟩⟩
theorem fw_X3_34 : Cond.fieldLinkNest RX3 34 (TX1 1).1 (TX1 1).2.1 (TX1 1).2.2.1 "ChangingStars" ∈ nt := nt_of (List.mem_of_getElem? (i := 98) (by decide +kernel)) rfl
theorem fl_X3_34 : jfl RX3 34 1 1 := ⟨_, _, _, clX1, by decide, Or.inr ⟨_, fw_X3_34⟩⟩
theorem fw_X4_22 : Cond.fieldLinkNest RX4 22 (TX1 1).1 (TX1 1).2.1 (TX1 1).2.2.1 "ChangingStars" ∈ nt := nt_of (List.mem_of_getElem? (i := 99) (by decide +kernel)) rfl
theorem fl_X4_22 : jfl RX4 22 1 1 := ⟨_, _, _, clX1, by decide, Or.inr ⟨_, fw_X4_22⟩⟩
theorem fw_X2_83 : Cond.fieldLinkNest RX2 83 (TX1 1).1 (TX1 1).2.1 (TX1 1).2.2.1 "ChangingStars" ∈ nt := nt_of (List.mem_of_getElem? (i := 100) (by decide +kernel)) rfl
theorem fl_X2_83 : jfl RX2 83 1 1 := ⟨_, _, _, clX1, by decide, Or.inr ⟨_, fw_X2_83⟩⟩
theorem fw_X7_187 : Cond.fieldLinkNest RX7 187 (TX1 1).1 (TX1 1).2.1 (TX1 1).2.2.1 "ChangingStars" ∈ nt := nt_of (List.mem_of_getElem? (i := 101) (by decide +kernel)) rfl
theorem fl_X7_187 : jfl RX7 187 1 1 := ⟨_, _, _, clX1, by decide, Or.inr ⟨_, fw_X7_187⟩⟩
theorem fw_X1_18 : Cond.fieldLink RX1 18 (TX1 2).1 (TX1 2).2.1 (TX1 2).2.2.1 ∈ gt := gt_of (List.mem_of_getElem? (i := 102) (by decide +kernel)) rfl
theorem fl_X1_18 : jfl RX1 18 1 2 := ⟨_, _, _, clX1, by decide, Or.inl fw_X1_18⟩
theorem fp_X1_18 : jfp RX1 18 1 2 .int false := ⟨_, _, _, clX1, by decide, Or.inl fw_X1_18, rfl, by decide +kernel, fun z => by cases z⟩
theorem fw_X3_21 : Cond.fieldLinkNest RX3 21 (TX1 2).1 (TX1 2).2.1 (TX1 2).2.2.1 "ChangingStars" ∈ nt := nt_of (List.mem_of_getElem? (i := 103) (by decide +kernel)) rfl
theorem fl_X3_21 : jfl RX3 21 1 2 := ⟨_, _, _, clX1, by decide, Or.inr ⟨_, fw_X3_21⟩⟩
theorem fp_X3_21 : jfp RX3 21 1 2 .int false := ⟨_, _, _, clX1, by decide, Or.inr ⟨_, fw_X3_21⟩, rfl, by decide +kernel, fun z => by cases z⟩
theorem fw_X4_19 : Cond.fieldLinkNest RX4 19 (TX1 2).1 (TX1 2).2.1 (TX1 2).2.2.1 "ChangingStars" ∈ nt := nt_of (List.mem_of_getElem? (i := 104) (by decide +kernel)) rfl
theorem fl_X4_19 : jfl RX4 19 1 2 := ⟨_, _, _, clX1, by decide, Or.inr ⟨_, fw_X4_19⟩⟩
theorem fp_X4_19 : jfp RX4 19 1 2 .int false := ⟨_, _, _, clX1, by decide, Or.inr ⟨_, fw_X4_19⟩, rfl, by decide +kernel, fun z => by cases z⟩
theorem fw_X2_68 : Cond.fieldLinkNest RX2 68 (TX1 2).1 (TX1 2).2.1 (TX1 2).2.2.1 "ChangingStars" ∈ nt := nt_of (List.mem_of_getElem? (i := 105) (by decide +kernel)) rfl
theorem fl_X2_68 : jfl RX2 68 1 2 := ⟨_, _, _, clX1, by decide, Or.inr ⟨_, fw_X2_68⟩⟩
theorem fp_X2_68 : jfp RX2 68 1 2 .int false := ⟨_, _, _, clX1, by decide, Or.inr ⟨_, fw_X2_68⟩, rfl, by decide +kernel, fun z => by cases z⟩
theorem fw_X7_176 : Cond.fieldLinkNest RX7 176 (TX1 2).1 (TX1 2).2.1 (TX1 2).2.2.1 "ChangingStars" ∈ nt := nt_of (List.mem_of_getElem? (i := 106) (by decide +kernel)) rfl
theorem fl_X7_176 : jfl RX7 176 1 2 := ⟨_, _, _, clX1, by decide, Or.inr ⟨_, fw_X7_176⟩⟩
theorem fp_X7_176 : jfp RX7 176 1 2 .int false := ⟨_, _, _, clX1, by decide, Or.inr ⟨_, fw_X7_176⟩, rfl, by decide +kernel, fun z => by cases z⟩
theorem fw_X0_9 : Cond.fieldLink RX0 9 (TX0 0).1 (TX0 0).2.1 (TX0 0).2.2.1 ∈ gt := gt_of (List.mem_of_getElem? (i := 121) (by decide +kernel)) rfl
theorem fl_X0_9 : jfl RX0 9 0 0 := ⟨_, _, _, clX0, by decide, Or.inl fw_X0_9⟩
theorem fp_X0_9 : jfp RX0 9 0 0 (.array .int) true := ⟨_, _, _, clX0, by decide, Or.inl fw_X0_9, rfl, by decide +kernel, fun _ => ⟨rfl, fw_X0_9⟩⟩
theorem fw_X0_15 : Cond.fieldLink RX0 15 (TX0 1).1 (TX0 1).2.1 (TX0 1).2.2.1 ∈ gt := gt_of (List.mem_of_getElem? (i := 122) (by decide +kernel)) rfl
theorem fl_X0_15 : jfl RX0 15 0 1 := ⟨_, _, _, clX0, by decide, Or.inl fw_X0_15⟩
theorem fp_X0_15 : jfp RX0 15 0 1 .int false := ⟨_, _, _, clX0, by decide, Or.inl fw_X0_15, rfl, by decide +kernel, fun z => by cases z⟩
theorem fw_X3_9 : Cond.fieldLink RX3 9 (TX3 0).1 (TX3 0).2.1 (TX3 0).2.2.1 ∈ gt := gt_of (List.mem_of_getElem? (i := 134) (by decide +kernel)) rfl
theorem fl_X3_9 : jfl RX3 9 3 0 := ⟨_, _, _, clX3, by decide, Or.inl fw_X3_9⟩
theorem fp_X3_9 : jfp RX3 9 3 0 (.array .int) true := ⟨_, _, _, clX3, by decide, Or.inl fw_X3_9, rfl, by decide +kernel, fun _ => ⟨rfl, fw_X3_9⟩⟩
theorem fw_X3_15 : Cond.fieldLink RX3 15 (TX3 1).1 (TX3 1).2.1 (TX3 1).2.2.1 ∈ gt := gt_of (List.mem_of_getElem? (i := 135) (by decide +kernel)) rfl
theorem fl_X3_15 : jfl RX3 15 3 1 := ⟨_, _, _, clX3, by decide, Or.inl fw_X3_15⟩
theorem fp_X3_15 : jfp RX3 15 3 1 (.array .int) true := ⟨_, _, _, clX3, by decide, Or.inl fw_X3_15, rfl, by decide +kernel, fun _ => ⟨rfl, fw_X3_15⟩⟩
theorem fw_X3_18 : Cond.fieldLink RX3 18 (TX3 2).1 (TX3 2).2.1 (TX3 2).2.2.1 ∈ gt := gt_of (List.mem_of_getElem? (i := 136) (by decide +kernel)) rfl
theorem fl_X3_18 : jfl RX3 18 3 2 := ⟨_, _, _, clX3, by decide, Or.inl fw_X3_18⟩
theorem fp_X3_18 : jfp RX3 18 3 2 (.array .int) true := ⟨_, _, _, clX3, by decide, Or.inl fw_X3_18, rfl, by decide +kernel, fun _ => ⟨rfl, fw_X3_18⟩⟩
theorem fw_X7_171 : Cond.fieldLinkNest RX7 171 (TX3 2).1 (TX3 2).2.1 (TX3 2).2.2.1 "ChangingStars" ∈ nt := nt_of (List.mem_of_getElem? (i := 137) (by decide +kernel)) rfl
theorem fl_X7_171 : jfl RX7 171 3 2 := ⟨_, _, _, clX3, by decide, Or.inr ⟨_, fw_X7_171⟩⟩
theorem fw_X4_9 : Cond.fieldLink RX4 9 (TX4 0).1 (TX4 0).2.1 (TX4 0).2.2.1 ∈ gt := gt_of (List.mem_of_getElem? (i := 151) (by decide +kernel)) rfl
theorem fl_X4_9 : jfl RX4 9 4 0 := ⟨_, _, _, clX4, by decide, Or.inl fw_X4_9⟩
theorem fp_X4_9 : jfp RX4 9 4 0 (.array .int) true := ⟨_, _, _, clX4, by decide, Or.inl fw_X4_9, rfl, by decide +kernel, fun _ => ⟨rfl, fw_X4_9⟩⟩
theorem fw_X7_211 : Cond.fieldLinkNest RX7 211 (TX4 0).1 (TX4 0).2.1 (TX4 0).2.2.1 "ChangingStars" ∈ nt := nt_of (List.mem_of_getElem? (i := 152) (by decide +kernel)) rfl
theorem fl_X7_211 : jfl RX7 211 4 0 := ⟨_, _, _, clX4, by decide, Or.inr ⟨_, fw_X7_211⟩⟩
theorem fw_X4_15 : Cond.fieldLink RX4 15 (TX4 1).1 (TX4 1).2.1 (TX4 1).2.2.1 ∈ gt := gt_of (List.mem_of_getElem? (i := 153) (by decide +kernel)) rfl
theorem fl_X4_15 : jfl RX4 15 4 1 := ⟨_, _, _, clX4, by decide, Or.inl fw_X4_15⟩
theorem fp_X4_15 : jfp RX4 15 4 1 .int false := ⟨_, _, _, clX4, by decide, Or.inl fw_X4_15, rfl, by decide +kernel, fun z => by cases z⟩
theorem fw_X7_207 : Cond.fieldLinkNest RX7 207 (TX4 1).1 (TX4 1).2.1 (TX4 1).2.2.1 "ChangingStars" ∈ nt := nt_of (List.mem_of_getElem? (i := 154) (by decide +kernel)) rfl
theorem fl_X7_207 : jfl RX7 207 4 1 := ⟨_, _, _, clX4, by decide, Or.inr ⟨_, fw_X7_207⟩⟩
theorem fp_X7_207 : jfp RX7 207 4 1 .int false := ⟨_, _, _, clX4, by decide, Or.inr ⟨_, fw_X7_207⟩, rfl, by decide +kernel, fun z => by cases z⟩
theorem fw_X2_9 : Cond.fieldLink RX2 9 (TX2 0).1 (TX2 0).2.1 (TX2 0).2.2.1 ∈ gt := gt_of (List.mem_of_getElem? (i := 166) (by decide +kernel)) rfl
theorem fl_X2_9 : jfl RX2 9 2 0 := ⟨_, _, _, clX2, by decide, Or.inl fw_X2_9⟩
theorem fp_X2_9 : jfp RX2 9 2 0 (.array .int) true := ⟨_, _, _, clX2, by decide, Or.inl fw_X2_9, rfl, by decide +kernel, fun _ => ⟨rfl, fw_X2_9⟩⟩
theorem fw_X2_15 : Cond.fieldLink RX2 15 (TX2 1).1 (TX2 1).2.1 (TX2 1).2.2.1 ∈ gt := gt_of (List.mem_of_getElem? (i := 167) (by decide +kernel)) rfl
theorem fl_X2_15 : jfl RX2 15 2 1 := ⟨_, _, _, clX2, by decide, Or.inl fw_X2_15⟩
theorem fp_X2_15 : jfp RX2 15 2 1 (.array .int) true := ⟨_, _, _, clX2, by decide, Or.inl fw_X2_15, rfl, by decide +kernel, fun _ => ⟨rfl, fw_X2_15⟩⟩
theorem fw_X2_18 : Cond.fieldLink RX2 18 (TX2 2).1 (TX2 2).2.1 (TX2 2).2.2.1 ∈ gt := gt_of (List.mem_of_getElem? (i := 168) (by decide +kernel)) rfl
theorem fl_X2_18 : jfl RX2 18 2 2 := ⟨_, _, _, clX2, by decide, Or.inl fw_X2_18⟩
theorem fp_X2_18 : jfp RX2 18 2 2 (.array .int) true := ⟨_, _, _, clX2, by decide, Or.inl fw_X2_18, rfl, by decide +kernel, fun _ => ⟨rfl, fw_X2_18⟩⟩
theorem fw_X2_21 : Cond.fieldLink RX2 21 (TX2 3).1 (TX2 3).2.1 (TX2 3).2.2.1 ∈ gt := gt_of (List.mem_of_getElem? (i := 169) (by decide +kernel)) rfl
theorem fl_X2_21 : jfl RX2 21 2 3 := ⟨_, _, _, clX2, by decide, Or.inl fw_X2_21⟩
theorem fp_X2_21 : jfp RX2 21 2 3 (.array .int) true := ⟨_, _, _, clX2, by decide, Or.inl fw_X2_21, rfl, by decide +kernel, fun _ => ⟨rfl, fw_X2_21⟩⟩
theorem fw_X2_65 : Cond.fieldLink RX2 65 (TX2 4).1 (TX2 4).2.1 (TX2 4).2.2.1 ∈ gt := gt_of (List.mem_of_getElem? (i := 170) (by decide +kernel)) rfl
theorem fl_X2_65 : jfl RX2 65 2 4 := ⟨_, _, _, clX2, by decide, Or.inl fw_X2_65⟩
theorem fp_X2_65 : jfp RX2 65 2 4 .int false := ⟨_, _, _, clX2, by decide, Or.inl fw_X2_65, rfl, by decide +kernel, fun z => by cases z⟩
theorem fw_X2_73 : Cond.fieldLink RX2 73 (TX2 5).1 (TX2 5).2.1 (TX2 5).2.2.1 ∈ gt := gt_of (List.mem_of_getElem? (i := 171) (by decide +kernel)) rfl
theorem fl_X2_73 : jfl RX2 73 2 5 := ⟨_, _, _, clX2, by decide, Or.inl fw_X2_73⟩
theorem fp_X2_73 : jfp RX2 73 2 5 .int false := ⟨_, _, _, clX2, by decide, Or.inl fw_X2_73, rfl, by decide +kernel, fun z => by cases z⟩
theorem fw_X2_24 : Cond.fieldLink RX2 24 (TX2 6).1 (TX2 6).2.1 (TX2 6).2.2.1 ∈ gt := gt_of (List.mem_of_getElem? (i := 172) (by decide +kernel)) rfl
theorem fl_X2_24 : jfl RX2 24 2 6 := ⟨_, _, _, clX2, by decide, Or.inl fw_X2_24⟩
theorem fp_X2_24 : jfp RX2 24 2 6 .int false := ⟨_, _, _, clX2, by decide, Or.inl fw_X2_24, rfl, by decide +kernel, fun z => by cases z⟩
theorem fw_X7_195 : Cond.fieldLinkNest RX7 195 (TX2 6).1 (TX2 6).2.1 (TX2 6).2.2.1 "ChangingStars" ∈ nt := nt_of (List.mem_of_getElem? (i := 173) (by decide +kernel)) rfl
theorem fl_X7_195 : jfl RX7 195 2 6 := ⟨_, _, _, clX2, by decide, Or.inr ⟨_, fw_X7_195⟩⟩
theorem fp_X7_195 : jfp RX7 195 2 6 .int false := ⟨_, _, _, clX2, by decide, Or.inr ⟨_, fw_X7_195⟩, rfl, by decide +kernel, fun z => by cases z⟩
theorem fw_X2_28 : Cond.fieldLink RX2 28 (TX2 7).1 (TX2 7).2.1 (TX2 7).2.2.1 ∈ gt := gt_of (List.mem_of_getElem? (i := 174) (by decide +kernel)) rfl
theorem fl_X2_28 : jfl RX2 28 2 7 := ⟨_, _, _, clX2, by decide, Or.inl fw_X2_28⟩
theorem fp_X2_28 : jfp RX2 28 2 7 .int false := ⟨_, _, _, clX2, by decide, Or.inl fw_X2_28, rfl, by decide +kernel, fun z => by cases z⟩
theorem fw_X7_198 : Cond.fieldLinkNest RX7 198 (TX2 7).1 (TX2 7).2.1 (TX2 7).2.2.1 "ChangingStars" ∈ nt := nt_of (List.mem_of_getElem? (i := 175) (by decide +kernel)) rfl
theorem fl_X7_198 : jfl RX7 198 2 7 := ⟨_, _, _, clX2, by decide, Or.inr ⟨_, fw_X7_198⟩⟩
theorem fp_X7_198 : jfp RX7 198 2 7 .int false := ⟨_, _, _, clX2, by decide, Or.inr ⟨_, fw_X7_198⟩, rfl, by decide +kernel, fun z => by cases z⟩
theorem fw_X2_31 : Cond.fieldLink RX2 31 (TX2 8).1 (TX2 8).2.1 (TX2 8).2.2.1 ∈ gt := gt_of (List.mem_of_getElem? (i := 176) (by decide +kernel)) rfl
theorem fl_X2_31 : jfl RX2 31 2 8 := ⟨_, _, _, clX2, by decide, Or.inl fw_X2_31⟩
theorem fp_X2_31 : jfp RX2 31 2 8 .int false := ⟨_, _, _, clX2, by decide, Or.inl fw_X2_31, rfl, by decide +kernel, fun z => by cases z⟩
theorem fw_X7_201 : Cond.fieldLinkNest RX7 201 (TX2 8).1 (TX2 8).2.1 (TX2 8).2.2.1 "ChangingStars" ∈ nt := nt_of (List.mem_of_getElem? (i := 177) (by decide +kernel)) rfl
theorem fl_X7_201 : jfl RX7 201 2 8 := ⟨_, _, _, clX2, by decide, Or.inr ⟨_, fw_X7_201⟩⟩
theorem fp_X7_201 : jfp RX7 201 2 8 .int false := ⟨_, _, _, clX2, by decide, Or.inr ⟨_, fw_X7_201⟩, rfl, by decide +kernel, fun z => by cases z⟩
theorem fw_X7_11 : Cond.fieldLink RX7 11 (TX7 0).1 (TX7 0).2.1 (TX7 0).2.2.1 ∈ gt := gt_of (List.mem_of_getElem? (i := 197) (by decide +kernel)) rfl
theorem fl_X7_11 : jfl RX7 11 7 0 := ⟨_, _, _, clX7, by decide, Or.inl fw_X7_11⟩
theorem fp_X7_11 : jfp RX7 11 7 0 (.array (.object "ChangingStars$Star")) true := ⟨_, _, _, clX7, by decide, Or.inl fw_X7_11, rfl, by decide +kernel, fun _ => ⟨rfl, fw_X7_11⟩⟩
theorem fw_X7_73 : Cond.fieldLink RX7 73 (TX7 1).1 (TX7 1).2.1 (TX7 1).2.2.1 ∈ gt := gt_of (List.mem_of_getElem? (i := 198) (by decide +kernel)) rfl
theorem fl_X7_73 : jfl RX7 73 7 1 := ⟨_, _, _, clX7, by decide, Or.inl fw_X7_73⟩
theorem fp_X7_73 : jfp RX7 73 7 1 .int false := ⟨_, _, _, clX7, by decide, Or.inl fw_X7_73, rfl, by decide +kernel, fun z => by cases z⟩
theorem fw_X7_17 : Cond.fieldLink RX7 17 (TX7 2).1 (TX7 2).2.1 (TX7 2).2.2.1 ∈ gt := gt_of (List.mem_of_getElem? (i := 199) (by decide +kernel)) rfl
theorem fl_X7_17 : jfl RX7 17 7 2 := ⟨_, _, _, clX7, by decide, Or.inl fw_X7_17⟩
theorem fp_X7_17 : jfp RX7 17 7 2 (.array (.object "ChangingStars$Rule")) true := ⟨_, _, _, clX7, by decide, Or.inl fw_X7_17, rfl, by decide +kernel, fun _ => ⟨rfl, fw_X7_17⟩⟩
theorem fw_X7_222 : Cond.fieldLink RX7 222 (TX7 3).1 (TX7 3).2.1 (TX7 3).2.2.1 ∈ gt := gt_of (List.mem_of_getElem? (i := 200) (by decide +kernel)) rfl
theorem fl_X7_222 : jfl RX7 222 7 3 := ⟨_, _, _, clX7, by decide, Or.inl fw_X7_222⟩
theorem fp_X7_222 : jfp RX7 222 7 3 .int false := ⟨_, _, _, clX7, by decide, Or.inl fw_X7_222, rfl, by decide +kernel, fun z => by cases z⟩
theorem fw_X7_21 : Cond.fieldLink RX7 21 (TX7 4).1 (TX7 4).2.1 (TX7 4).2.2.1 ∈ gt := gt_of (List.mem_of_getElem? (i := 201) (by decide +kernel)) rfl
theorem fl_X7_21 : jfl RX7 21 7 4 := ⟨_, _, _, clX7, by decide, Or.inl fw_X7_21⟩
theorem fp_X7_21 : jfp RX7 21 7 4 (.array .int) true := ⟨_, _, _, clX7, by decide, Or.inl fw_X7_21, rfl, by decide +kernel, fun _ => ⟨rfl, fw_X7_21⟩⟩
theorem fw_X7_28 : Cond.fieldLink RX7 28 (TX7 5).1 (TX7 5).2.1 (TX7 5).2.2.1 ∈ gt := gt_of (List.mem_of_getElem? (i := 202) (by decide +kernel)) rfl
theorem fl_X7_28 : jfl RX7 28 7 5 := ⟨_, _, _, clX7, by decide, Or.inl fw_X7_28⟩
theorem fp_X7_28 : jfp RX7 28 7 5 (.object "ChangingStars$Curve") true := ⟨_, _, _, clX7, by decide, Or.inl fw_X7_28, rfl, by decide +kernel, fun _ => ⟨rfl, fw_X7_28⟩⟩
theorem fw_X7_35 : Cond.fieldLink RX7 35 (TX7 6).1 (TX7 6).2.1 (TX7 6).2.2.1 ∈ gt := gt_of (List.mem_of_getElem? (i := 203) (by decide +kernel)) rfl
theorem fl_X7_35 : jfl RX7 35 7 6 := ⟨_, _, _, clX7, by decide, Or.inl fw_X7_35⟩
theorem fp_X7_35 : jfp RX7 35 7 6 (.object "ChangingStars$BySize") true := ⟨_, _, _, clX7, by decide, Or.inl fw_X7_35, rfl, by decide +kernel, fun _ => ⟨rfl, fw_X7_35⟩⟩
theorem fw_X7_42 : Cond.fieldLink RX7 42 (TX7 7).1 (TX7 7).2.1 (TX7 7).2.2.1 ∈ gt := gt_of (List.mem_of_getElem? (i := 204) (by decide +kernel)) rfl
theorem fl_X7_42 : jfl RX7 42 7 7 := ⟨_, _, _, clX7, by decide, Or.inl fw_X7_42⟩
theorem fp_X7_42 : jfp RX7 42 7 7 (.object "ChangingStars$Fold") true := ⟨_, _, _, clX7, by decide, Or.inl fw_X7_42, rfl, by decide +kernel, fun _ => ⟨rfl, fw_X7_42⟩⟩
theorem fw_X7_49 : Cond.fieldLink RX7 49 (TX7 8).1 (TX7 8).2.1 (TX7 8).2.2.1 ∈ gt := gt_of (List.mem_of_getElem? (i := 205) (by decide +kernel)) rfl
theorem fl_X7_49 : jfl RX7 49 7 8 := ⟨_, _, _, clX7, by decide, Or.inl fw_X7_49⟩
theorem fp_X7_49 : jfp RX7 49 7 8 (.object "ChangingStars$LowTimes") true := ⟨_, _, _, clX7, by decide, Or.inl fw_X7_49, rfl, by decide +kernel, fun _ => ⟨rfl, fw_X7_49⟩⟩
theorem fw_X7_56 : Cond.fieldLink RX7 56 (TX7 9).1 (TX7 9).2.1 (TX7 9).2.2.1 ∈ gt := gt_of (List.mem_of_getElem? (i := 206) (by decide +kernel)) rfl
theorem fl_X7_56 : jfl RX7 56 7 9 := ⟨_, _, _, clX7, by decide, Or.inl fw_X7_56⟩
theorem fp_X7_56 : jfp RX7 56 7 9 (.object "ChangingStars$DipSearch") true := ⟨_, _, _, clX7, by decide, Or.inl fw_X7_56, rfl, by decide +kernel, fun _ => ⟨rfl, fw_X7_56⟩⟩
theorem fw_X7_60 : Cond.fieldLink RX7 60 (TX7 10).1 (TX7 10).2.1 (TX7 10).2.2.1 ∈ gt := gt_of (List.mem_of_getElem? (i := 207) (by decide +kernel)) rfl
theorem fl_X7_60 : jfl RX7 60 7 10 := ⟨_, _, _, clX7, by decide, Or.inl fw_X7_60⟩
theorem fp_X7_60 : jfp RX7 60 7 10 (.array .int) true := ⟨_, _, _, clX7, by decide, Or.inl fw_X7_60, rfl, by decide +kernel, fun _ => ⟨rfl, fw_X7_60⟩⟩
theorem fw_X7_63 : Cond.fieldLink RX7 63 (TX7 11).1 (TX7 11).2.1 (TX7 11).2.2.1 ∈ gt := gt_of (List.mem_of_getElem? (i := 208) (by decide +kernel)) rfl
theorem fl_X7_63 : jfl RX7 63 7 11 := ⟨_, _, _, clX7, by decide, Or.inl fw_X7_63⟩
theorem fp_X7_63 : jfp RX7 63 7 11 (.array .int) true := ⟨_, _, _, clX7, by decide, Or.inl fw_X7_63, rfl, by decide +kernel, fun _ => ⟨rfl, fw_X7_63⟩⟩
theorem fw_X7_244 : Cond.fieldLink RX7 244 (TX7 12).1 (TX7 12).2.1 (TX7 12).2.2.1 ∈ gt := gt_of (List.mem_of_getElem? (i := 209) (by decide +kernel)) rfl
theorem fl_X7_244 : jfl RX7 244 7 12 := ⟨_, _, _, clX7, by decide, Or.inl fw_X7_244⟩
theorem fp_X7_244 : jfp RX7 244 7 12 .long false := ⟨_, _, _, clX7, by decide, Or.inl fw_X7_244, rfl, by decide +kernel, fun z => by cases z⟩
theorem fw_X7_234 : Cond.fieldLink RX7 234 (TX7 13).1 (TX7 13).2.1 (TX7 13).2.2.1 ∈ gt := gt_of (List.mem_of_getElem? (i := 210) (by decide +kernel)) rfl
theorem fl_X7_234 : jfl RX7 234 7 13 := ⟨_, _, _, clX7, by decide, Or.inl fw_X7_234⟩
theorem fp_X7_234 : jfp RX7 234 7 13 .int false := ⟨_, _, _, clX7, by decide, Or.inl fw_X7_234, rfl, by decide +kernel, fun z => by cases z⟩
theorem fw_X7_231 : Cond.fieldLink RX7 231 (TX7 14).1 (TX7 14).2.1 (TX7 14).2.2.1 ∈ gt := gt_of (List.mem_of_getElem? (i := 211) (by decide +kernel)) rfl
theorem fl_X7_231 : jfl RX7 231 7 14 := ⟨_, _, _, clX7, by decide, Or.inl fw_X7_231⟩
theorem fp_X7_231 : jfp RX7 231 7 14 .int false := ⟨_, _, _, clX7, by decide, Or.inl fw_X7_231, rfl, by decide +kernel, fun z => by cases z⟩
theorem fw_X7_254 : Cond.fieldLink RX7 254 (TX7 15).1 (TX7 15).2.1 (TX7 15).2.2.1 ∈ gt := gt_of (List.mem_of_getElem? (i := 212) (by decide +kernel)) rfl
theorem fl_X7_254 : jfl RX7 254 7 15 := ⟨_, _, _, clX7, by decide, Or.inl fw_X7_254⟩
theorem fp_X7_254 : jfp RX7 254 7 15 .int false := ⟨_, _, _, clX7, by decide, Or.inl fw_X7_254, rfl, by decide +kernel, fun z => by cases z⟩
theorem fw_X7_66 : Cond.fieldLink RX7 66 (TX7 16).1 (TX7 16).2.1 (TX7 16).2.2.1 ∈ gt := gt_of (List.mem_of_getElem? (i := 213) (by decide +kernel)) rfl
theorem fl_X7_66 : jfl RX7 66 7 16 := ⟨_, _, _, clX7, by decide, Or.inl fw_X7_66⟩
theorem fp_X7_66 : jfp RX7 66 7 16 (.array .int) true := ⟨_, _, _, clX7, by decide, Or.inl fw_X7_66, rfl, by decide +kernel, fun _ => ⟨rfl, fw_X7_66⟩⟩
theorem fw_X6_19 : Cond.fieldLink RX6 19 (TX6 0).1 (TX6 0).2.1 (TX6 0).2.2.1 ∈ gt := gt_of (List.mem_of_getElem? (i := 264) (by decide +kernel)) rfl
theorem fl_X6_19 : jfl RX6 19 6 0 := ⟨_, _, _, clX6, by decide, Or.inl fw_X6_19⟩
theorem fp_X6_19 : jfp RX6 19 6 0 .int true := ⟨_, _, _, clX6, by decide, Or.inl fw_X6_19, rfl, by decide +kernel, fun _ => ⟨rfl, fw_X6_19⟩⟩
theorem fw_X7_91 : Cond.fieldLinkNest RX7 91 (TX6 0).1 (TX6 0).2.1 (TX6 0).2.2.1 "ChangingStars" ∈ nt := nt_of (List.mem_of_getElem? (i := 265) (by decide +kernel)) rfl
theorem fl_X7_91 : jfl RX7 91 6 0 := ⟨_, _, _, clX6, by decide, Or.inr ⟨_, fw_X7_91⟩⟩
theorem fw_X6_9 : Cond.fieldLink RX6 9 (TX6 1).1 (TX6 1).2.1 (TX6 1).2.2.1 ∈ gt := gt_of (List.mem_of_getElem? (i := 266) (by decide +kernel)) rfl
theorem fl_X6_9 : jfl RX6 9 6 1 := ⟨_, _, _, clX6, by decide, Or.inl fw_X6_9⟩
theorem fp_X6_9 : jfp RX6 9 6 1 (.array .int) true := ⟨_, _, _, clX6, by decide, Or.inl fw_X6_9, rfl, by decide +kernel, fun _ => ⟨rfl, fw_X6_9⟩⟩
theorem fw_X1_22 : Cond.fieldLinkNest RX1 22 (TX6 1).1 (TX6 1).2.1 (TX6 1).2.2.1 "ChangingStars" ∈ nt := nt_of (List.mem_of_getElem? (i := 267) (by decide +kernel)) rfl
theorem fl_X1_22 : jfl RX1 22 6 1 := ⟨_, _, _, clX6, by decide, Or.inr ⟨_, fw_X1_22⟩⟩
theorem fw_X7_112 : Cond.fieldLinkNest RX7 112 (TX6 1).1 (TX6 1).2.1 (TX6 1).2.2.1 "ChangingStars" ∈ nt := nt_of (List.mem_of_getElem? (i := 268) (by decide +kernel)) rfl
theorem fl_X7_112 : jfl RX7 112 6 1 := ⟨_, _, _, clX6, by decide, Or.inr ⟨_, fw_X7_112⟩⟩
theorem fw_X6_28 : Cond.fieldLink RX6 28 (TX6 2).1 (TX6 2).2.1 (TX6 2).2.2.1 ∈ gt := gt_of (List.mem_of_getElem? (i := 269) (by decide +kernel)) rfl
theorem fl_X6_28 : jfl RX6 28 6 2 := ⟨_, _, _, clX6, by decide, Or.inl fw_X6_28⟩
theorem fp_X6_28 : jfp RX6 28 6 2 .boolean false := ⟨_, _, _, clX6, by decide, Or.inl fw_X6_28, rfl, by decide +kernel, fun z => by cases z⟩
theorem fw_X7_100 : Cond.fieldLinkNest RX7 100 (TX6 2).1 (TX6 2).2.1 (TX6 2).2.2.1 "ChangingStars" ∈ nt := nt_of (List.mem_of_getElem? (i := 270) (by decide +kernel)) rfl
theorem fl_X7_100 : jfl RX7 100 6 2 := ⟨_, _, _, clX6, by decide, Or.inr ⟨_, fw_X7_100⟩⟩
theorem fp_X7_100 : jfp RX7 100 6 2 .boolean false := ⟨_, _, _, clX6, by decide, Or.inr ⟨_, fw_X7_100⟩, rfl, by decide +kernel, fun z => by cases z⟩
theorem fw_X6_15 : Cond.fieldLink RX6 15 (TX6 3).1 (TX6 3).2.1 (TX6 3).2.2.1 ∈ gt := gt_of (List.mem_of_getElem? (i := 271) (by decide +kernel)) rfl
theorem fl_X6_15 : jfl RX6 15 6 3 := ⟨_, _, _, clX6, by decide, Or.inl fw_X6_15⟩
theorem fp_X6_15 : jfp RX6 15 6 3 .int false := ⟨_, _, _, clX6, by decide, Or.inl fw_X6_15, rfl, by decide +kernel, fun z => by cases z⟩
theorem fw_X7_241 : Cond.fieldLinkNest RX7 241 (TX6 3).1 (TX6 3).2.1 (TX6 3).2.2.1 "ChangingStars" ∈ nt := nt_of (List.mem_of_getElem? (i := 272) (by decide +kernel)) rfl
theorem fl_X7_241 : jfl RX7 241 6 3 := ⟨_, _, _, clX6, by decide, Or.inr ⟨_, fw_X7_241⟩⟩
theorem fp_X7_241 : jfp RX7 241 6 3 .int false := ⟨_, _, _, clX6, by decide, Or.inr ⟨_, fw_X7_241⟩, rfl, by decide +kernel, fun z => by cases z⟩
theorem fw_X5_7 : Cond.fieldLink RX5 7 (TX5 0).1 (TX5 0).2.1 (TX5 0).2.2.1 ∈ gt := gt_of (List.mem_of_getElem? (i := 574) (by decide +kernel)) rfl
theorem fl_X5_7 : jfl RX5 7 5 0 := ⟨_, _, _, clX5, by decide, Or.inl fw_X5_7⟩
theorem fp_X5_7 : jfp RX5 7 5 0 .int true := ⟨_, _, _, clX5, by decide, Or.inl fw_X5_7, rfl, by decide +kernel, fun _ => ⟨rfl, fw_X5_7⟩⟩
theorem fw_X5_13 : Cond.fieldLink RX5 13 (TX5 1).1 (TX5 1).2.1 (TX5 1).2.2.1 ∈ gt := gt_of (List.mem_of_getElem? (i := 575) (by decide +kernel)) rfl
theorem fl_X5_13 : jfl RX5 13 5 1 := ⟨_, _, _, clX5, by decide, Or.inl fw_X5_13⟩
theorem fp_X5_13 : jfp RX5 13 5 1 .int true := ⟨_, _, _, clX5, by decide, Or.inl fw_X5_13, rfl, by decide +kernel, fun _ => ⟨rfl, fw_X5_13⟩⟩
theorem fw_X5_16 : Cond.fieldLink RX5 16 (TX5 2).1 (TX5 2).2.1 (TX5 2).2.2.1 ∈ gt := gt_of (List.mem_of_getElem? (i := 576) (by decide +kernel)) rfl
theorem fl_X5_16 : jfl RX5 16 5 2 := ⟨_, _, _, clX5, by decide, Or.inl fw_X5_16⟩
theorem fp_X5_16 : jfp RX5 16 5 2 .int true := ⟨_, _, _, clX5, by decide, Or.inl fw_X5_16, rfl, by decide +kernel, fun _ => ⟨rfl, fw_X5_16⟩⟩
theorem fw_X5_19 : Cond.fieldLink RX5 19 (TX5 3).1 (TX5 3).2.1 (TX5 3).2.2.1 ∈ gt := gt_of (List.mem_of_getElem? (i := 577) (by decide +kernel)) rfl
theorem fl_X5_19 : jfl RX5 19 5 3 := ⟨_, _, _, clX5, by decide, Or.inl fw_X5_19⟩
theorem fp_X5_19 : jfp RX5 19 5 3 .int true := ⟨_, _, _, clX5, by decide, Or.inl fw_X5_19, rfl, by decide +kernel, fun _ => ⟨rfl, fw_X5_19⟩⟩
theorem fw_X7_291 : Cond.fieldLinkNest RX7 291 (TX5 3).1 (TX5 3).2.1 (TX5 3).2.2.1 "ChangingStars" ∈ nt := nt_of (List.mem_of_getElem? (i := 578) (by decide +kernel)) rfl
theorem fl_X7_291 : jfl RX7 291 5 3 := ⟨_, _, _, clX5, by decide, Or.inr ⟨_, fw_X7_291⟩⟩
theorem fw_X8_66 : Cond.fieldLink RX8 66 (TX8 0).1 (TX8 0).2.1 (TX8 0).2.2.1 ∈ gt := gt_of (List.mem_of_getElem? (i := 649) (by decide +kernel)) rfl
theorem fl_X8_66 : jfl RX8 66 8 0 := ⟨_, _, _, clX8, by decide, Or.inl fw_X8_66⟩
theorem fp_X8_66 : jfp RX8 66 8 0 .int false := ⟨_, _, _, clX8, by decide, Or.inl fw_X8_66, rfl, by decide +kernel, fun z => by cases z⟩
theorem fw_X8_7 : Cond.fieldLink RX8 7 (TX8 1).1 (TX8 1).2.1 (TX8 1).2.2.1 ∈ gt := gt_of (List.mem_of_getElem? (i := 650) (by decide +kernel)) rfl
theorem fl_X8_7 : jfl RX8 7 8 1 := ⟨_, _, _, clX8, by decide, Or.inl fw_X8_7⟩
theorem fp_X8_7 : jfp RX8 7 8 1 (.array .int) true := ⟨_, _, _, clX8, by decide, Or.inl fw_X8_7, rfl, by decide +kernel, fun _ => ⟨rfl, fw_X8_7⟩⟩
theorem fw_X8_69 : Cond.fieldLink RX8 69 (TX8 2).1 (TX8 2).2.1 (TX8 2).2.2.1 ∈ gt := gt_of (List.mem_of_getElem? (i := 651) (by decide +kernel)) rfl
theorem fl_X8_69 : jfl RX8 69 8 2 := ⟨_, _, _, clX8, by decide, Or.inl fw_X8_69⟩
theorem fp_X8_69 : jfp RX8 69 8 2 .long false := ⟨_, _, _, clX8, by decide, Or.inl fw_X8_69, rfl, by decide +kernel, fun z => by cases z⟩
theorem fw_X8_73 : Cond.fieldLink RX8 73 (TX8 3).1 (TX8 3).2.1 (TX8 3).2.2.1 ∈ gt := gt_of (List.mem_of_getElem? (i := 652) (by decide +kernel)) rfl
theorem fl_X8_73 : jfl RX8 73 8 3 := ⟨_, _, _, clX8, by decide, Or.inl fw_X8_73⟩
theorem fp_X8_73 : jfp RX8 73 8 3 .int false := ⟨_, _, _, clX8, by decide, Or.inl fw_X8_73, rfl, by decide +kernel, fun z => by cases z⟩
theorem fw_X8_13 : Cond.fieldLink RX8 13 (TX8 4).1 (TX8 4).2.1 (TX8 4).2.2.1 ∈ gt := gt_of (List.mem_of_getElem? (i := 653) (by decide +kernel)) rfl
theorem fl_X8_13 : jfl RX8 13 8 4 := ⟨_, _, _, clX8, by decide, Or.inl fw_X8_13⟩
theorem fp_X8_13 : jfp RX8 13 8 4 (.array .int) true := ⟨_, _, _, clX8, by decide, Or.inl fw_X8_13, rfl, by decide +kernel, fun _ => ⟨rfl, fw_X8_13⟩⟩
theorem fw_X8_16 : Cond.fieldLink RX8 16 (TX8 5).1 (TX8 5).2.1 (TX8 5).2.2.1 ∈ gt := gt_of (List.mem_of_getElem? (i := 654) (by decide +kernel)) rfl
theorem fl_X8_16 : jfl RX8 16 8 5 := ⟨_, _, _, clX8, by decide, Or.inl fw_X8_16⟩
theorem fp_X8_16 : jfp RX8 16 8 5 (.array .boolean) true := ⟨_, _, _, clX8, by decide, Or.inl fw_X8_16, rfl, by decide +kernel, fun _ => ⟨rfl, fw_X8_16⟩⟩
theorem fw_X8_20 : Cond.fieldLink RX8 20 (TX8 6).1 (TX8 6).2.1 (TX8 6).2.2.1 ∈ gt := gt_of (List.mem_of_getElem? (i := 655) (by decide +kernel)) rfl
theorem fl_X8_20 : jfl RX8 20 8 6 := ⟨_, _, _, clX8, by decide, Or.inl fw_X8_20⟩
theorem fp_X8_20 : jfp RX8 20 8 6 (.array .int) true := ⟨_, _, _, clX8, by decide, Or.inl fw_X8_20, rfl, by decide +kernel, fun _ => ⟨rfl, fw_X8_20⟩⟩
theorem fw_X8_23 : Cond.fieldLink RX8 23 (TX8 7).1 (TX8 7).2.1 (TX8 7).2.2.1 ∈ gt := gt_of (List.mem_of_getElem? (i := 656) (by decide +kernel)) rfl
theorem fl_X8_23 : jfl RX8 23 8 7 := ⟨_, _, _, clX8, by decide, Or.inl fw_X8_23⟩
theorem fp_X8_23 : jfp RX8 23 8 7 (.array .int) true := ⟨_, _, _, clX8, by decide, Or.inl fw_X8_23, rfl, by decide +kernel, fun _ => ⟨rfl, fw_X8_23⟩⟩
theorem fw_X8_26 : Cond.fieldLink RX8 26 (TX8 8).1 (TX8 8).2.1 (TX8 8).2.2.1 ∈ gt := gt_of (List.mem_of_getElem? (i := 657) (by decide +kernel)) rfl
theorem fl_X8_26 : jfl RX8 26 8 8 := ⟨_, _, _, clX8, by decide, Or.inl fw_X8_26⟩
theorem fp_X8_26 : jfp RX8 26 8 8 (.array .int) true := ⟨_, _, _, clX8, by decide, Or.inl fw_X8_26, rfl, by decide +kernel, fun _ => ⟨rfl, fw_X8_26⟩⟩
theorem fw_X8_29 : Cond.fieldLink RX8 29 (TX8 9).1 (TX8 9).2.1 (TX8 9).2.2.1 ∈ gt := gt_of (List.mem_of_getElem? (i := 658) (by decide +kernel)) rfl
theorem fl_X8_29 : jfl RX8 29 8 9 := ⟨_, _, _, clX8, by decide, Or.inl fw_X8_29⟩
theorem fp_X8_29 : jfp RX8 29 8 9 (.array .int) true := ⟨_, _, _, clX8, by decide, Or.inl fw_X8_29, rfl, by decide +kernel, fun _ => ⟨rfl, fw_X8_29⟩⟩
theorem fw_X8_32 : Cond.fieldLink RX8 32 (TX8 10).1 (TX8 10).2.1 (TX8 10).2.2.1 ∈ gt := gt_of (List.mem_of_getElem? (i := 659) (by decide +kernel)) rfl
theorem fl_X8_32 : jfl RX8 32 8 10 := ⟨_, _, _, clX8, by decide, Or.inl fw_X8_32⟩
theorem fp_X8_32 : jfp RX8 32 8 10 (.array .int) true := ⟨_, _, _, clX8, by decide, Or.inl fw_X8_32, rfl, by decide +kernel, fun _ => ⟨rfl, fw_X8_32⟩⟩
theorem fw_X8_35 : Cond.fieldLink RX8 35 (TX8 11).1 (TX8 11).2.1 (TX8 11).2.2.1 ∈ gt := gt_of (List.mem_of_getElem? (i := 660) (by decide +kernel)) rfl
theorem fl_X8_35 : jfl RX8 35 8 11 := ⟨_, _, _, clX8, by decide, Or.inl fw_X8_35⟩
theorem fp_X8_35 : jfp RX8 35 8 11 (.array .int) true := ⟨_, _, _, clX8, by decide, Or.inl fw_X8_35, rfl, by decide +kernel, fun _ => ⟨rfl, fw_X8_35⟩⟩
theorem fw_X8_143 : Cond.fieldLink RX8 143 (TX8 12).1 (TX8 12).2.1 (TX8 12).2.2.1 ∈ gt := gt_of (List.mem_of_getElem? (i := 661) (by decide +kernel)) rfl
theorem fl_X8_143 : jfl RX8 143 8 12 := ⟨_, _, _, clX8, by decide, Or.inl fw_X8_143⟩
theorem fp_X8_143 : jfp RX8 143 8 12 .int false := ⟨_, _, _, clX8, by decide, Or.inl fw_X8_143, rfl, by decide +kernel, fun z => by cases z⟩
theorem fw_X8_146 : Cond.fieldLink RX8 146 (TX8 13).1 (TX8 13).2.1 (TX8 13).2.2.1 ∈ gt := gt_of (List.mem_of_getElem? (i := 662) (by decide +kernel)) rfl
theorem fl_X8_146 : jfl RX8 146 8 13 := ⟨_, _, _, clX8, by decide, Or.inl fw_X8_146⟩
theorem fp_X8_146 : jfp RX8 146 8 13 .long false := ⟨_, _, _, clX8, by decide, Or.inl fw_X8_146, rfl, by decide +kernel, fun z => by cases z⟩
theorem fw_X8_38 : Cond.fieldLink RX8 38 (TX8 14).1 (TX8 14).2.1 (TX8 14).2.2.1 ∈ gt := gt_of (List.mem_of_getElem? (i := 663) (by decide +kernel)) rfl
theorem fl_X8_38 : jfl RX8 38 8 14 := ⟨_, _, _, clX8, by decide, Or.inl fw_X8_38⟩
theorem fp_X8_38 : jfp RX8 38 8 14 .int false := ⟨_, _, _, clX8, by decide, Or.inl fw_X8_38, rfl, by decide +kernel, fun z => by cases z⟩
theorem fw_X8_42 : Cond.fieldLink RX8 42 (TX8 15).1 (TX8 15).2.1 (TX8 15).2.2.1 ∈ gt := gt_of (List.mem_of_getElem? (i := 664) (by decide +kernel)) rfl
theorem fl_X8_42 : jfl RX8 42 8 15 := ⟨_, _, _, clX8, by decide, Or.inl fw_X8_42⟩
theorem fp_X8_42 : jfp RX8 42 8 15 .int false := ⟨_, _, _, clX8, by decide, Or.inl fw_X8_42, rfl, by decide +kernel, fun z => by cases z⟩
theorem fw_X8_45 : Cond.fieldLink RX8 45 (TX8 16).1 (TX8 16).2.1 (TX8 16).2.2.1 ∈ gt := gt_of (List.mem_of_getElem? (i := 665) (by decide +kernel)) rfl
theorem fl_X8_45 : jfl RX8 45 8 16 := ⟨_, _, _, clX8, by decide, Or.inl fw_X8_45⟩
theorem fp_X8_45 : jfp RX8 45 8 16 .int false := ⟨_, _, _, clX8, by decide, Or.inl fw_X8_45, rfl, by decide +kernel, fun z => by cases z⟩
theorem fw_X8_48 : Cond.fieldLink RX8 48 (TX8 17).1 (TX8 17).2.1 (TX8 17).2.2.1 ∈ gt := gt_of (List.mem_of_getElem? (i := 666) (by decide +kernel)) rfl
theorem fl_X8_48 : jfl RX8 48 8 17 := ⟨_, _, _, clX8, by decide, Or.inl fw_X8_48⟩
theorem fp_X8_48 : jfp RX8 48 8 17 (.array .int) true := ⟨_, _, _, clX8, by decide, Or.inl fw_X8_48, rfl, by decide +kernel, fun _ => ⟨rfl, fw_X8_48⟩⟩
theorem fw_X8_172 : Cond.fieldLink RX8 172 (TX8 18).1 (TX8 18).2.1 (TX8 18).2.2.1 ∈ gt := gt_of (List.mem_of_getElem? (i := 667) (by decide +kernel)) rfl
theorem fl_X8_172 : jfl RX8 172 8 18 := ⟨_, _, _, clX8, by decide, Or.inl fw_X8_172⟩
theorem fp_X8_172 : jfp RX8 172 8 18 .int false := ⟨_, _, _, clX8, by decide, Or.inl fw_X8_172, rfl, by decide +kernel, fun z => by cases z⟩
theorem fw_X8_51 : Cond.fieldLink RX8 51 (TX8 19).1 (TX8 19).2.1 (TX8 19).2.2.1 ∈ gt := gt_of (List.mem_of_getElem? (i := 668) (by decide +kernel)) rfl
theorem fl_X8_51 : jfl RX8 51 8 19 := ⟨_, _, _, clX8, by decide, Or.inl fw_X8_51⟩
theorem fp_X8_51 : jfp RX8 51 8 19 (.array .int) true := ⟨_, _, _, clX8, by decide, Or.inl fw_X8_51, rfl, by decide +kernel, fun _ => ⟨rfl, fw_X8_51⟩⟩
theorem fw_X8_54 : Cond.fieldLink RX8 54 (TX8 20).1 (TX8 20).2.1 (TX8 20).2.2.1 ∈ gt := gt_of (List.mem_of_getElem? (i := 669) (by decide +kernel)) rfl
theorem fl_X8_54 : jfl RX8 54 8 20 := ⟨_, _, _, clX8, by decide, Or.inl fw_X8_54⟩
theorem fp_X8_54 : jfp RX8 54 8 20 (.array .int) true := ⟨_, _, _, clX8, by decide, Or.inl fw_X8_54, rfl, by decide +kernel, fun _ => ⟨rfl, fw_X8_54⟩⟩
theorem fw_X8_57 : Cond.fieldLink RX8 57 (TX8 21).1 (TX8 21).2.1 (TX8 21).2.2.1 ∈ gt := gt_of (List.mem_of_getElem? (i := 670) (by decide +kernel)) rfl
theorem fl_X8_57 : jfl RX8 57 8 21 := ⟨_, _, _, clX8, by decide, Or.inl fw_X8_57⟩
theorem fp_X8_57 : jfp RX8 57 8 21 (.array .int) true := ⟨_, _, _, clX8, by decide, Or.inl fw_X8_57, rfl, by decide +kernel, fun _ => ⟨rfl, fw_X8_57⟩⟩
theorem fw_X8_60 : Cond.fieldLink RX8 60 (TX8 22).1 (TX8 22).2.1 (TX8 22).2.2.1 ∈ gt := gt_of (List.mem_of_getElem? (i := 671) (by decide +kernel)) rfl
theorem fl_X8_60 : jfl RX8 60 8 22 := ⟨_, _, _, clX8, by decide, Or.inl fw_X8_60⟩
theorem fp_X8_60 : jfp RX8 60 8 22 (.array .int) true := ⟨_, _, _, clX8, by decide, Or.inl fw_X8_60, rfl, by decide +kernel, fun _ => ⟨rfl, fw_X8_60⟩⟩
theorem fw_X8_63 : Cond.fieldLink RX8 63 (TX8 23).1 (TX8 23).2.1 (TX8 23).2.2.1 ∈ gt := gt_of (List.mem_of_getElem? (i := 672) (by decide +kernel)) rfl
theorem fl_X8_63 : jfl RX8 63 8 23 := ⟨_, _, _, clX8, by decide, Or.inl fw_X8_63⟩
theorem fp_X8_63 : jfp RX8 63 8 23 (.array .int) true := ⟨_, _, _, clX8, by decide, Or.inl fw_X8_63, rfl, by decide +kernel, fun _ => ⟨rfl, fw_X8_63⟩⟩
theorem fw_X8_181 : Cond.fieldLink RX8 181 (TX8 24).1 (TX8 24).2.1 (TX8 24).2.2.1 ∈ gt := gt_of (List.mem_of_getElem? (i := 673) (by decide +kernel)) rfl
theorem fl_X8_181 : jfl RX8 181 8 24 := ⟨_, _, _, clX8, by decide, Or.inl fw_X8_181⟩
theorem fp_X8_181 : jfp RX8 181 8 24 .int false := ⟨_, _, _, clX8, by decide, Or.inl fw_X8_181, rfl, by decide +kernel, fun z => by cases z⟩
theorem fw_X8_184 : Cond.fieldLink RX8 184 (TX8 25).1 (TX8 25).2.1 (TX8 25).2.2.1 ∈ gt := gt_of (List.mem_of_getElem? (i := 674) (by decide +kernel)) rfl
theorem fl_X8_184 : jfl RX8 184 8 25 := ⟨_, _, _, clX8, by decide, Or.inl fw_X8_184⟩
theorem fp_X8_184 : jfp RX8 184 8 25 .int false := ⟨_, _, _, clX8, by decide, Or.inl fw_X8_184, rfl, by decide +kernel, fun z => by cases z⟩
theorem wc_yX7_init : Cond.code yX7_init mX7_init.2.1 mX7_init.2.2.1 mX7_init.2.2.2 ∈ gt := gt_of (List.mem_of_getElem? (i := 78) (by decide +kernel)) rfl
theorem wi_X7 : Cond.initialized RX7 ∈ gt := gt_of (List.mem_of_getElem? (i := 62) (by decide +kernel)) rfl
theorem mf_yX7_init : jmf yX7_init mX7_init 0 := ⟨wc_yX7_init, wi_X7, by decide, by decide, by decide +kernel⟩
theorem mI_yX7_init : Cond.instanceMethod yX7_init ∈ gt := gt_of (List.mem_of_getElem? (i := 77) (by decide +kernel)) rfl
theorem wc_yX1_init : Cond.code yX1_init mX1_init.2.1 mX1_init.2.2.1 mX1_init.2.2.2 ∈ gt := gt_of (List.mem_of_getElem? (i := 90) (by decide +kernel)) rfl
theorem wi_X1 : Cond.initialized RX1 ∈ gt := gt_of (List.mem_of_getElem? (i := 63) (by decide +kernel)) rfl
theorem mf_yX1_init : jmf yX1_init mX1_init 0 := ⟨wc_yX1_init, wi_X1, by decide, by decide, by decide +kernel⟩
theorem mI_yX1_init : Cond.instanceMethod yX1_init ∈ gt := gt_of (List.mem_of_getElem? (i := 89) (by decide +kernel)) rfl
theorem wc_yX0_init : Cond.code yX0_init mX0_init.2.1 mX0_init.2.2.1 mX0_init.2.2.2 ∈ gt := gt_of (List.mem_of_getElem? (i := 119) (by decide +kernel)) rfl
theorem wi_X0 : Cond.initialized RX0 ∈ gt := gt_of (List.mem_of_getElem? (i := 64) (by decide +kernel)) rfl
theorem mf_yX0_init : jmf yX0_init mX0_init 0 := ⟨wc_yX0_init, wi_X0, by decide, by decide, by decide +kernel⟩
theorem mI_yX0_init : Cond.instanceMethod yX0_init ∈ gt := gt_of (List.mem_of_getElem? (i := 118) (by decide +kernel)) rfl
theorem wc_yX3_init : Cond.code yX3_init mX3_init.2.1 mX3_init.2.2.1 mX3_init.2.2.2 ∈ gt := gt_of (List.mem_of_getElem? (i := 132) (by decide +kernel)) rfl
theorem wi_X3 : Cond.initialized RX3 ∈ gt := gt_of (List.mem_of_getElem? (i := 65) (by decide +kernel)) rfl
theorem mf_yX3_init : jmf yX3_init mX3_init 0 := ⟨wc_yX3_init, wi_X3, by decide, by decide, by decide +kernel⟩
theorem mI_yX3_init : Cond.instanceMethod yX3_init ∈ gt := gt_of (List.mem_of_getElem? (i := 131) (by decide +kernel)) rfl
theorem wc_yX4_init : Cond.code yX4_init mX4_init.2.1 mX4_init.2.2.1 mX4_init.2.2.2 ∈ gt := gt_of (List.mem_of_getElem? (i := 149) (by decide +kernel)) rfl
theorem wi_X4 : Cond.initialized RX4 ∈ gt := gt_of (List.mem_of_getElem? (i := 66) (by decide +kernel)) rfl
theorem mf_yX4_init : jmf yX4_init mX4_init 0 := ⟨wc_yX4_init, wi_X4, by decide, by decide, by decide +kernel⟩
theorem mI_yX4_init : Cond.instanceMethod yX4_init ∈ gt := gt_of (List.mem_of_getElem? (i := 148) (by decide +kernel)) rfl
theorem wc_yX2_init : Cond.code yX2_init mX2_init.2.1 mX2_init.2.2.1 mX2_init.2.2.2 ∈ gt := gt_of (List.mem_of_getElem? (i := 164) (by decide +kernel)) rfl
theorem wi_X2 : Cond.initialized RX2 ∈ gt := gt_of (List.mem_of_getElem? (i := 67) (by decide +kernel)) rfl
theorem mf_yX2_init : jmf yX2_init mX2_init 0 := ⟨wc_yX2_init, wi_X2, by decide, by decide, by decide +kernel⟩
theorem mI_yX2_init : Cond.instanceMethod yX2_init ∈ gt := gt_of (List.mem_of_getElem? (i := 163) (by decide +kernel)) rfl
theorem wc_yX7_star : Cond.code yX7_star mX7_star.2.1 mX7_star.2.2.1 mX7_star.2.2.2 ∈ gt := gt_of (List.mem_of_getElem? (i := 252) (by decide +kernel)) rfl
theorem mf_yX7_star : jmf yX7_star mX7_star 1 := ⟨wc_yX7_star, wi_X7, by decide, by decide, by decide +kernel⟩
theorem mI_yX7_star : Cond.instanceMethod yX7_star ∈ gt := gt_of (List.mem_of_getElem? (i := 250) (by decide +kernel)) rfl
theorem mi_yX7_star : jmi yX7_star := ⟨mI_yX7_star, gt_of (List.mem_of_getElem? (i := 251) (by decide +kernel)) rfl⟩
theorem wc_yX7_isKind : Cond.code yX7_isKind mX7_isKind.2.1 mX7_isKind.2.2.1 mX7_isKind.2.2.2 ∈ gt := gt_of (List.mem_of_getElem? (i := 255) (by decide +kernel)) rfl
theorem mf_yX7_isKind : jmf yX7_isKind mX7_isKind 1 := ⟨wc_yX7_isKind, wi_X7, by decide, by decide, by decide +kernel⟩
theorem mS_yX7_isKind : Cond.static yX7_isKind ∈ gt := gt_of (List.mem_of_getElem? (i := 254) (by decide +kernel)) rfl
theorem wc_yX6_init : Cond.code yX6_init mX6_init.2.1 mX6_init.2.2.1 mX6_init.2.2.2 ∈ gt := gt_of (List.mem_of_getElem? (i := 259) (by decide +kernel)) rfl
theorem wi_X6 : Cond.initialized RX6 ∈ gt := gt_of (List.mem_of_getElem? (i := 69) (by decide +kernel)) rfl
theorem mf_yX6_init : jmf yX6_init mX6_init 1 := ⟨wc_yX6_init, wi_X6, by decide, by decide, by decide +kernel⟩
theorem mI_yX6_init : Cond.instanceMethod yX6_init ∈ gt := gt_of (List.mem_of_getElem? (i := 258) (by decide +kernel)) rfl
theorem wc_yJ7_fill_53178 : Cond.code yJ7_fill_53178 mJ7_fill_53178.2.1 mJ7_fill_53178.2.2.1 mJ7_fill_53178.2.2.2 ∈ gt := gt_of (List.mem_of_getElem? (i := 263) (by decide +kernel)) rfl
theorem wi_J7 : Cond.initialized RJ7 ∈ gt := gt_of (List.mem_of_getElem? (i := 70) (by decide +kernel)) rfl
theorem mf_yJ7_fill_53178 : jmf yJ7_fill_53178 mJ7_fill_53178 2 := ⟨wc_yJ7_fill_53178, wi_J7, by decide, by decide, by decide +kernel⟩
theorem mS_yJ7_fill_53178 : Cond.static yJ7_fill_53178 ∈ gt := gt_of (List.mem_of_getElem? (i := 262) (by decide +kernel)) rfl
theorem wc_yX7_is : Cond.code yX7_is mX7_is.2.1 mX7_is.2.2.1 mX7_is.2.2.2 ∈ gt := gt_of (List.mem_of_getElem? (i := 285) (by decide +kernel)) rfl
theorem mf_yX7_is : jmf yX7_is mX7_is 2 := ⟨wc_yX7_is, wi_X7, by decide, by decide, by decide +kernel⟩
theorem mI_yX7_is : Cond.instanceMethod yX7_is ∈ gt := gt_of (List.mem_of_getElem? (i := 283) (by decide +kernel)) rfl
theorem mi_yX7_is : jmi yX7_is := ⟨mI_yX7_is, gt_of (List.mem_of_getElem? (i := 284) (by decide +kernel)) rfl⟩
theorem wc_yX7_starNumbered : Cond.code yX7_starNumbered mX7_starNumbered.2.1 mX7_starNumbered.2.2.1 mX7_starNumbered.2.2.2 ∈ gt := gt_of (List.mem_of_getElem? (i := 289) (by decide +kernel)) rfl
theorem mf_yX7_starNumbered : jmf yX7_starNumbered mX7_starNumbered 1 := ⟨wc_yX7_starNumbered, wi_X7, by decide, by decide, by decide +kernel⟩
theorem mI_yX7_starNumbered : Cond.instanceMethod yX7_starNumbered ∈ gt := gt_of (List.mem_of_getElem? (i := 288) (by decide +kernel)) rfl
theorem mi_yX7_starNumbered : jmi yX7_starNumbered := ⟨mI_yX7_starNumbered, gt_of (List.mem_of_getElem? (i := 0) (by decide +kernel)) rfl⟩
theorem wc_yX6_isOfKind : Cond.code yX6_isOfKind mX6_isOfKind.2.1 mX6_isOfKind.2.2.1 mX6_isOfKind.2.2.2 ∈ gt := gt_of (List.mem_of_getElem? (i := 293) (by decide +kernel)) rfl
theorem mf_yX6_isOfKind : jmf yX6_isOfKind mX6_isOfKind 1 := ⟨wc_yX6_isOfKind, wi_X6, by decide, by decide, by decide +kernel⟩
theorem mI_yX6_isOfKind : Cond.instanceMethod yX6_isOfKind ∈ gt := gt_of (List.mem_of_getElem? (i := 292) (by decide +kernel)) rfl
theorem mi_yX6_isOfKind : jmi yX6_isOfKind := ⟨mI_yX6_isOfKind, gt_of (List.mem_of_getElem? (i := 1) (by decide +kernel)) rfl⟩
theorem wc_yX7_mark : Cond.code yX7_mark mX7_mark.2.1 mX7_mark.2.2.1 mX7_mark.2.2.2 ∈ gt := gt_of (List.mem_of_getElem? (i := 297) (by decide +kernel)) rfl
theorem mf_yX7_mark : jmf yX7_mark mX7_mark 2 := ⟨wc_yX7_mark, wi_X7, by decide, by decide, by decide +kernel⟩
theorem mI_yX7_mark : Cond.instanceMethod yX7_mark ∈ gt := gt_of (List.mem_of_getElem? (i := 295) (by decide +kernel)) rfl
theorem mi_yX7_mark : jmi yX7_mark := ⟨mI_yX7_mark, gt_of (List.mem_of_getElem? (i := 296) (by decide +kernel)) rfl⟩
theorem wc_yX7_found : Cond.code yX7_found mX7_found.2.1 mX7_found.2.2.1 mX7_found.2.2.2 ∈ gt := gt_of (List.mem_of_getElem? (i := 301) (by decide +kernel)) rfl
theorem mf_yX7_found : jmf yX7_found mX7_found 1 := ⟨wc_yX7_found, wi_X7, by decide, by decide, by decide +kernel⟩
theorem mI_yX7_found : Cond.instanceMethod yX7_found ∈ gt := gt_of (List.mem_of_getElem? (i := 300) (by decide +kernel)) rfl
theorem mi_yX7_found : jmi yX7_found := ⟨mI_yX7_found, gt_of (List.mem_of_getElem? (i := 2) (by decide +kernel)) rfl⟩
theorem wc_yX7_gatherRow : Cond.code yX7_gatherRow mX7_gatherRow.2.1 mX7_gatherRow.2.2.1 mX7_gatherRow.2.2.2 ∈ gt := gt_of (List.mem_of_getElem? (i := 305) (by decide +kernel)) rfl
theorem mf_yX7_gatherRow : jmf yX7_gatherRow mX7_gatherRow 1 := ⟨wc_yX7_gatherRow, wi_X7, by decide, by decide, by decide +kernel⟩
theorem mI_yX7_gatherRow : Cond.instanceMethod yX7_gatherRow ∈ gt := gt_of (List.mem_of_getElem? (i := 304) (by decide +kernel)) rfl
theorem mi_yX7_gatherRow : jmi yX7_gatherRow := ⟨mI_yX7_gatherRow, gt_of (List.mem_of_getElem? (i := 3) (by decide +kernel)) rfl⟩
theorem wc_yX7_lookAtRow : Cond.code yX7_lookAtRow mX7_lookAtRow.2.1 mX7_lookAtRow.2.2.1 mX7_lookAtRow.2.2.2 ∈ gt := gt_of (List.mem_of_getElem? (i := 309) (by decide +kernel)) rfl
theorem mf_yX7_lookAtRow : jmf yX7_lookAtRow mX7_lookAtRow 1 := ⟨wc_yX7_lookAtRow, wi_X7, by decide, by decide, by decide +kernel⟩
theorem mI_yX7_lookAtRow : Cond.instanceMethod yX7_lookAtRow ∈ gt := gt_of (List.mem_of_getElem? (i := 308) (by decide +kernel)) rfl
theorem mi_yX7_lookAtRow : jmi yX7_lookAtRow := ⟨mI_yX7_lookAtRow, gt_of (List.mem_of_getElem? (i := 4) (by decide +kernel)) rfl⟩
theorem wc_yX1_gather : Cond.code yX1_gather mX1_gather.2.1 mX1_gather.2.2.1 mX1_gather.2.2.2 ∈ gt := gt_of (List.mem_of_getElem? (i := 313) (by decide +kernel)) rfl
theorem mf_yX1_gather : jmf yX1_gather mX1_gather 2 := ⟨wc_yX1_gather, wi_X1, by decide, by decide, by decide +kernel⟩
theorem mI_yX1_gather : Cond.instanceMethod yX1_gather ∈ gt := gt_of (List.mem_of_getElem? (i := 312) (by decide +kernel)) rfl
theorem mi_yX1_gather : jmi yX1_gather := ⟨mI_yX1_gather, gt_of (List.mem_of_getElem? (i := 5) (by decide +kernel)) rfl⟩
theorem wc_yX7_markOfCurve : Cond.code yX7_markOfCurve mX7_markOfCurve.2.1 mX7_markOfCurve.2.2.1 mX7_markOfCurve.2.2.2 ∈ gt := gt_of (List.mem_of_getElem? (i := 317) (by decide +kernel)) rfl
theorem mf_yX7_markOfCurve : jmf yX7_markOfCurve mX7_markOfCurve 1 := ⟨wc_yX7_markOfCurve, wi_X7, by decide, by decide, by decide +kernel⟩
theorem mI_yX7_markOfCurve : Cond.instanceMethod yX7_markOfCurve ∈ gt := gt_of (List.mem_of_getElem? (i := 316) (by decide +kernel)) rfl
theorem mi_yX7_markOfCurve : jmi yX7_markOfCurve := ⟨mI_yX7_markOfCurve, gt_of (List.mem_of_getElem? (i := 6) (by decide +kernel)) rfl⟩
theorem wc_yX7_measureCurve : Cond.code yX7_measureCurve mX7_measureCurve.2.1 mX7_measureCurve.2.2.1 mX7_measureCurve.2.2.2 ∈ gt := gt_of (List.mem_of_getElem? (i := 321) (by decide +kernel)) rfl
theorem mf_yX7_measureCurve : jmf yX7_measureCurve mX7_measureCurve 0 := ⟨wc_yX7_measureCurve, wi_X7, by decide, by decide, by decide +kernel⟩
theorem mI_yX7_measureCurve : Cond.instanceMethod yX7_measureCurve ∈ gt := gt_of (List.mem_of_getElem? (i := 320) (by decide +kernel)) rfl
theorem mi_yX7_measureCurve : jmi yX7_measureCurve := ⟨mI_yX7_measureCurve, gt_of (List.mem_of_getElem? (i := 7) (by decide +kernel)) rfl⟩
theorem wc_yX7_levelOfCurve : Cond.code yX7_levelOfCurve mX7_levelOfCurve.2.1 mX7_levelOfCurve.2.2.1 mX7_levelOfCurve.2.2.2 ∈ gt := gt_of (List.mem_of_getElem? (i := 325) (by decide +kernel)) rfl
theorem mf_yX7_levelOfCurve : jmf yX7_levelOfCurve mX7_levelOfCurve 0 := ⟨wc_yX7_levelOfCurve, wi_X7, by decide, by decide, by decide +kernel⟩
theorem mI_yX7_levelOfCurve : Cond.instanceMethod yX7_levelOfCurve ∈ gt := gt_of (List.mem_of_getElem? (i := 324) (by decide +kernel)) rfl
theorem mi_yX7_levelOfCurve : jmi yX7_levelOfCurve := ⟨mI_yX7_levelOfCurve, gt_of (List.mem_of_getElem? (i := 8) (by decide +kernel)) rfl⟩
theorem wc_yX0_clear : Cond.code yX0_clear mX0_clear.2.1 mX0_clear.2.2.1 mX0_clear.2.2.2 ∈ gt := gt_of (List.mem_of_getElem? (i := 329) (by decide +kernel)) rfl
theorem mf_yX0_clear : jmf yX0_clear mX0_clear 0 := ⟨wc_yX0_clear, wi_X0, by decide, by decide, by decide +kernel⟩
theorem mI_yX0_clear : Cond.instanceMethod yX0_clear ∈ gt := gt_of (List.mem_of_getElem? (i := 328) (by decide +kernel)) rfl
theorem mi_yX0_clear : jmi yX0_clear := ⟨mI_yX0_clear, gt_of (List.mem_of_getElem? (i := 9) (by decide +kernel)) rfl⟩
theorem wc_yX0_put : Cond.code yX0_put mX0_put.2.1 mX0_put.2.2.1 mX0_put.2.2.2 ∈ gt := gt_of (List.mem_of_getElem? (i := 333) (by decide +kernel)) rfl
theorem mf_yX0_put : jmf yX0_put mX0_put 1 := ⟨wc_yX0_put, wi_X0, by decide, by decide, by decide +kernel⟩
theorem mI_yX0_put : Cond.instanceMethod yX0_put ∈ gt := gt_of (List.mem_of_getElem? (i := 332) (by decide +kernel)) rfl
theorem mi_yX0_put : jmi yX0_put := ⟨mI_yX0_put, gt_of (List.mem_of_getElem? (i := 10) (by decide +kernel)) rfl⟩
theorem wc_yX0_middle : Cond.code yX0_middle mX0_middle.2.1 mX0_middle.2.2.1 mX0_middle.2.2.2 ∈ gt := gt_of (List.mem_of_getElem? (i := 337) (by decide +kernel)) rfl
theorem mf_yX0_middle : jmf yX0_middle mX0_middle 0 := ⟨wc_yX0_middle, wi_X0, by decide, by decide, by decide +kernel⟩
theorem mI_yX0_middle : Cond.instanceMethod yX0_middle ∈ gt := gt_of (List.mem_of_getElem? (i := 336) (by decide +kernel)) rfl
theorem mi_yX0_middle : jmi yX0_middle := ⟨mI_yX0_middle, gt_of (List.mem_of_getElem? (i := 11) (by decide +kernel)) rfl⟩
theorem wc_yX0_spread : Cond.code yX0_spread mX0_spread.2.1 mX0_spread.2.2.1 mX0_spread.2.2.2 ∈ gt := gt_of (List.mem_of_getElem? (i := 341) (by decide +kernel)) rfl
theorem mf_yX0_spread : jmf yX0_spread mX0_spread 0 := ⟨wc_yX0_spread, wi_X0, by decide, by decide, by decide +kernel⟩
theorem mI_yX0_spread : Cond.instanceMethod yX0_spread ∈ gt := gt_of (List.mem_of_getElem? (i := 340) (by decide +kernel)) rfl
theorem mi_yX0_spread : jmi yX0_spread := ⟨mI_yX0_spread, gt_of (List.mem_of_getElem? (i := 12) (by decide +kernel)) rfl⟩
theorem wc_yX4_gather : Cond.code yX4_gather mX4_gather.2.1 mX4_gather.2.2.1 mX4_gather.2.2.2 ∈ gt := gt_of (List.mem_of_getElem? (i := 345) (by decide +kernel)) rfl
theorem mf_yX4_gather : jmf yX4_gather mX4_gather 2 := ⟨wc_yX4_gather, wi_X4, by decide, by decide, by decide +kernel⟩
theorem mI_yX4_gather : Cond.instanceMethod yX4_gather ∈ gt := gt_of (List.mem_of_getElem? (i := 344) (by decide +kernel)) rfl
theorem mi_yX4_gather : jmi yX4_gather := ⟨mI_yX4_gather, gt_of (List.mem_of_getElem? (i := 13) (by decide +kernel)) rfl⟩
theorem wc_yX7_row : Cond.code yX7_row mX7_row.2.1 mX7_row.2.2.1 mX7_row.2.2.2 ∈ gt := gt_of (List.mem_of_getElem? (i := 349) (by decide +kernel)) rfl
theorem mf_yX7_row : jmf yX7_row mX7_row 1 := ⟨wc_yX7_row, wi_X7, by decide, by decide, by decide +kernel⟩
theorem mI_yX7_row : Cond.instanceMethod yX7_row ∈ gt := gt_of (List.mem_of_getElem? (i := 347) (by decide +kernel)) rfl
theorem mi_yX7_row : jmi yX7_row := ⟨mI_yX7_row, gt_of (List.mem_of_getElem? (i := 348) (by decide +kernel)) rfl⟩
theorem wc_yX6_emptyRow : Cond.code yX6_emptyRow mX6_emptyRow.2.1 mX6_emptyRow.2.2.1 mX6_emptyRow.2.2.2 ∈ gt := gt_of (List.mem_of_getElem? (i := 353) (by decide +kernel)) rfl
theorem mf_yX6_emptyRow : jmf yX6_emptyRow mX6_emptyRow 1 := ⟨wc_yX6_emptyRow, wi_X6, by decide, by decide, by decide +kernel⟩
theorem mI_yX6_emptyRow : Cond.instanceMethod yX6_emptyRow ∈ gt := gt_of (List.mem_of_getElem? (i := 352) (by decide +kernel)) rfl
theorem mi_yX6_emptyRow : jmi yX6_emptyRow := ⟨mI_yX6_emptyRow, gt_of (List.mem_of_getElem? (i := 14) (by decide +kernel)) rfl⟩
theorem wc_yX7_lay : Cond.code yX7_lay mX7_lay.2.1 mX7_lay.2.2.1 mX7_lay.2.2.2 ∈ gt := gt_of (List.mem_of_getElem? (i := 357) (by decide +kernel)) rfl
theorem mf_yX7_lay : jmf yX7_lay mX7_lay 3 := ⟨wc_yX7_lay, wi_X7, by decide, by decide, by decide +kernel⟩
theorem mI_yX7_lay : Cond.instanceMethod yX7_lay ∈ gt := gt_of (List.mem_of_getElem? (i := 355) (by decide +kernel)) rfl
theorem mi_yX7_lay : jmi yX7_lay := ⟨mI_yX7_lay, gt_of (List.mem_of_getElem? (i := 356) (by decide +kernel)) rfl⟩
theorem wc_yX7_lookAtNight : Cond.code yX7_lookAtNight mX7_lookAtNight.2.1 mX7_lookAtNight.2.2.1 mX7_lookAtNight.2.2.2 ∈ gt := gt_of (List.mem_of_getElem? (i := 361) (by decide +kernel)) rfl
theorem mf_yX7_lookAtNight : jmf yX7_lookAtNight mX7_lookAtNight 2 := ⟨wc_yX7_lookAtNight, wi_X7, by decide, by decide, by decide +kernel⟩
theorem mI_yX7_lookAtNight : Cond.instanceMethod yX7_lookAtNight ∈ gt := gt_of (List.mem_of_getElem? (i := 360) (by decide +kernel)) rfl
theorem mi_yX7_lookAtNight : jmi yX7_lookAtNight := ⟨mI_yX7_lookAtNight, gt_of (List.mem_of_getElem? (i := 15) (by decide +kernel)) rfl⟩
theorem wc_yX7_isNight : Cond.code yX7_isNight mX7_isNight.2.1 mX7_isNight.2.2.1 mX7_isNight.2.2.2 ∈ gt := gt_of (List.mem_of_getElem? (i := 364) (by decide +kernel)) rfl
theorem mf_yX7_isNight : jmf yX7_isNight mX7_isNight 1 := ⟨wc_yX7_isNight, wi_X7, by decide, by decide, by decide +kernel⟩
theorem mS_yX7_isNight : Cond.static yX7_isNight ∈ gt := gt_of (List.mem_of_getElem? (i := 363) (by decide +kernel)) rfl
theorem wc_yX7_at : Cond.code yX7_at mX7_at.2.1 mX7_at.2.2.1 mX7_at.2.2.2 ∈ gt := gt_of (List.mem_of_getElem? (i := 368) (by decide +kernel)) rfl
theorem mf_yX7_at : jmf yX7_at mX7_at 2 := ⟨wc_yX7_at, wi_X7, by decide, by decide, by decide +kernel⟩
theorem mI_yX7_at : Cond.instanceMethod yX7_at ∈ gt := gt_of (List.mem_of_getElem? (i := 366) (by decide +kernel)) rfl
theorem mi_yX7_at : jmi yX7_at := ⟨mI_yX7_at, gt_of (List.mem_of_getElem? (i := 367) (by decide +kernel)) rfl⟩
theorem wc_yX7_light : Cond.code yX7_light mX7_light.2.1 mX7_light.2.2.1 mX7_light.2.2.2 ∈ gt := gt_of (List.mem_of_getElem? (i := 372) (by decide +kernel)) rfl
theorem mf_yX7_light : jmf yX7_light mX7_light 2 := ⟨wc_yX7_light, wi_X7, by decide, by decide, by decide +kernel⟩
theorem mI_yX7_light : Cond.instanceMethod yX7_light ∈ gt := gt_of (List.mem_of_getElem? (i := 370) (by decide +kernel)) rfl
theorem mi_yX7_light : jmi yX7_light := ⟨mI_yX7_light, gt_of (List.mem_of_getElem? (i := 371) (by decide +kernel)) rfl⟩
theorem wc_yX7_tell : Cond.code yX7_tell mX7_tell.2.1 mX7_tell.2.2.1 mX7_tell.2.2.2 ∈ gt := gt_of (List.mem_of_getElem? (i := 376) (by decide +kernel)) rfl
theorem mf_yX7_tell : jmf yX7_tell mX7_tell 1 := ⟨wc_yX7_tell, wi_X7, by decide, by decide, by decide +kernel⟩
theorem mI_yX7_tell : Cond.instanceMethod yX7_tell ∈ gt := gt_of (List.mem_of_getElem? (i := 375) (by decide +kernel)) rfl
theorem mi_yX7_tell : jmi yX7_tell := ⟨mI_yX7_tell, gt_of (List.mem_of_getElem? (i := 16) (by decide +kernel)) rfl⟩
theorem wc_yX7_tear : Cond.code yX7_tear mX7_tear.2.1 mX7_tear.2.2.1 mX7_tear.2.2.2 ∈ gt := gt_of (List.mem_of_getElem? (i := 380) (by decide +kernel)) rfl
theorem mf_yX7_tear : jmf yX7_tear mX7_tear 1 := ⟨wc_yX7_tear, wi_X7, by decide, by decide, by decide +kernel⟩
theorem mI_yX7_tear : Cond.instanceMethod yX7_tear ∈ gt := gt_of (List.mem_of_getElem? (i := 378) (by decide +kernel)) rfl
theorem mi_yX7_tear : jmi yX7_tear := ⟨mI_yX7_tear, gt_of (List.mem_of_getElem? (i := 379) (by decide +kernel)) rfl⟩
theorem wc_yX7_copy : Cond.code yX7_copy mX7_copy.2.1 mX7_copy.2.2.1 mX7_copy.2.2.2 ∈ gt := gt_of (List.mem_of_getElem? (i := 384) (by decide +kernel)) rfl
theorem mf_yX7_copy : jmf yX7_copy mX7_copy 5 := ⟨wc_yX7_copy, wi_X7, by decide, by decide, by decide +kernel⟩
theorem mI_yX7_copy : Cond.instanceMethod yX7_copy ∈ gt := gt_of (List.mem_of_getElem? (i := 382) (by decide +kernel)) rfl
theorem mi_yX7_copy : jmi yX7_copy := ⟨mI_yX7_copy, gt_of (List.mem_of_getElem? (i := 383) (by decide +kernel)) rfl⟩
theorem wc_yX7_areNights : Cond.code yX7_areNights mX7_areNights.2.1 mX7_areNights.2.2.1 mX7_areNights.2.2.2 ∈ gt := gt_of (List.mem_of_getElem? (i := 387) (by decide +kernel)) rfl
theorem mf_yX7_areNights : jmf yX7_areNights mX7_areNights 2 := ⟨wc_yX7_areNights, wi_X7, by decide, by decide, by decide +kernel⟩
theorem mS_yX7_areNights : Cond.static yX7_areNights ∈ gt := gt_of (List.mem_of_getElem? (i := 386) (by decide +kernel)) rfl
theorem wc_yX7_foot : Cond.code yX7_foot mX7_foot.2.1 mX7_foot.2.2.1 mX7_foot.2.2.2 ∈ gt := gt_of (List.mem_of_getElem? (i := 394) (by decide +kernel)) rfl
theorem mf_yX7_foot : jmf yX7_foot mX7_foot 2 := ⟨wc_yX7_foot, wi_X7, by decide, by decide, by decide +kernel⟩
theorem mI_yX7_foot : Cond.instanceMethod yX7_foot ∈ gt := gt_of (List.mem_of_getElem? (i := 392) (by decide +kernel)) rfl
theorem mi_yX7_foot : jmi yX7_foot := ⟨mI_yX7_foot, gt_of (List.mem_of_getElem? (i := 393) (by decide +kernel)) rfl⟩
theorem wc_yX7_footing : Cond.code yX7_footing mX7_footing.2.1 mX7_footing.2.2.1 mX7_footing.2.2.2 ∈ gt := gt_of (List.mem_of_getElem? (i := 398) (by decide +kernel)) rfl
theorem mf_yX7_footing : jmf yX7_footing mX7_footing 1 := ⟨wc_yX7_footing, wi_X7, by decide, by decide, by decide +kernel⟩
theorem mI_yX7_footing : Cond.instanceMethod yX7_footing ∈ gt := gt_of (List.mem_of_getElem? (i := 396) (by decide +kernel)) rfl
theorem mi_yX7_footing : jmi yX7_footing := ⟨mI_yX7_footing, gt_of (List.mem_of_getElem? (i := 397) (by decide +kernel)) rfl⟩
theorem wc_yX7_level : Cond.code yX7_level mX7_level.2.1 mX7_level.2.2.1 mX7_level.2.2.2 ∈ gt := gt_of (List.mem_of_getElem? (i := 402) (by decide +kernel)) rfl
theorem mf_yX7_level : jmf yX7_level mX7_level 0 := ⟨wc_yX7_level, wi_X7, by decide, by decide, by decide +kernel⟩
theorem mI_yX7_level : Cond.instanceMethod yX7_level ∈ gt := gt_of (List.mem_of_getElem? (i := 400) (by decide +kernel)) rfl
theorem mi_yX7_level : jmi yX7_level := ⟨mI_yX7_level, gt_of (List.mem_of_getElem? (i := 401) (by decide +kernel)) rfl⟩
theorem wc_yX7_levelWithoutFootings : Cond.code yX7_levelWithoutFootings mX7_levelWithoutFootings.2.1 mX7_levelWithoutFootings.2.2.1 mX7_levelWithoutFootings.2.2.2 ∈ gt := gt_of (List.mem_of_getElem? (i := 406) (by decide +kernel)) rfl
theorem mf_yX7_levelWithoutFootings : jmf yX7_levelWithoutFootings mX7_levelWithoutFootings 1 := ⟨wc_yX7_levelWithoutFootings, wi_X7, by decide, by decide, by decide +kernel⟩
theorem mI_yX7_levelWithoutFootings : Cond.instanceMethod yX7_levelWithoutFootings ∈ gt := gt_of (List.mem_of_getElem? (i := 405) (by decide +kernel)) rfl
theorem mi_yX7_levelWithoutFootings : jmi yX7_levelWithoutFootings := ⟨mI_yX7_levelWithoutFootings, gt_of (List.mem_of_getElem? (i := 17) (by decide +kernel)) rfl⟩
theorem wc_yX7_middleDifference : Cond.code yX7_middleDifference mX7_middleDifference.2.1 mX7_middleDifference.2.2.1 mX7_middleDifference.2.2.2 ∈ gt := gt_of (List.mem_of_getElem? (i := 410) (by decide +kernel)) rfl
theorem mf_yX7_middleDifference : jmf yX7_middleDifference mX7_middleDifference 1 := ⟨wc_yX7_middleDifference, wi_X7, by decide, by decide, by decide +kernel⟩
theorem mI_yX7_middleDifference : Cond.instanceMethod yX7_middleDifference ∈ gt := gt_of (List.mem_of_getElem? (i := 409) (by decide +kernel)) rfl
theorem mi_yX7_middleDifference : jmi yX7_middleDifference := ⟨mI_yX7_middleDifference, gt_of (List.mem_of_getElem? (i := 18) (by decide +kernel)) rfl⟩
theorem wc_yX7_levelOf : Cond.code yX7_levelOf mX7_levelOf.2.1 mX7_levelOf.2.2.1 mX7_levelOf.2.2.2 ∈ gt := gt_of (List.mem_of_getElem? (i := 414) (by decide +kernel)) rfl
theorem mf_yX7_levelOf : jmf yX7_levelOf mX7_levelOf 1 := ⟨wc_yX7_levelOf, wi_X7, by decide, by decide, by decide +kernel⟩
theorem mI_yX7_levelOf : Cond.instanceMethod yX7_levelOf ∈ gt := gt_of (List.mem_of_getElem? (i := 412) (by decide +kernel)) rfl
theorem mi_yX7_levelOf : jmi yX7_levelOf := ⟨mI_yX7_levelOf, gt_of (List.mem_of_getElem? (i := 413) (by decide +kernel)) rfl⟩
theorem wc_yX7_gatherLights : Cond.code yX7_gatherLights mX7_gatherLights.2.1 mX7_gatherLights.2.2.1 mX7_gatherLights.2.2.2 ∈ gt := gt_of (List.mem_of_getElem? (i := 418) (by decide +kernel)) rfl
theorem mf_yX7_gatherLights : jmf yX7_gatherLights mX7_gatherLights 1 := ⟨wc_yX7_gatherLights, wi_X7, by decide, by decide, by decide +kernel⟩
theorem mI_yX7_gatherLights : Cond.instanceMethod yX7_gatherLights ∈ gt := gt_of (List.mem_of_getElem? (i := 417) (by decide +kernel)) rfl
theorem mi_yX7_gatherLights : jmi yX7_gatherLights := ⟨mI_yX7_gatherLights, gt_of (List.mem_of_getElem? (i := 19) (by decide +kernel)) rfl⟩
theorem wc_yX7_mean : Cond.code yX7_mean mX7_mean.2.1 mX7_mean.2.2.1 mX7_mean.2.2.2 ∈ gt := gt_of (List.mem_of_getElem? (i := 422) (by decide +kernel)) rfl
theorem mf_yX7_mean : jmf yX7_mean mX7_mean 1 := ⟨wc_yX7_mean, wi_X7, by decide, by decide, by decide +kernel⟩
theorem mI_yX7_mean : Cond.instanceMethod yX7_mean ∈ gt := gt_of (List.mem_of_getElem? (i := 420) (by decide +kernel)) rfl
theorem mi_yX7_mean : jmi yX7_mean := ⟨mI_yX7_mean, gt_of (List.mem_of_getElem? (i := 421) (by decide +kernel)) rfl⟩
theorem wc_yX1_average : Cond.code yX1_average mX1_average.2.1 mX1_average.2.2.1 mX1_average.2.2.2 ∈ gt := gt_of (List.mem_of_getElem? (i := 426) (by decide +kernel)) rfl
theorem mf_yX1_average : jmf yX1_average mX1_average 0 := ⟨wc_yX1_average, wi_X1, by decide, by decide, by decide +kernel⟩
theorem mI_yX1_average : Cond.instanceMethod yX1_average ∈ gt := gt_of (List.mem_of_getElem? (i := 425) (by decide +kernel)) rfl
theorem mi_yX1_average : jmi yX1_average := ⟨mI_yX1_average, gt_of (List.mem_of_getElem? (i := 20) (by decide +kernel)) rfl⟩
theorem wc_yX1_sum : Cond.code yX1_sum mX1_sum.2.1 mX1_sum.2.2.1 mX1_sum.2.2.2 ∈ gt := gt_of (List.mem_of_getElem? (i := 430) (by decide +kernel)) rfl
theorem mf_yX1_sum : jmf yX1_sum mX1_sum 0 := ⟨wc_yX1_sum, wi_X1, by decide, by decide, by decide +kernel⟩
theorem mI_yX1_sum : Cond.instanceMethod yX1_sum ∈ gt := gt_of (List.mem_of_getElem? (i := 429) (by decide +kernel)) rfl
theorem mi_yX1_sum : jmi yX1_sum := ⟨mI_yX1_sum, gt_of (List.mem_of_getElem? (i := 21) (by decide +kernel)) rfl⟩
theorem wc_yX7_phase : Cond.code yX7_phase mX7_phase.2.1 mX7_phase.2.2.1 mX7_phase.2.2.2 ∈ gt := gt_of (List.mem_of_getElem? (i := 434) (by decide +kernel)) rfl
theorem mf_yX7_phase : jmf yX7_phase mX7_phase 3 := ⟨wc_yX7_phase, wi_X7, by decide, by decide, by decide +kernel⟩
theorem mI_yX7_phase : Cond.instanceMethod yX7_phase ∈ gt := gt_of (List.mem_of_getElem? (i := 432) (by decide +kernel)) rfl
theorem mi_yX7_phase : jmi yX7_phase := ⟨mI_yX7_phase, gt_of (List.mem_of_getElem? (i := 433) (by decide +kernel)) rfl⟩
theorem wc_yX7_isPeriod : Cond.code yX7_isPeriod mX7_isPeriod.2.1 mX7_isPeriod.2.2.1 mX7_isPeriod.2.2.2 ∈ gt := gt_of (List.mem_of_getElem? (i := 437) (by decide +kernel)) rfl
theorem mf_yX7_isPeriod : jmf yX7_isPeriod mX7_isPeriod 2 := ⟨wc_yX7_isPeriod, wi_X7, by decide, by decide, by decide +kernel⟩
theorem mS_yX7_isPeriod : Cond.static yX7_isPeriod ∈ gt := gt_of (List.mem_of_getElem? (i := 436) (by decide +kernel)) rfl
theorem wc_yX7_phaseOfTime : Cond.code yX7_phaseOfTime mX7_phaseOfTime.2.1 mX7_phaseOfTime.2.2.1 mX7_phaseOfTime.2.2.2 ∈ gt := gt_of (List.mem_of_getElem? (i := 440) (by decide +kernel)) rfl
theorem mf_yX7_phaseOfTime : jmf yX7_phaseOfTime mX7_phaseOfTime 3 := ⟨wc_yX7_phaseOfTime, wi_X7, by decide, by decide, by decide +kernel⟩
theorem mS_yX7_phaseOfTime : Cond.static yX7_phaseOfTime ∈ gt := gt_of (List.mem_of_getElem? (i := 439) (by decide +kernel)) rfl
theorem wc_yX7_string : Cond.code yX7_string mX7_string.2.1 mX7_string.2.2.1 mX7_string.2.2.2 ∈ gt := gt_of (List.mem_of_getElem? (i := 444) (by decide +kernel)) rfl
theorem mf_yX7_string : jmf yX7_string mX7_string 3 := ⟨wc_yX7_string, wi_X7, by decide, by decide, by decide +kernel⟩
theorem mI_yX7_string : Cond.instanceMethod yX7_string ∈ gt := gt_of (List.mem_of_getElem? (i := 442) (by decide +kernel)) rfl
theorem mi_yX7_string : jmi yX7_string := ⟨mI_yX7_string, gt_of (List.mem_of_getElem? (i := 443) (by decide +kernel)) rfl⟩
theorem wc_yX3_stringOf : Cond.code yX3_stringOf mX3_stringOf.2.1 mX3_stringOf.2.2.1 mX3_stringOf.2.2.2 ∈ gt := gt_of (List.mem_of_getElem? (i := 448) (by decide +kernel)) rfl
theorem mf_yX3_stringOf : jmf yX3_stringOf mX3_stringOf 3 := ⟨wc_yX3_stringOf, wi_X3, by decide, by decide, by decide +kernel⟩
theorem mI_yX3_stringOf : Cond.instanceMethod yX3_stringOf ∈ gt := gt_of (List.mem_of_getElem? (i := 447) (by decide +kernel)) rfl
theorem mi_yX3_stringOf : jmi yX3_stringOf := ⟨mI_yX3_stringOf, gt_of (List.mem_of_getElem? (i := 22) (by decide +kernel)) rfl⟩
theorem wc_yX3_put : Cond.code yX3_put mX3_put.2.1 mX3_put.2.2.1 mX3_put.2.2.2 ∈ gt := gt_of (List.mem_of_getElem? (i := 453) (by decide +kernel)) rfl
theorem mf_yX3_put : jmf yX3_put mX3_put 3 := ⟨wc_yX3_put, wi_X3, by decide, by decide, by decide +kernel⟩
theorem mI_yX3_put : Cond.instanceMethod yX3_put ∈ gt := gt_of (List.mem_of_getElem? (i := 452) (by decide +kernel)) rfl
theorem mi_yX3_put : jmi yX3_put := ⟨mI_yX3_put, gt_of (List.mem_of_getElem? (i := 23) (by decide +kernel)) rfl⟩
theorem wc_yJ9_abs_0f7a4 : Cond.code yJ9_abs_0f7a4 mJ9_abs_0f7a4.2.1 mJ9_abs_0f7a4.2.2.1 mJ9_abs_0f7a4.2.2.2 ∈ gt := gt_of (List.mem_of_getElem? (i := 456) (by decide +kernel)) rfl
theorem wi_J9 : Cond.initialized RJ9 ∈ gt := gt_of (List.mem_of_getElem? (i := 72) (by decide +kernel)) rfl
theorem mf_yJ9_abs_0f7a4 : jmf yJ9_abs_0f7a4 mJ9_abs_0f7a4 1 := ⟨wc_yJ9_abs_0f7a4, wi_J9, by decide, by decide, by decide +kernel⟩
theorem mS_yJ9_abs_0f7a4 : Cond.static yJ9_abs_0f7a4 ∈ gt := gt_of (List.mem_of_getElem? (i := 455) (by decide +kernel)) rfl
theorem wc_yX7_period : Cond.code yX7_period mX7_period.2.1 mX7_period.2.2.1 mX7_period.2.2.2 ∈ gt := gt_of (List.mem_of_getElem? (i := 460) (by decide +kernel)) rfl
theorem mf_yX7_period : jmf yX7_period mX7_period 4 := ⟨wc_yX7_period, wi_X7, by decide, by decide, by decide +kernel⟩
theorem mI_yX7_period : Cond.instanceMethod yX7_period ∈ gt := gt_of (List.mem_of_getElem? (i := 458) (by decide +kernel)) rfl
theorem mi_yX7_period : jmi yX7_period := ⟨mI_yX7_period, gt_of (List.mem_of_getElem? (i := 459) (by decide +kernel)) rfl⟩
theorem wc_yX7_foldFromTo : Cond.code yX7_foldFromTo mX7_foldFromTo.2.1 mX7_foldFromTo.2.2.1 mX7_foldFromTo.2.2.2 ∈ gt := gt_of (List.mem_of_getElem? (i := 464) (by decide +kernel)) rfl
theorem mf_yX7_foldFromTo : jmf yX7_foldFromTo mX7_foldFromTo 4 := ⟨wc_yX7_foldFromTo, wi_X7, by decide, by decide, by decide +kernel⟩
theorem mI_yX7_foldFromTo : Cond.instanceMethod yX7_foldFromTo ∈ gt := gt_of (List.mem_of_getElem? (i := 463) (by decide +kernel)) rfl
theorem mi_yX7_foldFromTo : jmi yX7_foldFromTo := ⟨mI_yX7_foldFromTo, gt_of (List.mem_of_getElem? (i := 24) (by decide +kernel)) rfl⟩
theorem wc_yX3_stringsFromTo : Cond.code yX3_stringsFromTo mX3_stringsFromTo.2.1 mX3_stringsFromTo.2.2.1 mX3_stringsFromTo.2.2.2 ∈ gt := gt_of (List.mem_of_getElem? (i := 468) (by decide +kernel)) rfl
theorem mf_yX3_stringsFromTo : jmf yX3_stringsFromTo mX3_stringsFromTo 4 := ⟨wc_yX3_stringsFromTo, wi_X3, by decide, by decide, by decide +kernel⟩
theorem mI_yX3_stringsFromTo : Cond.instanceMethod yX3_stringsFromTo ∈ gt := gt_of (List.mem_of_getElem? (i := 467) (by decide +kernel)) rfl
theorem mi_yX3_stringsFromTo : jmi yX3_stringsFromTo := ⟨mI_yX3_stringsFromTo, gt_of (List.mem_of_getElem? (i := 25) (by decide +kernel)) rfl⟩
theorem wc_yX3_leastFromTo : Cond.code yX3_leastFromTo mX3_leastFromTo.2.1 mX3_leastFromTo.2.2.1 mX3_leastFromTo.2.2.2 ∈ gt := gt_of (List.mem_of_getElem? (i := 473) (by decide +kernel)) rfl
theorem mf_yX3_leastFromTo : jmf yX3_leastFromTo mX3_leastFromTo 2 := ⟨wc_yX3_leastFromTo, wi_X3, by decide, by decide, by decide +kernel⟩
theorem mI_yX3_leastFromTo : Cond.instanceMethod yX3_leastFromTo ∈ gt := gt_of (List.mem_of_getElem? (i := 472) (by decide +kernel)) rfl
theorem mi_yX3_leastFromTo : jmi yX3_leastFromTo := ⟨mI_yX3_leastFromTo, gt_of (List.mem_of_getElem? (i := 26) (by decide +kernel)) rfl⟩
theorem wc_yX7_asWell : Cond.code yX7_asWell mX7_asWell.2.1 mX7_asWell.2.2.1 mX7_asWell.2.2.2 ∈ gt := gt_of (List.mem_of_getElem? (i := 477) (by decide +kernel)) rfl
theorem mf_yX7_asWell : jmf yX7_asWell mX7_asWell 5 := ⟨wc_yX7_asWell, wi_X7, by decide, by decide, by decide +kernel⟩
theorem mI_yX7_asWell : Cond.instanceMethod yX7_asWell ∈ gt := gt_of (List.mem_of_getElem? (i := 475) (by decide +kernel)) rfl
theorem mi_yX7_asWell : jmi yX7_asWell := ⟨mI_yX7_asWell, gt_of (List.mem_of_getElem? (i := 476) (by decide +kernel)) rfl⟩
theorem wc_yX7_depth : Cond.code yX7_depth mX7_depth.2.1 mX7_depth.2.2.1 mX7_depth.2.2.2 ∈ gt := gt_of (List.mem_of_getElem? (i := 482) (by decide +kernel)) rfl
theorem mf_yX7_depth : jmf yX7_depth mX7_depth 4 := ⟨wc_yX7_depth, wi_X7, by decide, by decide, by decide +kernel⟩
theorem mI_yX7_depth : Cond.instanceMethod yX7_depth ∈ gt := gt_of (List.mem_of_getElem? (i := 480) (by decide +kernel)) rfl
theorem mi_yX7_depth : jmi yX7_depth := ⟨mI_yX7_depth, gt_of (List.mem_of_getElem? (i := 481) (by decide +kernel)) rfl⟩
theorem wc_yJ9_floorMod_7cf53 : Cond.code yJ9_floorMod_7cf53 mJ9_floorMod_7cf53.2.1 mJ9_floorMod_7cf53.2.2.1 mJ9_floorMod_7cf53.2.2.2 ∈ gt := gt_of (List.mem_of_getElem? (i := 485) (by decide +kernel)) rfl
theorem mf_yJ9_floorMod_7cf53 : jmf yJ9_floorMod_7cf53 mJ9_floorMod_7cf53 2 := ⟨wc_yJ9_floorMod_7cf53, wi_J9, by decide, by decide, by decide +kernel⟩
theorem mS_yJ9_floorMod_7cf53 : Cond.static yJ9_floorMod_7cf53 ∈ gt := gt_of (List.mem_of_getElem? (i := 484) (by decide +kernel)) rfl
theorem wc_yX7_dip : Cond.code yX7_dip mX7_dip.2.1 mX7_dip.2.2.1 mX7_dip.2.2.2 ∈ gt := gt_of (List.mem_of_getElem? (i := 490) (by decide +kernel)) rfl
theorem mf_yX7_dip : jmf yX7_dip mX7_dip 3 := ⟨wc_yX7_dip, wi_X7, by decide, by decide, by decide +kernel⟩
theorem mI_yX7_dip : Cond.instanceMethod yX7_dip ∈ gt := gt_of (List.mem_of_getElem? (i := 488) (by decide +kernel)) rfl
theorem mi_yX7_dip : jmi yX7_dip := ⟨mI_yX7_dip, gt_of (List.mem_of_getElem? (i := 489) (by decide +kernel)) rfl⟩
theorem wc_yX2_search : Cond.code yX2_search mX2_search.2.1 mX2_search.2.2.1 mX2_search.2.2.2 ∈ gt := gt_of (List.mem_of_getElem? (i := 494) (by decide +kernel)) rfl
theorem mf_yX2_search : jmf yX2_search mX2_search 3 := ⟨wc_yX2_search, wi_X2, by decide, by decide, by decide +kernel⟩
theorem mI_yX2_search : Cond.instanceMethod yX2_search ∈ gt := gt_of (List.mem_of_getElem? (i := 493) (by decide +kernel)) rfl
theorem mi_yX2_search : jmi yX2_search := ⟨mI_yX2_search, gt_of (List.mem_of_getElem? (i := 27) (by decide +kernel)) rfl⟩
theorem wc_yX2_share : Cond.code yX2_share mX2_share.2.1 mX2_share.2.2.1 mX2_share.2.2.2 ∈ gt := gt_of (List.mem_of_getElem? (i := 498) (by decide +kernel)) rfl
theorem mf_yX2_share : jmf yX2_share mX2_share 2 := ⟨wc_yX2_share, wi_X2, by decide, by decide, by decide +kernel⟩
theorem mI_yX2_share : Cond.instanceMethod yX2_share ∈ gt := gt_of (List.mem_of_getElem? (i := 497) (by decide +kernel)) rfl
theorem mi_yX2_share : jmi yX2_share := ⟨mI_yX2_share, gt_of (List.mem_of_getElem? (i := 28) (by decide +kernel)) rfl⟩
theorem wc_yJ9_min_7cf53 : Cond.code yJ9_min_7cf53 mJ9_min_7cf53.2.1 mJ9_min_7cf53.2.2.1 mJ9_min_7cf53.2.2.2 ∈ gt := gt_of (List.mem_of_getElem? (i := 503) (by decide +kernel)) rfl
theorem mf_yJ9_min_7cf53 : jmf yJ9_min_7cf53 mJ9_min_7cf53 2 := ⟨wc_yJ9_min_7cf53, wi_J9, by decide, by decide, by decide +kernel⟩
theorem mS_yJ9_min_7cf53 : Cond.static yJ9_min_7cf53 ∈ gt := gt_of (List.mem_of_getElem? (i := 502) (by decide +kernel)) rfl
theorem wc_yX2_widen : Cond.code yX2_widen mX2_widen.2.1 mX2_widen.2.2.1 mX2_widen.2.2.2 ∈ gt := gt_of (List.mem_of_getElem? (i := 507) (by decide +kernel)) rfl
theorem mf_yX2_widen : jmf yX2_widen mX2_widen 2 := ⟨wc_yX2_widen, wi_X2, by decide, by decide, by decide +kernel⟩
theorem mI_yX2_widen : Cond.instanceMethod yX2_widen ∈ gt := gt_of (List.mem_of_getElem? (i := 506) (by decide +kernel)) rfl
theorem mi_yX2_widen : jmi yX2_widen := ⟨mI_yX2_widen, gt_of (List.mem_of_getElem? (i := 29) (by decide +kernel)) rfl⟩
theorem wc_yX2_countsHere : Cond.code yX2_countsHere mX2_countsHere.2.1 mX2_countsHere.2.2.1 mX2_countsHere.2.2.2 ∈ gt := gt_of (List.mem_of_getElem? (i := 511) (by decide +kernel)) rfl
theorem mf_yX2_countsHere : jmf yX2_countsHere mX2_countsHere 1 := ⟨wc_yX2_countsHere, wi_X2, by decide, by decide, by decide +kernel⟩
theorem mI_yX2_countsHere : Cond.instanceMethod yX2_countsHere ∈ gt := gt_of (List.mem_of_getElem? (i := 510) (by decide +kernel)) rfl
theorem mi_yX2_countsHere : jmi yX2_countsHere := ⟨mI_yX2_countsHere, gt_of (List.mem_of_getElem? (i := 30) (by decide +kernel)) rfl⟩
theorem wc_yX2_depthFrom : Cond.code yX2_depthFrom mX2_depthFrom.2.1 mX2_depthFrom.2.2.1 mX2_depthFrom.2.2.2 ∈ gt := gt_of (List.mem_of_getElem? (i := 515) (by decide +kernel)) rfl
theorem mf_yX2_depthFrom : jmf yX2_depthFrom mX2_depthFrom 1 := ⟨wc_yX2_depthFrom, wi_X2, by decide, by decide, by decide +kernel⟩
theorem mI_yX2_depthFrom : Cond.instanceMethod yX2_depthFrom ∈ gt := gt_of (List.mem_of_getElem? (i := 514) (by decide +kernel)) rfl
theorem mi_yX2_depthFrom : jmi yX2_depthFrom := ⟨mI_yX2_depthFrom, gt_of (List.mem_of_getElem? (i := 31) (by decide +kernel)) rfl⟩
theorem wc_yX2_keep : Cond.code yX2_keep mX2_keep.2.1 mX2_keep.2.2.1 mX2_keep.2.2.2 ∈ gt := gt_of (List.mem_of_getElem? (i := 519) (by decide +kernel)) rfl
theorem mf_yX2_keep : jmf yX2_keep mX2_keep 2 := ⟨wc_yX2_keep, wi_X2, by decide, by decide, by decide +kernel⟩
theorem mI_yX2_keep : Cond.instanceMethod yX2_keep ∈ gt := gt_of (List.mem_of_getElem? (i := 518) (by decide +kernel)) rfl
theorem mi_yX2_keep : jmi yX2_keep := ⟨mI_yX2_keep, gt_of (List.mem_of_getElem? (i := 32) (by decide +kernel)) rfl⟩
theorem wc_yX7_dipOf : Cond.code yX7_dipOf mX7_dipOf.2.1 mX7_dipOf.2.2.1 mX7_dipOf.2.2.2 ∈ gt := gt_of (List.mem_of_getElem? (i := 523) (by decide +kernel)) rfl
theorem mf_yX7_dipOf : jmf yX7_dipOf mX7_dipOf 1 := ⟨wc_yX7_dipOf, wi_X7, by decide, by decide, by decide +kernel⟩
theorem mI_yX7_dipOf : Cond.instanceMethod yX7_dipOf ∈ gt := gt_of (List.mem_of_getElem? (i := 521) (by decide +kernel)) rfl
theorem mi_yX7_dipOf : jmi yX7_dipOf := ⟨mI_yX7_dipOf, gt_of (List.mem_of_getElem? (i := 522) (by decide +kernel)) rfl⟩
theorem wc_yX7_lows : Cond.code yX7_lows mX7_lows.2.1 mX7_lows.2.2.1 mX7_lows.2.2.2 ∈ gt := gt_of (List.mem_of_getElem? (i := 527) (by decide +kernel)) rfl
theorem mf_yX7_lows : jmf yX7_lows mX7_lows 2 := ⟨wc_yX7_lows, wi_X7, by decide, by decide, by decide +kernel⟩
theorem mI_yX7_lows : Cond.instanceMethod yX7_lows ∈ gt := gt_of (List.mem_of_getElem? (i := 525) (by decide +kernel)) rfl
theorem mi_yX7_lows : jmi yX7_lows := ⟨mI_yX7_lows, gt_of (List.mem_of_getElem? (i := 526) (by decide +kernel)) rfl⟩
theorem wc_yX7_gatherLows : Cond.code yX7_gatherLows mX7_gatherLows.2.1 mX7_gatherLows.2.2.1 mX7_gatherLows.2.2.2 ∈ gt := gt_of (List.mem_of_getElem? (i := 531) (by decide +kernel)) rfl
theorem mf_yX7_gatherLows : jmf yX7_gatherLows mX7_gatherLows 2 := ⟨wc_yX7_gatherLows, wi_X7, by decide, by decide, by decide +kernel⟩
theorem mI_yX7_gatherLows : Cond.instanceMethod yX7_gatherLows ∈ gt := gt_of (List.mem_of_getElem? (i := 530) (by decide +kernel)) rfl
theorem mi_yX7_gatherLows : jmi yX7_gatherLows := ⟨mI_yX7_gatherLows, gt_of (List.mem_of_getElem? (i := 33) (by decide +kernel)) rfl⟩
theorem wc_yX7_low : Cond.code yX7_low mX7_low.2.1 mX7_low.2.2.1 mX7_low.2.2.2 ∈ gt := gt_of (List.mem_of_getElem? (i := 535) (by decide +kernel)) rfl
theorem mf_yX7_low : jmf yX7_low mX7_low 3 := ⟨wc_yX7_low, wi_X7, by decide, by decide, by decide +kernel⟩
theorem mI_yX7_low : Cond.instanceMethod yX7_low ∈ gt := gt_of (List.mem_of_getElem? (i := 533) (by decide +kernel)) rfl
theorem mi_yX7_low : jmi yX7_low := ⟨mI_yX7_low, gt_of (List.mem_of_getElem? (i := 534) (by decide +kernel)) rfl⟩
theorem wc_yX4_has : Cond.code yX4_has mX4_has.2.1 mX4_has.2.2.1 mX4_has.2.2.2 ∈ gt := gt_of (List.mem_of_getElem? (i := 539) (by decide +kernel)) rfl
theorem mf_yX4_has : jmf yX4_has mX4_has 1 := ⟨wc_yX4_has, wi_X4, by decide, by decide, by decide +kernel⟩
theorem mI_yX4_has : Cond.instanceMethod yX4_has ∈ gt := gt_of (List.mem_of_getElem? (i := 538) (by decide +kernel)) rfl
theorem mi_yX4_has : jmi yX4_has := ⟨mI_yX4_has, gt_of (List.mem_of_getElem? (i := 34) (by decide +kernel)) rfl⟩
theorem wc_yX7_turn : Cond.code yX7_turn mX7_turn.2.1 mX7_turn.2.2.1 mX7_turn.2.2.2 ∈ gt := gt_of (List.mem_of_getElem? (i := 543) (by decide +kernel)) rfl
theorem mf_yX7_turn : jmf yX7_turn mX7_turn 6 := ⟨wc_yX7_turn, wi_X7, by decide, by decide, by decide +kernel⟩
theorem mI_yX7_turn : Cond.instanceMethod yX7_turn ∈ gt := gt_of (List.mem_of_getElem? (i := 541) (by decide +kernel)) rfl
theorem mi_yX7_turn : jmi yX7_turn := ⟨mI_yX7_turn, gt_of (List.mem_of_getElem? (i := 542) (by decide +kernel)) rfl⟩
theorem wc_yX7_gatherLowsOnClock : Cond.code yX7_gatherLowsOnClock mX7_gatherLowsOnClock.2.1 mX7_gatherLowsOnClock.2.2.1 mX7_gatherLowsOnClock.2.2.2 ∈ gt := gt_of (List.mem_of_getElem? (i := 547) (by decide +kernel)) rfl
theorem mf_yX7_gatherLowsOnClock : jmf yX7_gatherLowsOnClock mX7_gatherLowsOnClock 5 := ⟨wc_yX7_gatherLowsOnClock, wi_X7, by decide, by decide, by decide +kernel⟩
theorem mI_yX7_gatherLowsOnClock : Cond.instanceMethod yX7_gatherLowsOnClock ∈ gt := gt_of (List.mem_of_getElem? (i := 546) (by decide +kernel)) rfl
theorem mi_yX7_gatherLowsOnClock : jmi yX7_gatherLowsOnClock := ⟨mI_yX7_gatherLowsOnClock, gt_of (List.mem_of_getElem? (i := 35) (by decide +kernel)) rfl⟩
theorem wc_yX7_turnOfTime : Cond.code yX7_turnOfTime mX7_turnOfTime.2.1 mX7_turnOfTime.2.2.1 mX7_turnOfTime.2.2.2 ∈ gt := gt_of (List.mem_of_getElem? (i := 550) (by decide +kernel)) rfl
theorem mf_yX7_turnOfTime : jmf yX7_turnOfTime mX7_turnOfTime 4 := ⟨wc_yX7_turnOfTime, wi_X7, by decide, by decide, by decide +kernel⟩
theorem mS_yX7_turnOfTime : Cond.static yX7_turnOfTime ∈ gt := gt_of (List.mem_of_getElem? (i := 549) (by decide +kernel)) rfl
theorem wc_yJ9_floorDiv_7cf53 : Cond.code yJ9_floorDiv_7cf53 mJ9_floorDiv_7cf53.2.1 mJ9_floorDiv_7cf53.2.2.1 mJ9_floorDiv_7cf53.2.2.2 ∈ gt := gt_of (List.mem_of_getElem? (i := 553) (by decide +kernel)) rfl
theorem mf_yJ9_floorDiv_7cf53 : jmf yJ9_floorDiv_7cf53 mJ9_floorDiv_7cf53 2 := ⟨wc_yJ9_floorDiv_7cf53, wi_J9, by decide, by decide, by decide +kernel⟩
theorem mS_yJ9_floorDiv_7cf53 : Cond.static yJ9_floorDiv_7cf53 ∈ gt := gt_of (List.mem_of_getElem? (i := 552) (by decide +kernel)) rfl
theorem wc_yX7_late : Cond.code yX7_late mX7_late.2.1 mX7_late.2.2.1 mX7_late.2.2.2 ∈ gt := gt_of (List.mem_of_getElem? (i := 557) (by decide +kernel)) rfl
theorem mf_yX7_late : jmf yX7_late mX7_late 6 := ⟨wc_yX7_late, wi_X7, by decide, by decide, by decide +kernel⟩
theorem mI_yX7_late : Cond.instanceMethod yX7_late ∈ gt := gt_of (List.mem_of_getElem? (i := 555) (by decide +kernel)) rfl
theorem mi_yX7_late : jmi yX7_late := ⟨mI_yX7_late, gt_of (List.mem_of_getElem? (i := 556) (by decide +kernel)) rfl⟩
theorem wc_yX7_lateOfTime : Cond.code yX7_lateOfTime mX7_lateOfTime.2.1 mX7_lateOfTime.2.2.1 mX7_lateOfTime.2.2.2 ∈ gt := gt_of (List.mem_of_getElem? (i := 560) (by decide +kernel)) rfl
theorem mf_yX7_lateOfTime : jmf yX7_lateOfTime mX7_lateOfTime 4 := ⟨wc_yX7_lateOfTime, wi_X7, by decide, by decide, by decide +kernel⟩
theorem mS_yX7_lateOfTime : Cond.static yX7_lateOfTime ∈ gt := gt_of (List.mem_of_getElem? (i := 559) (by decide +kernel)) rfl
theorem wc_yX7_bent : Cond.code yX7_bent mX7_bent.2.1 mX7_bent.2.2.1 mX7_bent.2.2.2 ∈ gt := gt_of (List.mem_of_getElem? (i := 564) (by decide +kernel)) rfl
theorem mf_yX7_bent : jmf yX7_bent mX7_bent 6 := ⟨wc_yX7_bent, wi_X7, by decide, by decide, by decide +kernel⟩
theorem mI_yX7_bent : Cond.instanceMethod yX7_bent ∈ gt := gt_of (List.mem_of_getElem? (i := 562) (by decide +kernel)) rfl
theorem mi_yX7_bent : jmi yX7_bent := ⟨mI_yX7_bent, gt_of (List.mem_of_getElem? (i := 563) (by decide +kernel)) rfl⟩
theorem wc_yX7_rule : Cond.code yX7_rule mX7_rule.2.1 mX7_rule.2.2.1 mX7_rule.2.2.2 ∈ gt := gt_of (List.mem_of_getElem? (i := 568) (by decide +kernel)) rfl
theorem mf_yX7_rule : jmf yX7_rule mX7_rule 4 := ⟨wc_yX7_rule, wi_X7, by decide, by decide, by decide +kernel⟩
theorem mI_yX7_rule : Cond.instanceMethod yX7_rule ∈ gt := gt_of (List.mem_of_getElem? (i := 566) (by decide +kernel)) rfl
theorem mi_yX7_rule : jmi yX7_rule := ⟨mI_yX7_rule, gt_of (List.mem_of_getElem? (i := 567) (by decide +kernel)) rfl⟩
theorem wc_yX5_init : Cond.code yX5_init mX5_init.2.1 mX5_init.2.2.1 mX5_init.2.2.2 ∈ gt := gt_of (List.mem_of_getElem? (i := 572) (by decide +kernel)) rfl
theorem wi_X5 : Cond.initialized RX5 ∈ gt := gt_of (List.mem_of_getElem? (i := 73) (by decide +kernel)) rfl
theorem mf_yX5_init : jmf yX5_init mX5_init 4 := ⟨wc_yX5_init, wi_X5, by decide, by decide, by decide +kernel⟩
theorem mI_yX5_init : Cond.instanceMethod yX5_init ∈ gt := gt_of (List.mem_of_getElem? (i := 571) (by decide +kernel)) rfl
theorem wc_yX7_classOf : Cond.code yX7_classOf mX7_classOf.2.1 mX7_classOf.2.2.1 mX7_classOf.2.2.2 ∈ gt := gt_of (List.mem_of_getElem? (i := 591) (by decide +kernel)) rfl
theorem mf_yX7_classOf : jmf yX7_classOf mX7_classOf 1 := ⟨wc_yX7_classOf, wi_X7, by decide, by decide, by decide +kernel⟩
theorem mI_yX7_classOf : Cond.instanceMethod yX7_classOf ∈ gt := gt_of (List.mem_of_getElem? (i := 589) (by decide +kernel)) rfl
theorem mi_yX7_classOf : jmi yX7_classOf := ⟨mI_yX7_classOf, gt_of (List.mem_of_getElem? (i := 590) (by decide +kernel)) rfl⟩
theorem wc_yX7_classOfCurve : Cond.code yX7_classOfCurve mX7_classOfCurve.2.1 mX7_classOfCurve.2.2.1 mX7_classOfCurve.2.2.2 ∈ gt := gt_of (List.mem_of_getElem? (i := 595) (by decide +kernel)) rfl
theorem mf_yX7_classOfCurve : jmf yX7_classOfCurve mX7_classOfCurve 0 := ⟨wc_yX7_classOfCurve, wi_X7, by decide, by decide, by decide +kernel⟩
theorem mI_yX7_classOfCurve : Cond.instanceMethod yX7_classOfCurve ∈ gt := gt_of (List.mem_of_getElem? (i := 594) (by decide +kernel)) rfl
theorem mi_yX7_classOfCurve : jmi yX7_classOfCurve := ⟨mI_yX7_classOfCurve, gt_of (List.mem_of_getElem? (i := 36) (by decide +kernel)) rfl⟩
theorem wc_yX5_fits : Cond.code yX5_fits mX5_fits.2.1 mX5_fits.2.2.1 mX5_fits.2.2.2 ∈ gt := gt_of (List.mem_of_getElem? (i := 599) (by decide +kernel)) rfl
theorem mf_yX5_fits : jmf yX5_fits mX5_fits 1 := ⟨wc_yX5_fits, wi_X5, by decide, by decide, by decide +kernel⟩
theorem mI_yX5_fits : Cond.instanceMethod yX5_fits ∈ gt := gt_of (List.mem_of_getElem? (i := 598) (by decide +kernel)) rfl
theorem mi_yX5_fits : jmi yX5_fits := ⟨mI_yX5_fits, gt_of (List.mem_of_getElem? (i := 37) (by decide +kernel)) rfl⟩
theorem wc_yX7_watch : Cond.code yX7_watch mX7_watch.2.1 mX7_watch.2.2.1 mX7_watch.2.2.2 ∈ gt := gt_of (List.mem_of_getElem? (i := 603) (by decide +kernel)) rfl
theorem mf_yX7_watch : jmf yX7_watch mX7_watch 0 := ⟨wc_yX7_watch, wi_X7, by decide, by decide, by decide +kernel⟩
theorem mI_yX7_watch : Cond.instanceMethod yX7_watch ∈ gt := gt_of (List.mem_of_getElem? (i := 601) (by decide +kernel)) rfl
theorem mi_yX7_watch : jmi yX7_watch := ⟨mI_yX7_watch, gt_of (List.mem_of_getElem? (i := 602) (by decide +kernel)) rfl⟩
theorem wc_yX7_alarms : Cond.code yX7_alarms mX7_alarms.2.1 mX7_alarms.2.2.1 mX7_alarms.2.2.2 ∈ gt := gt_of (List.mem_of_getElem? (i := 607) (by decide +kernel)) rfl
theorem mf_yX7_alarms : jmf yX7_alarms mX7_alarms 0 := ⟨wc_yX7_alarms, wi_X7, by decide, by decide, by decide +kernel⟩
theorem mI_yX7_alarms : Cond.instanceMethod yX7_alarms ∈ gt := gt_of (List.mem_of_getElem? (i := 605) (by decide +kernel)) rfl
theorem mi_yX7_alarms : jmi yX7_alarms := ⟨mI_yX7_alarms, gt_of (List.mem_of_getElem? (i := 606) (by decide +kernel)) rfl⟩
theorem wc_yX7_asked : Cond.code yX7_asked mX7_asked.2.1 mX7_asked.2.2.1 mX7_asked.2.2.2 ∈ gt := gt_of (List.mem_of_getElem? (i := 611) (by decide +kernel)) rfl
theorem mf_yX7_asked : jmf yX7_asked mX7_asked 0 := ⟨wc_yX7_asked, wi_X7, by decide, by decide, by decide +kernel⟩
theorem mI_yX7_asked : Cond.instanceMethod yX7_asked ∈ gt := gt_of (List.mem_of_getElem? (i := 609) (by decide +kernel)) rfl
theorem mi_yX7_asked : jmi yX7_asked := ⟨mI_yX7_asked, gt_of (List.mem_of_getElem? (i := 610) (by decide +kernel)) rfl⟩
theorem wc_yX7_count : Cond.code yX7_count mX7_count.2.1 mX7_count.2.2.1 mX7_count.2.2.2 ∈ gt := gt_of (List.mem_of_getElem? (i := 615) (by decide +kernel)) rfl
theorem mf_yX7_count : jmf yX7_count mX7_count 1 := ⟨wc_yX7_count, wi_X7, by decide, by decide, by decide +kernel⟩
theorem mI_yX7_count : Cond.instanceMethod yX7_count ∈ gt := gt_of (List.mem_of_getElem? (i := 613) (by decide +kernel)) rfl
theorem mi_yX7_count : jmi yX7_count := ⟨mI_yX7_count, gt_of (List.mem_of_getElem? (i := 614) (by decide +kernel)) rfl⟩
theorem wc_yX7_countOfRows : Cond.code yX7_countOfRows mX7_countOfRows.2.1 mX7_countOfRows.2.2.1 mX7_countOfRows.2.2.2 ∈ gt := gt_of (List.mem_of_getElem? (i := 619) (by decide +kernel)) rfl
theorem mf_yX7_countOfRows : jmf yX7_countOfRows mX7_countOfRows 0 := ⟨wc_yX7_countOfRows, wi_X7, by decide, by decide, by decide +kernel⟩
theorem mI_yX7_countOfRows : Cond.instanceMethod yX7_countOfRows ∈ gt := gt_of (List.mem_of_getElem? (i := 618) (by decide +kernel)) rfl
theorem mi_yX7_countOfRows : jmi yX7_countOfRows := ⟨mI_yX7_countOfRows, gt_of (List.mem_of_getElem? (i := 38) (by decide +kernel)) rfl⟩
theorem wc_yX7_countOfLights : Cond.code yX7_countOfLights mX7_countOfLights.2.1 mX7_countOfLights.2.2.1 mX7_countOfLights.2.2.2 ∈ gt := gt_of (List.mem_of_getElem? (i := 623) (by decide +kernel)) rfl
theorem mf_yX7_countOfLights : jmf yX7_countOfLights mX7_countOfLights 0 := ⟨wc_yX7_countOfLights, wi_X7, by decide, by decide, by decide +kernel⟩
theorem mI_yX7_countOfLights : Cond.instanceMethod yX7_countOfLights ∈ gt := gt_of (List.mem_of_getElem? (i := 622) (by decide +kernel)) rfl
theorem mi_yX7_countOfLights : jmi yX7_countOfLights := ⟨mI_yX7_countOfLights, gt_of (List.mem_of_getElem? (i := 39) (by decide +kernel)) rfl⟩
theorem wc_yX7_finding : Cond.code yX7_finding mX7_finding.2.1 mX7_finding.2.2.1 mX7_finding.2.2.2 ∈ gt := gt_of (List.mem_of_getElem? (i := 627) (by decide +kernel)) rfl
theorem mf_yX7_finding : jmf yX7_finding mX7_finding 0 := ⟨wc_yX7_finding, wi_X7, by decide, by decide, by decide +kernel⟩
theorem mI_yX7_finding : Cond.instanceMethod yX7_finding ∈ gt := gt_of (List.mem_of_getElem? (i := 625) (by decide +kernel)) rfl
theorem mi_yX7_finding : jmi yX7_finding := ⟨mI_yX7_finding, gt_of (List.mem_of_getElem? (i := 626) (by decide +kernel)) rfl⟩
theorem wc_yX7_findings : Cond.code yX7_findings mX7_findings.2.1 mX7_findings.2.2.1 mX7_findings.2.2.2 ∈ gt := gt_of (List.mem_of_getElem? (i := 631) (by decide +kernel)) rfl
theorem mf_yX7_findings : jmf yX7_findings mX7_findings 1 := ⟨wc_yX7_findings, wi_X7, by decide, by decide, by decide +kernel⟩
theorem mI_yX7_findings : Cond.instanceMethod yX7_findings ∈ gt := gt_of (List.mem_of_getElem? (i := 629) (by decide +kernel)) rfl
theorem mi_yX7_findings : jmi yX7_findings := ⟨mI_yX7_findings, gt_of (List.mem_of_getElem? (i := 630) (by decide +kernel)) rfl⟩
theorem wc_yX7_digest : Cond.code yX7_digest mX7_digest.2.1 mX7_digest.2.2.1 mX7_digest.2.2.2 ∈ gt := gt_of (List.mem_of_getElem? (i := 635) (by decide +kernel)) rfl
theorem mf_yX7_digest : jmf yX7_digest mX7_digest 0 := ⟨wc_yX7_digest, wi_X7, by decide, by decide, by decide +kernel⟩
theorem mI_yX7_digest : Cond.instanceMethod yX7_digest ∈ gt := gt_of (List.mem_of_getElem? (i := 633) (by decide +kernel)) rfl
theorem mi_yX7_digest : jmi yX7_digest := ⟨mI_yX7_digest, gt_of (List.mem_of_getElem? (i := 634) (by decide +kernel)) rfl⟩
theorem wc_yX6_digestOnto : Cond.code yX6_digestOnto mX6_digestOnto.2.1 mX6_digestOnto.2.2.1 mX6_digestOnto.2.2.2 ∈ gt := gt_of (List.mem_of_getElem? (i := 640) (by decide +kernel)) rfl
theorem mf_yX6_digestOnto : jmf yX6_digestOnto mX6_digestOnto 1 := ⟨wc_yX6_digestOnto, wi_X6, by decide, by decide, by decide +kernel⟩
theorem mI_yX6_digestOnto : Cond.instanceMethod yX6_digestOnto ∈ gt := gt_of (List.mem_of_getElem? (i := 639) (by decide +kernel)) rfl
theorem mi_yX6_digestOnto : jmi yX6_digestOnto := ⟨mI_yX6_digestOnto, gt_of (List.mem_of_getElem? (i := 40) (by decide +kernel)) rfl⟩
theorem wc_yX8_init : Cond.code yX8_init mX8_init.2.1 mX8_init.2.2.1 mX8_init.2.2.2 ∈ gt := gt_of (List.mem_of_getElem? (i := 647) (by decide +kernel)) rfl
theorem wi_X8 : Cond.initialized RX8 ∈ gt := gt_of (List.mem_of_getElem? (i := 68) (by decide +kernel)) rfl
theorem mf_yX8_init : jmf yX8_init mX8_init 0 := ⟨wc_yX8_init, wi_X8, by decide, by decide, by decide +kernel⟩
theorem mI_yX8_init : Cond.instanceMethod yX8_init ∈ gt := gt_of (List.mem_of_getElem? (i := 646) (by decide +kernel)) rfl
theorem wc_yX8_star : Cond.code yX8_star mX8_star.2.1 mX8_star.2.2.1 mX8_star.2.2.2 ∈ gt := gt_of (List.mem_of_getElem? (i := 732) (by decide +kernel)) rfl
theorem mf_yX8_star : jmf yX8_star mX8_star 1 := ⟨wc_yX8_star, wi_X8, by decide, by decide, by decide +kernel⟩
theorem mI_yX8_star : Cond.instanceMethod yX8_star ∈ gt := gt_of (List.mem_of_getElem? (i := 730) (by decide +kernel)) rfl
theorem mi_yX8_star : jmi yX8_star := ⟨mI_yX8_star, gt_of (List.mem_of_getElem? (i := 731) (by decide +kernel)) rfl⟩
theorem wc_yX8_in : Cond.code yX8_in mX8_in.2.1 mX8_in.2.2.1 mX8_in.2.2.2 ∈ gt := gt_of (List.mem_of_getElem? (i := 735) (by decide +kernel)) rfl
theorem mf_yX8_in : jmf yX8_in mX8_in 3 := ⟨wc_yX8_in, wi_X8, by decide, by decide, by decide +kernel⟩
theorem mS_yX8_in : Cond.static yX8_in ∈ gt := gt_of (List.mem_of_getElem? (i := 734) (by decide +kernel)) rfl
theorem wc_yX8_is : Cond.code yX8_is mX8_is.2.1 mX8_is.2.2.1 mX8_is.2.2.2 ∈ gt := gt_of (List.mem_of_getElem? (i := 739) (by decide +kernel)) rfl
theorem mf_yX8_is : jmf yX8_is mX8_is 2 := ⟨wc_yX8_is, wi_X8, by decide, by decide, by decide +kernel⟩
theorem mI_yX8_is : Cond.instanceMethod yX8_is ∈ gt := gt_of (List.mem_of_getElem? (i := 737) (by decide +kernel)) rfl
theorem mi_yX8_is : jmi yX8_is := ⟨mI_yX8_is, gt_of (List.mem_of_getElem? (i := 738) (by decide +kernel)) rfl⟩
theorem wc_yX8_isStar : Cond.code yX8_isStar mX8_isStar.2.1 mX8_isStar.2.2.1 mX8_isStar.2.2.2 ∈ gt := gt_of (List.mem_of_getElem? (i := 743) (by decide +kernel)) rfl
theorem mf_yX8_isStar : jmf yX8_isStar mX8_isStar 1 := ⟨wc_yX8_isStar, wi_X8, by decide, by decide, by decide +kernel⟩
theorem mI_yX8_isStar : Cond.instanceMethod yX8_isStar ∈ gt := gt_of (List.mem_of_getElem? (i := 742) (by decide +kernel)) rfl
theorem mi_yX8_isStar : jmi yX8_isStar := ⟨mI_yX8_isStar, gt_of (List.mem_of_getElem? (i := 41) (by decide +kernel)) rfl⟩
theorem wc_yX8_fits : Cond.code yX8_fits mX8_fits.2.1 mX8_fits.2.2.1 mX8_fits.2.2.2 ∈ gt := gt_of (List.mem_of_getElem? (i := 747) (by decide +kernel)) rfl
theorem mf_yX8_fits : jmf yX8_fits mX8_fits 2 := ⟨wc_yX8_fits, wi_X8, by decide, by decide, by decide +kernel⟩
theorem mI_yX8_fits : Cond.instanceMethod yX8_fits ∈ gt := gt_of (List.mem_of_getElem? (i := 746) (by decide +kernel)) rfl
theorem mi_yX8_fits : jmi yX8_fits := ⟨mI_yX8_fits, gt_of (List.mem_of_getElem? (i := 42) (by decide +kernel)) rfl⟩
theorem wc_yX8_mark : Cond.code yX8_mark mX8_mark.2.1 mX8_mark.2.2.1 mX8_mark.2.2.2 ∈ gt := gt_of (List.mem_of_getElem? (i := 751) (by decide +kernel)) rfl
theorem mf_yX8_mark : jmf yX8_mark mX8_mark 2 := ⟨wc_yX8_mark, wi_X8, by decide, by decide, by decide +kernel⟩
theorem mI_yX8_mark : Cond.instanceMethod yX8_mark ∈ gt := gt_of (List.mem_of_getElem? (i := 749) (by decide +kernel)) rfl
theorem mi_yX8_mark : jmi yX8_mark := ⟨mI_yX8_mark, gt_of (List.mem_of_getElem? (i := 750) (by decide +kernel)) rfl⟩
theorem wc_yX8_meets : Cond.code yX8_meets mX8_meets.2.1 mX8_meets.2.2.1 mX8_meets.2.2.2 ∈ gt := gt_of (List.mem_of_getElem? (i := 755) (by decide +kernel)) rfl
theorem mf_yX8_meets : jmf yX8_meets mX8_meets 1 := ⟨wc_yX8_meets, wi_X8, by decide, by decide, by decide +kernel⟩
theorem mI_yX8_meets : Cond.instanceMethod yX8_meets ∈ gt := gt_of (List.mem_of_getElem? (i := 754) (by decide +kernel)) rfl
theorem mi_yX8_meets : jmi yX8_meets := ⟨mI_yX8_meets, gt_of (List.mem_of_getElem? (i := 43) (by decide +kernel)) rfl⟩
theorem wc_yX8_many : Cond.code yX8_many mX8_many.2.1 mX8_many.2.2.1 mX8_many.2.2.2 ∈ gt := gt_of (List.mem_of_getElem? (i := 759) (by decide +kernel)) rfl
theorem mf_yX8_many : jmf yX8_many mX8_many 1 := ⟨wc_yX8_many, wi_X8, by decide, by decide, by decide +kernel⟩
theorem mI_yX8_many : Cond.instanceMethod yX8_many ∈ gt := gt_of (List.mem_of_getElem? (i := 758) (by decide +kernel)) rfl
theorem mi_yX8_many : jmi yX8_many := ⟨mI_yX8_many, gt_of (List.mem_of_getElem? (i := 44) (by decide +kernel)) rfl⟩
theorem wc_yX8_has : Cond.code yX8_has mX8_has.2.1 mX8_has.2.2.1 mX8_has.2.2.2 ∈ gt := gt_of (List.mem_of_getElem? (i := 763) (by decide +kernel)) rfl
theorem mf_yX8_has : jmf yX8_has mX8_has 2 := ⟨wc_yX8_has, wi_X8, by decide, by decide, by decide +kernel⟩
theorem mI_yX8_has : Cond.instanceMethod yX8_has ∈ gt := gt_of (List.mem_of_getElem? (i := 762) (by decide +kernel)) rfl
theorem mi_yX8_has : jmi yX8_has := ⟨mI_yX8_has, gt_of (List.mem_of_getElem? (i := 45) (by decide +kernel)) rfl⟩
theorem wc_yX8_swing : Cond.code yX8_swing mX8_swing.2.1 mX8_swing.2.2.1 mX8_swing.2.2.2 ∈ gt := gt_of (List.mem_of_getElem? (i := 767) (by decide +kernel)) rfl
theorem mf_yX8_swing : jmf yX8_swing mX8_swing 1 := ⟨wc_yX8_swing, wi_X8, by decide, by decide, by decide +kernel⟩
theorem mI_yX8_swing : Cond.instanceMethod yX8_swing ∈ gt := gt_of (List.mem_of_getElem? (i := 766) (by decide +kernel)) rfl
theorem mi_yX8_swing : jmi yX8_swing := ⟨mI_yX8_swing, gt_of (List.mem_of_getElem? (i := 46) (by decide +kernel)) rfl⟩
theorem wc_yX8_lightOf : Cond.code yX8_lightOf mX8_lightOf.2.1 mX8_lightOf.2.2.1 mX8_lightOf.2.2.2 ∈ gt := gt_of (List.mem_of_getElem? (i := 771) (by decide +kernel)) rfl
theorem mf_yX8_lightOf : jmf yX8_lightOf mX8_lightOf 2 := ⟨wc_yX8_lightOf, wi_X8, by decide, by decide, by decide +kernel⟩
theorem mI_yX8_lightOf : Cond.instanceMethod yX8_lightOf ∈ gt := gt_of (List.mem_of_getElem? (i := 770) (by decide +kernel)) rfl
theorem mi_yX8_lightOf : jmi yX8_lightOf := ⟨mI_yX8_lightOf, gt_of (List.mem_of_getElem? (i := 47) (by decide +kernel)) rfl⟩
theorem wc_yX8_setLows : Cond.code yX8_setLows mX8_setLows.2.1 mX8_setLows.2.2.1 mX8_setLows.2.2.2 ∈ gt := gt_of (List.mem_of_getElem? (i := 775) (by decide +kernel)) rfl
theorem mf_yX8_setLows : jmf yX8_setLows mX8_setLows 2 := ⟨wc_yX8_setLows, wi_X8, by decide, by decide, by decide +kernel⟩
theorem mI_yX8_setLows : Cond.instanceMethod yX8_setLows ∈ gt := gt_of (List.mem_of_getElem? (i := 774) (by decide +kernel)) rfl
theorem mi_yX8_setLows : jmi yX8_setLows := ⟨mI_yX8_setLows, gt_of (List.mem_of_getElem? (i := 48) (by decide +kernel)) rfl⟩
theorem wc_yX8_middle : Cond.code yX8_middle mX8_middle.2.1 mX8_middle.2.2.1 mX8_middle.2.2.2 ∈ gt := gt_of (List.mem_of_getElem? (i := 779) (by decide +kernel)) rfl
theorem mf_yX8_middle : jmf yX8_middle mX8_middle 2 := ⟨wc_yX8_middle, wi_X8, by decide, by decide, by decide +kernel⟩
theorem mI_yX8_middle : Cond.instanceMethod yX8_middle ∈ gt := gt_of (List.mem_of_getElem? (i := 778) (by decide +kernel)) rfl
theorem mi_yX8_middle : jmi yX8_middle := ⟨mI_yX8_middle, gt_of (List.mem_of_getElem? (i := 49) (by decide +kernel)) rfl⟩
theorem wc_yX8_sort : Cond.code yX8_sort mX8_sort.2.1 mX8_sort.2.2.1 mX8_sort.2.2.2 ∈ gt := gt_of (List.mem_of_getElem? (i := 783) (by decide +kernel)) rfl
theorem mf_yX8_sort : jmf yX8_sort mX8_sort 2 := ⟨wc_yX8_sort, wi_X8, by decide, by decide, by decide +kernel⟩
theorem mI_yX8_sort : Cond.instanceMethod yX8_sort ∈ gt := gt_of (List.mem_of_getElem? (i := 782) (by decide +kernel)) rfl
theorem mi_yX8_sort : jmi yX8_sort := ⟨mI_yX8_sort, gt_of (List.mem_of_getElem? (i := 50) (by decide +kernel)) rfl⟩
theorem wc_yX8_row : Cond.code yX8_row mX8_row.2.1 mX8_row.2.2.1 mX8_row.2.2.2 ∈ gt := gt_of (List.mem_of_getElem? (i := 787) (by decide +kernel)) rfl
theorem mf_yX8_row : jmf yX8_row mX8_row 1 := ⟨wc_yX8_row, wi_X8, by decide, by decide, by decide +kernel⟩
theorem mI_yX8_row : Cond.instanceMethod yX8_row ∈ gt := gt_of (List.mem_of_getElem? (i := 785) (by decide +kernel)) rfl
theorem mi_yX8_row : jmi yX8_row := ⟨mI_yX8_row, gt_of (List.mem_of_getElem? (i := 786) (by decide +kernel)) rfl⟩
theorem wc_yX8_lay : Cond.code yX8_lay mX8_lay.2.1 mX8_lay.2.2.1 mX8_lay.2.2.2 ∈ gt := gt_of (List.mem_of_getElem? (i := 791) (by decide +kernel)) rfl
theorem mf_yX8_lay : jmf yX8_lay mX8_lay 3 := ⟨wc_yX8_lay, wi_X8, by decide, by decide, by decide +kernel⟩
theorem mI_yX8_lay : Cond.instanceMethod yX8_lay ∈ gt := gt_of (List.mem_of_getElem? (i := 789) (by decide +kernel)) rfl
theorem mi_yX8_lay : jmi yX8_lay := ⟨mI_yX8_lay, gt_of (List.mem_of_getElem? (i := 790) (by decide +kernel)) rfl⟩
theorem wc_yX8_looked : Cond.code yX8_looked mX8_looked.2.1 mX8_looked.2.2.1 mX8_looked.2.2.2 ∈ gt := gt_of (List.mem_of_getElem? (i := 795) (by decide +kernel)) rfl
theorem mf_yX8_looked : jmf yX8_looked mX8_looked 1 := ⟨wc_yX8_looked, wi_X8, by decide, by decide, by decide +kernel⟩
theorem mI_yX8_looked : Cond.instanceMethod yX8_looked ∈ gt := gt_of (List.mem_of_getElem? (i := 794) (by decide +kernel)) rfl
theorem mi_yX8_looked : jmi yX8_looked := ⟨mI_yX8_looked, gt_of (List.mem_of_getElem? (i := 51) (by decide +kernel)) rfl⟩
theorem wc_yX8_isNight : Cond.code yX8_isNight mX8_isNight.2.1 mX8_isNight.2.2.1 mX8_isNight.2.2.2 ∈ gt := gt_of (List.mem_of_getElem? (i := 798) (by decide +kernel)) rfl
theorem mf_yX8_isNight : jmf yX8_isNight mX8_isNight 1 := ⟨wc_yX8_isNight, wi_X8, by decide, by decide, by decide +kernel⟩
theorem mS_yX8_isNight : Cond.static yX8_isNight ∈ gt := gt_of (List.mem_of_getElem? (i := 797) (by decide +kernel)) rfl
theorem wc_yX8_at : Cond.code yX8_at mX8_at.2.1 mX8_at.2.2.1 mX8_at.2.2.2 ∈ gt := gt_of (List.mem_of_getElem? (i := 802) (by decide +kernel)) rfl
theorem mf_yX8_at : jmf yX8_at mX8_at 2 := ⟨wc_yX8_at, wi_X8, by decide, by decide, by decide +kernel⟩
theorem mI_yX8_at : Cond.instanceMethod yX8_at ∈ gt := gt_of (List.mem_of_getElem? (i := 800) (by decide +kernel)) rfl
theorem mi_yX8_at : jmi yX8_at := ⟨mI_yX8_at, gt_of (List.mem_of_getElem? (i := 801) (by decide +kernel)) rfl⟩
theorem wc_yX8_light : Cond.code yX8_light mX8_light.2.1 mX8_light.2.2.1 mX8_light.2.2.2 ∈ gt := gt_of (List.mem_of_getElem? (i := 806) (by decide +kernel)) rfl
theorem mf_yX8_light : jmf yX8_light mX8_light 2 := ⟨wc_yX8_light, wi_X8, by decide, by decide, by decide +kernel⟩
theorem mI_yX8_light : Cond.instanceMethod yX8_light ∈ gt := gt_of (List.mem_of_getElem? (i := 804) (by decide +kernel)) rfl
theorem mi_yX8_light : jmi yX8_light := ⟨mI_yX8_light, gt_of (List.mem_of_getElem? (i := 805) (by decide +kernel)) rfl⟩
theorem wc_yX8_tell : Cond.code yX8_tell mX8_tell.2.1 mX8_tell.2.2.1 mX8_tell.2.2.2 ∈ gt := gt_of (List.mem_of_getElem? (i := 810) (by decide +kernel)) rfl
theorem mf_yX8_tell : jmf yX8_tell mX8_tell 1 := ⟨wc_yX8_tell, wi_X8, by decide, by decide, by decide +kernel⟩
theorem mI_yX8_tell : Cond.instanceMethod yX8_tell ∈ gt := gt_of (List.mem_of_getElem? (i := 809) (by decide +kernel)) rfl
theorem mi_yX8_tell : jmi yX8_tell := ⟨mI_yX8_tell, gt_of (List.mem_of_getElem? (i := 52) (by decide +kernel)) rfl⟩
theorem wc_yX8_tear : Cond.code yX8_tear mX8_tear.2.1 mX8_tear.2.2.1 mX8_tear.2.2.2 ∈ gt := gt_of (List.mem_of_getElem? (i := 814) (by decide +kernel)) rfl
theorem mf_yX8_tear : jmf yX8_tear mX8_tear 1 := ⟨wc_yX8_tear, wi_X8, by decide, by decide, by decide +kernel⟩
theorem mI_yX8_tear : Cond.instanceMethod yX8_tear ∈ gt := gt_of (List.mem_of_getElem? (i := 812) (by decide +kernel)) rfl
theorem mi_yX8_tear : jmi yX8_tear := ⟨mI_yX8_tear, gt_of (List.mem_of_getElem? (i := 813) (by decide +kernel)) rfl⟩
theorem wc_yX8_copy : Cond.code yX8_copy mX8_copy.2.1 mX8_copy.2.2.1 mX8_copy.2.2.2 ∈ gt := gt_of (List.mem_of_getElem? (i := 818) (by decide +kernel)) rfl
theorem mf_yX8_copy : jmf yX8_copy mX8_copy 5 := ⟨wc_yX8_copy, wi_X8, by decide, by decide, by decide +kernel⟩
theorem mI_yX8_copy : Cond.instanceMethod yX8_copy ∈ gt := gt_of (List.mem_of_getElem? (i := 816) (by decide +kernel)) rfl
theorem mi_yX8_copy : jmi yX8_copy := ⟨mI_yX8_copy, gt_of (List.mem_of_getElem? (i := 817) (by decide +kernel)) rfl⟩
theorem wc_yX8_foot : Cond.code yX8_foot mX8_foot.2.1 mX8_foot.2.2.1 mX8_foot.2.2.2 ∈ gt := gt_of (List.mem_of_getElem? (i := 823) (by decide +kernel)) rfl
theorem mf_yX8_foot : jmf yX8_foot mX8_foot 2 := ⟨wc_yX8_foot, wi_X8, by decide, by decide, by decide +kernel⟩
theorem mI_yX8_foot : Cond.instanceMethod yX8_foot ∈ gt := gt_of (List.mem_of_getElem? (i := 821) (by decide +kernel)) rfl
theorem mi_yX8_foot : jmi yX8_foot := ⟨mI_yX8_foot, gt_of (List.mem_of_getElem? (i := 822) (by decide +kernel)) rfl⟩
theorem wc_yX8_footing : Cond.code yX8_footing mX8_footing.2.1 mX8_footing.2.2.1 mX8_footing.2.2.2 ∈ gt := gt_of (List.mem_of_getElem? (i := 827) (by decide +kernel)) rfl
theorem mf_yX8_footing : jmf yX8_footing mX8_footing 1 := ⟨wc_yX8_footing, wi_X8, by decide, by decide, by decide +kernel⟩
theorem mI_yX8_footing : Cond.instanceMethod yX8_footing ∈ gt := gt_of (List.mem_of_getElem? (i := 825) (by decide +kernel)) rfl
theorem mi_yX8_footing : jmi yX8_footing := ⟨mI_yX8_footing, gt_of (List.mem_of_getElem? (i := 826) (by decide +kernel)) rfl⟩
theorem wc_yX8_level : Cond.code yX8_level mX8_level.2.1 mX8_level.2.2.1 mX8_level.2.2.2 ∈ gt := gt_of (List.mem_of_getElem? (i := 831) (by decide +kernel)) rfl
theorem mf_yX8_level : jmf yX8_level mX8_level 0 := ⟨wc_yX8_level, wi_X8, by decide, by decide, by decide +kernel⟩
theorem mI_yX8_level : Cond.instanceMethod yX8_level ∈ gt := gt_of (List.mem_of_getElem? (i := 829) (by decide +kernel)) rfl
theorem mi_yX8_level : jmi yX8_level := ⟨mI_yX8_level, gt_of (List.mem_of_getElem? (i := 830) (by decide +kernel)) rfl⟩
theorem wc_yX8_levelOf : Cond.code yX8_levelOf mX8_levelOf.2.1 mX8_levelOf.2.2.1 mX8_levelOf.2.2.2 ∈ gt := gt_of (List.mem_of_getElem? (i := 835) (by decide +kernel)) rfl
theorem mf_yX8_levelOf : jmf yX8_levelOf mX8_levelOf 1 := ⟨wc_yX8_levelOf, wi_X8, by decide, by decide, by decide +kernel⟩
theorem mI_yX8_levelOf : Cond.instanceMethod yX8_levelOf ∈ gt := gt_of (List.mem_of_getElem? (i := 833) (by decide +kernel)) rfl
theorem mi_yX8_levelOf : jmi yX8_levelOf := ⟨mI_yX8_levelOf, gt_of (List.mem_of_getElem? (i := 834) (by decide +kernel)) rfl⟩
theorem wc_yX8_mean : Cond.code yX8_mean mX8_mean.2.1 mX8_mean.2.2.1 mX8_mean.2.2.2 ∈ gt := gt_of (List.mem_of_getElem? (i := 839) (by decide +kernel)) rfl
theorem mf_yX8_mean : jmf yX8_mean mX8_mean 1 := ⟨wc_yX8_mean, wi_X8, by decide, by decide, by decide +kernel⟩
theorem mI_yX8_mean : Cond.instanceMethod yX8_mean ∈ gt := gt_of (List.mem_of_getElem? (i := 837) (by decide +kernel)) rfl
theorem mi_yX8_mean : jmi yX8_mean := ⟨mI_yX8_mean, gt_of (List.mem_of_getElem? (i := 838) (by decide +kernel)) rfl⟩
theorem wc_yX8_phase : Cond.code yX8_phase mX8_phase.2.1 mX8_phase.2.2.1 mX8_phase.2.2.2 ∈ gt := gt_of (List.mem_of_getElem? (i := 843) (by decide +kernel)) rfl
theorem mf_yX8_phase : jmf yX8_phase mX8_phase 3 := ⟨wc_yX8_phase, wi_X8, by decide, by decide, by decide +kernel⟩
theorem mI_yX8_phase : Cond.instanceMethod yX8_phase ∈ gt := gt_of (List.mem_of_getElem? (i := 841) (by decide +kernel)) rfl
theorem mi_yX8_phase : jmi yX8_phase := ⟨mI_yX8_phase, gt_of (List.mem_of_getElem? (i := 842) (by decide +kernel)) rfl⟩
theorem wc_yX8_isPeriod : Cond.code yX8_isPeriod mX8_isPeriod.2.1 mX8_isPeriod.2.2.1 mX8_isPeriod.2.2.2 ∈ gt := gt_of (List.mem_of_getElem? (i := 846) (by decide +kernel)) rfl
theorem mf_yX8_isPeriod : jmf yX8_isPeriod mX8_isPeriod 1 := ⟨wc_yX8_isPeriod, wi_X8, by decide, by decide, by decide +kernel⟩
theorem mS_yX8_isPeriod : Cond.static yX8_isPeriod ∈ gt := gt_of (List.mem_of_getElem? (i := 845) (by decide +kernel)) rfl
theorem wc_yX8_isPart : Cond.code yX8_isPart mX8_isPart.2.1 mX8_isPart.2.2.1 mX8_isPart.2.2.2 ∈ gt := gt_of (List.mem_of_getElem? (i := 849) (by decide +kernel)) rfl
theorem mf_yX8_isPart : jmf yX8_isPart mX8_isPart 1 := ⟨wc_yX8_isPart, wi_X8, by decide, by decide, by decide +kernel⟩
theorem mS_yX8_isPart : Cond.static yX8_isPart ∈ gt := gt_of (List.mem_of_getElem? (i := 848) (by decide +kernel)) rfl
theorem wc_yX8_string : Cond.code yX8_string mX8_string.2.1 mX8_string.2.2.1 mX8_string.2.2.2 ∈ gt := gt_of (List.mem_of_getElem? (i := 853) (by decide +kernel)) rfl
theorem mf_yX8_string : jmf yX8_string mX8_string 3 := ⟨wc_yX8_string, wi_X8, by decide, by decide, by decide +kernel⟩
theorem mI_yX8_string : Cond.instanceMethod yX8_string ∈ gt := gt_of (List.mem_of_getElem? (i := 851) (by decide +kernel)) rfl
theorem mi_yX8_string : jmi yX8_string := ⟨mI_yX8_string, gt_of (List.mem_of_getElem? (i := 852) (by decide +kernel)) rfl⟩
theorem wc_yX8_stringOf : Cond.code yX8_stringOf mX8_stringOf.2.1 mX8_stringOf.2.2.1 mX8_stringOf.2.2.2 ∈ gt := gt_of (List.mem_of_getElem? (i := 857) (by decide +kernel)) rfl
theorem mf_yX8_stringOf : jmf yX8_stringOf mX8_stringOf 3 := ⟨wc_yX8_stringOf, wi_X8, by decide, by decide, by decide +kernel⟩
theorem mI_yX8_stringOf : Cond.instanceMethod yX8_stringOf ∈ gt := gt_of (List.mem_of_getElem? (i := 856) (by decide +kernel)) rfl
theorem mi_yX8_stringOf : jmi yX8_stringOf := ⟨mI_yX8_stringOf, gt_of (List.mem_of_getElem? (i := 53) (by decide +kernel)) rfl⟩
theorem wc_yX8_period : Cond.code yX8_period mX8_period.2.1 mX8_period.2.2.1 mX8_period.2.2.2 ∈ gt := gt_of (List.mem_of_getElem? (i := 861) (by decide +kernel)) rfl
theorem mf_yX8_period : jmf yX8_period mX8_period 4 := ⟨wc_yX8_period, wi_X8, by decide, by decide, by decide +kernel⟩
theorem mI_yX8_period : Cond.instanceMethod yX8_period ∈ gt := gt_of (List.mem_of_getElem? (i := 859) (by decide +kernel)) rfl
theorem mi_yX8_period : jmi yX8_period := ⟨mI_yX8_period, gt_of (List.mem_of_getElem? (i := 860) (by decide +kernel)) rfl⟩
theorem wc_yX8_bestOf : Cond.code yX8_bestOf mX8_bestOf.2.1 mX8_bestOf.2.2.1 mX8_bestOf.2.2.2 ∈ gt := gt_of (List.mem_of_getElem? (i := 865) (by decide +kernel)) rfl
theorem mf_yX8_bestOf : jmf yX8_bestOf mX8_bestOf 4 := ⟨wc_yX8_bestOf, wi_X8, by decide, by decide, by decide +kernel⟩
theorem mI_yX8_bestOf : Cond.instanceMethod yX8_bestOf ∈ gt := gt_of (List.mem_of_getElem? (i := 864) (by decide +kernel)) rfl
theorem mi_yX8_bestOf : jmi yX8_bestOf := ⟨mI_yX8_bestOf, gt_of (List.mem_of_getElem? (i := 54) (by decide +kernel)) rfl⟩
theorem wc_yX8_asWell : Cond.code yX8_asWell mX8_asWell.2.1 mX8_asWell.2.2.1 mX8_asWell.2.2.2 ∈ gt := gt_of (List.mem_of_getElem? (i := 869) (by decide +kernel)) rfl
theorem mf_yX8_asWell : jmf yX8_asWell mX8_asWell 5 := ⟨wc_yX8_asWell, wi_X8, by decide, by decide, by decide +kernel⟩
theorem mI_yX8_asWell : Cond.instanceMethod yX8_asWell ∈ gt := gt_of (List.mem_of_getElem? (i := 867) (by decide +kernel)) rfl
theorem mi_yX8_asWell : jmi yX8_asWell := ⟨mI_yX8_asWell, gt_of (List.mem_of_getElem? (i := 868) (by decide +kernel)) rfl⟩
theorem wc_yX8_depth : Cond.code yX8_depth mX8_depth.2.1 mX8_depth.2.2.1 mX8_depth.2.2.2 ∈ gt := gt_of (List.mem_of_getElem? (i := 874) (by decide +kernel)) rfl
theorem mf_yX8_depth : jmf yX8_depth mX8_depth 4 := ⟨wc_yX8_depth, wi_X8, by decide, by decide, by decide +kernel⟩
theorem mI_yX8_depth : Cond.instanceMethod yX8_depth ∈ gt := gt_of (List.mem_of_getElem? (i := 872) (by decide +kernel)) rfl
theorem mi_yX8_depth : jmi yX8_depth := ⟨mI_yX8_depth, gt_of (List.mem_of_getElem? (i := 873) (by decide +kernel)) rfl⟩
theorem wc_yX8_dips : Cond.code yX8_dips mX8_dips.2.1 mX8_dips.2.2.1 mX8_dips.2.2.2 ∈ gt := gt_of (List.mem_of_getElem? (i := 878) (by decide +kernel)) rfl
theorem mf_yX8_dips : jmf yX8_dips mX8_dips 4 := ⟨wc_yX8_dips, wi_X8, by decide, by decide, by decide +kernel⟩
theorem mI_yX8_dips : Cond.instanceMethod yX8_dips ∈ gt := gt_of (List.mem_of_getElem? (i := 877) (by decide +kernel)) rfl
theorem mi_yX8_dips : jmi yX8_dips := ⟨mI_yX8_dips, gt_of (List.mem_of_getElem? (i := 55) (by decide +kernel)) rfl⟩
theorem wc_yX8_dip : Cond.code yX8_dip mX8_dip.2.1 mX8_dip.2.2.1 mX8_dip.2.2.2 ∈ gt := gt_of (List.mem_of_getElem? (i := 882) (by decide +kernel)) rfl
theorem mf_yX8_dip : jmf yX8_dip mX8_dip 3 := ⟨wc_yX8_dip, wi_X8, by decide, by decide, by decide +kernel⟩
theorem mI_yX8_dip : Cond.instanceMethod yX8_dip ∈ gt := gt_of (List.mem_of_getElem? (i := 880) (by decide +kernel)) rfl
theorem mi_yX8_dip : jmi yX8_dip := ⟨mI_yX8_dip, gt_of (List.mem_of_getElem? (i := 881) (by decide +kernel)) rfl⟩
theorem wc_yX8_dipOf : Cond.code yX8_dipOf mX8_dipOf.2.1 mX8_dipOf.2.2.1 mX8_dipOf.2.2.2 ∈ gt := gt_of (List.mem_of_getElem? (i := 886) (by decide +kernel)) rfl
theorem mf_yX8_dipOf : jmf yX8_dipOf mX8_dipOf 1 := ⟨wc_yX8_dipOf, wi_X8, by decide, by decide, by decide +kernel⟩
theorem mI_yX8_dipOf : Cond.instanceMethod yX8_dipOf ∈ gt := gt_of (List.mem_of_getElem? (i := 884) (by decide +kernel)) rfl
theorem mi_yX8_dipOf : jmi yX8_dipOf := ⟨mI_yX8_dipOf, gt_of (List.mem_of_getElem? (i := 885) (by decide +kernel)) rfl⟩
theorem wc_yX8_lows : Cond.code yX8_lows mX8_lows.2.1 mX8_lows.2.2.1 mX8_lows.2.2.2 ∈ gt := gt_of (List.mem_of_getElem? (i := 890) (by decide +kernel)) rfl
theorem mf_yX8_lows : jmf yX8_lows mX8_lows 2 := ⟨wc_yX8_lows, wi_X8, by decide, by decide, by decide +kernel⟩
theorem mI_yX8_lows : Cond.instanceMethod yX8_lows ∈ gt := gt_of (List.mem_of_getElem? (i := 888) (by decide +kernel)) rfl
theorem mi_yX8_lows : jmi yX8_lows := ⟨mI_yX8_lows, gt_of (List.mem_of_getElem? (i := 889) (by decide +kernel)) rfl⟩
theorem wc_yX8_lowsOf : Cond.code yX8_lowsOf mX8_lowsOf.2.1 mX8_lowsOf.2.2.1 mX8_lowsOf.2.2.2 ∈ gt := gt_of (List.mem_of_getElem? (i := 894) (by decide +kernel)) rfl
theorem mf_yX8_lowsOf : jmf yX8_lowsOf mX8_lowsOf 2 := ⟨wc_yX8_lowsOf, wi_X8, by decide, by decide, by decide +kernel⟩
theorem mI_yX8_lowsOf : Cond.instanceMethod yX8_lowsOf ∈ gt := gt_of (List.mem_of_getElem? (i := 893) (by decide +kernel)) rfl
theorem mi_yX8_lowsOf : jmi yX8_lowsOf := ⟨mI_yX8_lowsOf, gt_of (List.mem_of_getElem? (i := 56) (by decide +kernel)) rfl⟩
theorem wc_yX8_low : Cond.code yX8_low mX8_low.2.1 mX8_low.2.2.1 mX8_low.2.2.2 ∈ gt := gt_of (List.mem_of_getElem? (i := 898) (by decide +kernel)) rfl
theorem mf_yX8_low : jmf yX8_low mX8_low 3 := ⟨wc_yX8_low, wi_X8, by decide, by decide, by decide +kernel⟩
theorem mI_yX8_low : Cond.instanceMethod yX8_low ∈ gt := gt_of (List.mem_of_getElem? (i := 896) (by decide +kernel)) rfl
theorem mi_yX8_low : jmi yX8_low := ⟨mI_yX8_low, gt_of (List.mem_of_getElem? (i := 897) (by decide +kernel)) rfl⟩
theorem wc_yX8_turn : Cond.code yX8_turn mX8_turn.2.1 mX8_turn.2.2.1 mX8_turn.2.2.2 ∈ gt := gt_of (List.mem_of_getElem? (i := 902) (by decide +kernel)) rfl
theorem mf_yX8_turn : jmf yX8_turn mX8_turn 6 := ⟨wc_yX8_turn, wi_X8, by decide, by decide, by decide +kernel⟩
theorem mI_yX8_turn : Cond.instanceMethod yX8_turn ∈ gt := gt_of (List.mem_of_getElem? (i := 900) (by decide +kernel)) rfl
theorem mi_yX8_turn : jmi yX8_turn := ⟨mI_yX8_turn, gt_of (List.mem_of_getElem? (i := 901) (by decide +kernel)) rfl⟩
theorem wc_yX8_isClock : Cond.code yX8_isClock mX8_isClock.2.1 mX8_isClock.2.2.1 mX8_isClock.2.2.2 ∈ gt := gt_of (List.mem_of_getElem? (i := 905) (by decide +kernel)) rfl
theorem mf_yX8_isClock : jmf yX8_isClock mX8_isClock 3 := ⟨wc_yX8_isClock, wi_X8, by decide, by decide, by decide +kernel⟩
theorem mS_yX8_isClock : Cond.static yX8_isClock ∈ gt := gt_of (List.mem_of_getElem? (i := 904) (by decide +kernel)) rfl
theorem wc_yX8_turnOf : Cond.code yX8_turnOf mX8_turnOf.2.1 mX8_turnOf.2.2.1 mX8_turnOf.2.2.2 ∈ gt := gt_of (List.mem_of_getElem? (i := 909) (by decide +kernel)) rfl
theorem mf_yX8_turnOf : jmf yX8_turnOf mX8_turnOf 4 := ⟨wc_yX8_turnOf, wi_X8, by decide, by decide, by decide +kernel⟩
theorem mI_yX8_turnOf : Cond.instanceMethod yX8_turnOf ∈ gt := gt_of (List.mem_of_getElem? (i := 908) (by decide +kernel)) rfl
theorem mi_yX8_turnOf : jmi yX8_turnOf := ⟨mI_yX8_turnOf, gt_of (List.mem_of_getElem? (i := 57) (by decide +kernel)) rfl⟩
theorem wc_yX8_late : Cond.code yX8_late mX8_late.2.1 mX8_late.2.2.1 mX8_late.2.2.2 ∈ gt := gt_of (List.mem_of_getElem? (i := 916) (by decide +kernel)) rfl
theorem mf_yX8_late : jmf yX8_late mX8_late 6 := ⟨wc_yX8_late, wi_X8, by decide, by decide, by decide +kernel⟩
theorem mI_yX8_late : Cond.instanceMethod yX8_late ∈ gt := gt_of (List.mem_of_getElem? (i := 914) (by decide +kernel)) rfl
theorem mi_yX8_late : jmi yX8_late := ⟨mI_yX8_late, gt_of (List.mem_of_getElem? (i := 915) (by decide +kernel)) rfl⟩
theorem wc_yX8_lateOf : Cond.code yX8_lateOf mX8_lateOf.2.1 mX8_lateOf.2.2.1 mX8_lateOf.2.2.2 ∈ gt := gt_of (List.mem_of_getElem? (i := 920) (by decide +kernel)) rfl
theorem mf_yX8_lateOf : jmf yX8_lateOf mX8_lateOf 4 := ⟨wc_yX8_lateOf, wi_X8, by decide, by decide, by decide +kernel⟩
theorem mI_yX8_lateOf : Cond.instanceMethod yX8_lateOf ∈ gt := gt_of (List.mem_of_getElem? (i := 919) (by decide +kernel)) rfl
theorem mi_yX8_lateOf : jmi yX8_lateOf := ⟨mI_yX8_lateOf, gt_of (List.mem_of_getElem? (i := 58) (by decide +kernel)) rfl⟩
theorem wc_yX8_bent : Cond.code yX8_bent mX8_bent.2.1 mX8_bent.2.2.1 mX8_bent.2.2.2 ∈ gt := gt_of (List.mem_of_getElem? (i := 924) (by decide +kernel)) rfl
theorem mf_yX8_bent : jmf yX8_bent mX8_bent 6 := ⟨wc_yX8_bent, wi_X8, by decide, by decide, by decide +kernel⟩
theorem mI_yX8_bent : Cond.instanceMethod yX8_bent ∈ gt := gt_of (List.mem_of_getElem? (i := 922) (by decide +kernel)) rfl
theorem mi_yX8_bent : jmi yX8_bent := ⟨mI_yX8_bent, gt_of (List.mem_of_getElem? (i := 923) (by decide +kernel)) rfl⟩
theorem wc_yX8_rule : Cond.code yX8_rule mX8_rule.2.1 mX8_rule.2.2.1 mX8_rule.2.2.2 ∈ gt := gt_of (List.mem_of_getElem? (i := 928) (by decide +kernel)) rfl
theorem mf_yX8_rule : jmf yX8_rule mX8_rule 4 := ⟨wc_yX8_rule, wi_X8, by decide, by decide, by decide +kernel⟩
theorem mI_yX8_rule : Cond.instanceMethod yX8_rule ∈ gt := gt_of (List.mem_of_getElem? (i := 926) (by decide +kernel)) rfl
theorem mi_yX8_rule : jmi yX8_rule := ⟨mI_yX8_rule, gt_of (List.mem_of_getElem? (i := 927) (by decide +kernel)) rfl⟩
theorem wc_yX8_classOf : Cond.code yX8_classOf mX8_classOf.2.1 mX8_classOf.2.2.1 mX8_classOf.2.2.2 ∈ gt := gt_of (List.mem_of_getElem? (i := 932) (by decide +kernel)) rfl
theorem mf_yX8_classOf : jmf yX8_classOf mX8_classOf 1 := ⟨wc_yX8_classOf, wi_X8, by decide, by decide, by decide +kernel⟩
theorem mI_yX8_classOf : Cond.instanceMethod yX8_classOf ∈ gt := gt_of (List.mem_of_getElem? (i := 930) (by decide +kernel)) rfl
theorem mi_yX8_classOf : jmi yX8_classOf := ⟨mI_yX8_classOf, gt_of (List.mem_of_getElem? (i := 931) (by decide +kernel)) rfl⟩
theorem wc_yX8_classIs : Cond.code yX8_classIs mX8_classIs.2.1 mX8_classIs.2.2.1 mX8_classIs.2.2.2 ∈ gt := gt_of (List.mem_of_getElem? (i := 936) (by decide +kernel)) rfl
theorem mf_yX8_classIs : jmf yX8_classIs mX8_classIs 1 := ⟨wc_yX8_classIs, wi_X8, by decide, by decide, by decide +kernel⟩
theorem mI_yX8_classIs : Cond.instanceMethod yX8_classIs ∈ gt := gt_of (List.mem_of_getElem? (i := 935) (by decide +kernel)) rfl
theorem mi_yX8_classIs : jmi yX8_classIs := ⟨mI_yX8_classIs, gt_of (List.mem_of_getElem? (i := 59) (by decide +kernel)) rfl⟩
theorem wc_yX8_worth : Cond.code yX8_worth mX8_worth.2.1 mX8_worth.2.2.1 mX8_worth.2.2.2 ∈ gt := gt_of (List.mem_of_getElem? (i := 940) (by decide +kernel)) rfl
theorem mf_yX8_worth : jmf yX8_worth mX8_worth 2 := ⟨wc_yX8_worth, wi_X8, by decide, by decide, by decide +kernel⟩
theorem mI_yX8_worth : Cond.instanceMethod yX8_worth ∈ gt := gt_of (List.mem_of_getElem? (i := 939) (by decide +kernel)) rfl
theorem mi_yX8_worth : jmi yX8_worth := ⟨mI_yX8_worth, gt_of (List.mem_of_getElem? (i := 60) (by decide +kernel)) rfl⟩
theorem wc_yX8_watch : Cond.code yX8_watch mX8_watch.2.1 mX8_watch.2.2.1 mX8_watch.2.2.2 ∈ gt := gt_of (List.mem_of_getElem? (i := 944) (by decide +kernel)) rfl
theorem mf_yX8_watch : jmf yX8_watch mX8_watch 0 := ⟨wc_yX8_watch, wi_X8, by decide, by decide, by decide +kernel⟩
theorem mI_yX8_watch : Cond.instanceMethod yX8_watch ∈ gt := gt_of (List.mem_of_getElem? (i := 942) (by decide +kernel)) rfl
theorem mi_yX8_watch : jmi yX8_watch := ⟨mI_yX8_watch, gt_of (List.mem_of_getElem? (i := 943) (by decide +kernel)) rfl⟩
theorem wc_yX8_alarms : Cond.code yX8_alarms mX8_alarms.2.1 mX8_alarms.2.2.1 mX8_alarms.2.2.2 ∈ gt := gt_of (List.mem_of_getElem? (i := 948) (by decide +kernel)) rfl
theorem mf_yX8_alarms : jmf yX8_alarms mX8_alarms 0 := ⟨wc_yX8_alarms, wi_X8, by decide, by decide, by decide +kernel⟩
theorem mI_yX8_alarms : Cond.instanceMethod yX8_alarms ∈ gt := gt_of (List.mem_of_getElem? (i := 946) (by decide +kernel)) rfl
theorem mi_yX8_alarms : jmi yX8_alarms := ⟨mI_yX8_alarms, gt_of (List.mem_of_getElem? (i := 947) (by decide +kernel)) rfl⟩
theorem wc_yX8_asked : Cond.code yX8_asked mX8_asked.2.1 mX8_asked.2.2.1 mX8_asked.2.2.2 ∈ gt := gt_of (List.mem_of_getElem? (i := 952) (by decide +kernel)) rfl
theorem mf_yX8_asked : jmf yX8_asked mX8_asked 0 := ⟨wc_yX8_asked, wi_X8, by decide, by decide, by decide +kernel⟩
theorem mI_yX8_asked : Cond.instanceMethod yX8_asked ∈ gt := gt_of (List.mem_of_getElem? (i := 950) (by decide +kernel)) rfl
theorem mi_yX8_asked : jmi yX8_asked := ⟨mI_yX8_asked, gt_of (List.mem_of_getElem? (i := 951) (by decide +kernel)) rfl⟩
theorem wc_yX8_count : Cond.code yX8_count mX8_count.2.1 mX8_count.2.2.1 mX8_count.2.2.2 ∈ gt := gt_of (List.mem_of_getElem? (i := 956) (by decide +kernel)) rfl
theorem mf_yX8_count : jmf yX8_count mX8_count 1 := ⟨wc_yX8_count, wi_X8, by decide, by decide, by decide +kernel⟩
theorem mI_yX8_count : Cond.instanceMethod yX8_count ∈ gt := gt_of (List.mem_of_getElem? (i := 954) (by decide +kernel)) rfl
theorem mi_yX8_count : jmi yX8_count := ⟨mI_yX8_count, gt_of (List.mem_of_getElem? (i := 955) (by decide +kernel)) rfl⟩
theorem wc_yX8_finding : Cond.code yX8_finding mX8_finding.2.1 mX8_finding.2.2.1 mX8_finding.2.2.2 ∈ gt := gt_of (List.mem_of_getElem? (i := 960) (by decide +kernel)) rfl
theorem mf_yX8_finding : jmf yX8_finding mX8_finding 0 := ⟨wc_yX8_finding, wi_X8, by decide, by decide, by decide +kernel⟩
theorem mI_yX8_finding : Cond.instanceMethod yX8_finding ∈ gt := gt_of (List.mem_of_getElem? (i := 958) (by decide +kernel)) rfl
theorem mi_yX8_finding : jmi yX8_finding := ⟨mI_yX8_finding, gt_of (List.mem_of_getElem? (i := 959) (by decide +kernel)) rfl⟩
theorem wc_yX8_findings : Cond.code yX8_findings mX8_findings.2.1 mX8_findings.2.2.1 mX8_findings.2.2.2 ∈ gt := gt_of (List.mem_of_getElem? (i := 964) (by decide +kernel)) rfl
theorem mf_yX8_findings : jmf yX8_findings mX8_findings 1 := ⟨wc_yX8_findings, wi_X8, by decide, by decide, by decide +kernel⟩
theorem mI_yX8_findings : Cond.instanceMethod yX8_findings ∈ gt := gt_of (List.mem_of_getElem? (i := 962) (by decide +kernel)) rfl
theorem mi_yX8_findings : jmi yX8_findings := ⟨mI_yX8_findings, gt_of (List.mem_of_getElem? (i := 963) (by decide +kernel)) rfl⟩
theorem wc_yX8_digest : Cond.code yX8_digest mX8_digest.2.1 mX8_digest.2.2.1 mX8_digest.2.2.2 ∈ gt := gt_of (List.mem_of_getElem? (i := 968) (by decide +kernel)) rfl
theorem mf_yX8_digest : jmf yX8_digest mX8_digest 0 := ⟨wc_yX8_digest, wi_X8, by decide, by decide, by decide +kernel⟩
theorem mI_yX8_digest : Cond.instanceMethod yX8_digest ∈ gt := gt_of (List.mem_of_getElem? (i := 966) (by decide +kernel)) rfl
theorem mi_yX8_digest : jmi yX8_digest := ⟨mI_yX8_digest, gt_of (List.mem_of_getElem? (i := 967) (by decide +kernel)) rfl⟩
theorem ml_L_9 : jml RL 9 yX7_init := Or.inl (gt_of (List.mem_of_getElem? (i := 76) (by decide +kernel)) rfl)
theorem wo_X7_1 : Cond.methodLink RX7 1 Lib.objectInit ∈ gt := gt_of (List.mem_of_getElem? (i := 79) (by decide +kernel)) rfl
theorem ml_X7_27 : jml RX7 27 yX1_init := Or.inr ⟨"ChangingStars", nt_of (List.mem_of_getElem? (i := 88) (by decide +kernel)) rfl⟩
theorem wo_X1_3 : Cond.methodLink RX1 3 Lib.objectInit ∈ gt := gt_of (List.mem_of_getElem? (i := 91) (by decide +kernel)) rfl
theorem ml_X7_34 : jml RX7 34 yX0_init := Or.inr ⟨"ChangingStars", nt_of (List.mem_of_getElem? (i := 117) (by decide +kernel)) rfl⟩
theorem wo_X0_3 : Cond.methodLink RX0 3 Lib.objectInit ∈ gt := gt_of (List.mem_of_getElem? (i := 120) (by decide +kernel)) rfl
theorem ml_X7_41 : jml RX7 41 yX3_init := Or.inr ⟨"ChangingStars", nt_of (List.mem_of_getElem? (i := 130) (by decide +kernel)) rfl⟩
theorem wo_X3_3 : Cond.methodLink RX3 3 Lib.objectInit ∈ gt := gt_of (List.mem_of_getElem? (i := 133) (by decide +kernel)) rfl
theorem ml_X7_48 : jml RX7 48 yX4_init := Or.inr ⟨"ChangingStars", nt_of (List.mem_of_getElem? (i := 147) (by decide +kernel)) rfl⟩
theorem wo_X4_3 : Cond.methodLink RX4 3 Lib.objectInit ∈ gt := gt_of (List.mem_of_getElem? (i := 150) (by decide +kernel)) rfl
theorem ml_X7_55 : jml RX7 55 yX2_init := Or.inr ⟨"ChangingStars", nt_of (List.mem_of_getElem? (i := 162) (by decide +kernel)) rfl⟩
theorem wo_X2_3 : Cond.methodLink RX2 3 Lib.objectInit ∈ gt := gt_of (List.mem_of_getElem? (i := 165) (by decide +kernel)) rfl
theorem ml_L_13 : jml RL 13 yX7_star := Or.inl (gt_of (List.mem_of_getElem? (i := 249) (by decide +kernel)) rfl)
theorem ml_X7_69 : jml RX7 69 yX7_isKind := Or.inl (gt_of (List.mem_of_getElem? (i := 253) (by decide +kernel)) rfl)
theorem ml_X7_77 : jml RX7 77 yX6_init := Or.inr ⟨"ChangingStars", nt_of (List.mem_of_getElem? (i := 257) (by decide +kernel)) rfl⟩
theorem wo_X6_3 : Cond.methodLink RX6 3 Lib.objectInit ∈ gt := gt_of (List.mem_of_getElem? (i := 260) (by decide +kernel)) rfl
theorem ml_X6_22 : jml RX6 22 yJ7_fill_53178 := Or.inl (gt_of (List.mem_of_getElem? (i := 261) (by decide +kernel)) rfl)
theorem ml_L_18 : jml RL 18 yX7_is := Or.inl (gt_of (List.mem_of_getElem? (i := 282) (by decide +kernel)) rfl)
theorem ml_X7_80 : jml RX7 80 yX7_starNumbered := Or.inl (gt_of (List.mem_of_getElem? (i := 286) (by decide +kernel)) rfl)
theorem ml_X7_84 : jml RX7 84 yX6_isOfKind := Or.inr ⟨"ChangingStars", nt_of (List.mem_of_getElem? (i := 290) (by decide +kernel)) rfl⟩
theorem ml_L_23 : jml RL 23 yX7_mark := Or.inl (gt_of (List.mem_of_getElem? (i := 294) (by decide +kernel)) rfl)
theorem ml_X7_87 : jml RX7 87 yX7_found := Or.inl (gt_of (List.mem_of_getElem? (i := 298) (by decide +kernel)) rfl)
theorem ml_X7_94 : jml RX7 94 yX7_gatherRow := Or.inl (gt_of (List.mem_of_getElem? (i := 302) (by decide +kernel)) rfl)
theorem ml_X7_119 : jml RX7 119 yX7_lookAtRow := Or.inl (gt_of (List.mem_of_getElem? (i := 306) (by decide +kernel)) rfl)
theorem ml_X7_237 : jml RX7 237 yX1_gather := Or.inr ⟨"ChangingStars", nt_of (List.mem_of_getElem? (i := 310) (by decide +kernel)) rfl⟩
theorem ml_X7_97 : jml RX7 97 yX7_markOfCurve := Or.inl (gt_of (List.mem_of_getElem? (i := 314) (by decide +kernel)) rfl)
theorem ml_X7_284 : jml RX7 284 yX7_measureCurve := Or.inl (gt_of (List.mem_of_getElem? (i := 318) (by decide +kernel)) rfl)
theorem ml_X7_145 : jml RX7 145 yX7_levelOfCurve := Or.inl (gt_of (List.mem_of_getElem? (i := 322) (by decide +kernel)) rfl)
theorem ml_X7_272 : jml RX7 272 yX0_clear := Or.inr ⟨"ChangingStars", nt_of (List.mem_of_getElem? (i := 326) (by decide +kernel)) rfl⟩
theorem ml_X7_275 : jml RX7 275 yX0_put := Or.inr ⟨"ChangingStars", nt_of (List.mem_of_getElem? (i := 330) (by decide +kernel)) rfl⟩
theorem ml_X7_278 : jml RX7 278 yX0_middle := Or.inr ⟨"ChangingStars", nt_of (List.mem_of_getElem? (i := 334) (by decide +kernel)) rfl⟩
theorem ml_X7_281 : jml RX7 281 yX0_spread := Or.inr ⟨"ChangingStars", nt_of (List.mem_of_getElem? (i := 338) (by decide +kernel)) rfl⟩
theorem ml_X7_265 : jml RX7 265 yX4_gather := Or.inr ⟨"ChangingStars", nt_of (List.mem_of_getElem? (i := 342) (by decide +kernel)) rfl⟩
theorem ml_L_27 : jml RL 27 yX7_row := Or.inl (gt_of (List.mem_of_getElem? (i := 346) (by decide +kernel)) rfl)
theorem ml_X7_104 : jml RX7 104 yX6_emptyRow := Or.inr ⟨"ChangingStars", nt_of (List.mem_of_getElem? (i := 350) (by decide +kernel)) rfl⟩
theorem ml_L_31 : jml RL 31 yX7_lay := Or.inl (gt_of (List.mem_of_getElem? (i := 354) (by decide +kernel)) rfl)
theorem ml_X7_108 : jml RX7 108 yX7_lookAtNight := Or.inl (gt_of (List.mem_of_getElem? (i := 358) (by decide +kernel)) rfl)
theorem ml_X7_132 : jml RX7 132 yX7_isNight := Or.inl (gt_of (List.mem_of_getElem? (i := 362) (by decide +kernel)) rfl)
theorem ml_L_36 : jml RL 36 yX7_at := Or.inl (gt_of (List.mem_of_getElem? (i := 365) (by decide +kernel)) rfl)
theorem ml_L_40 : jml RL 40 yX7_light := Or.inl (gt_of (List.mem_of_getElem? (i := 369) (by decide +kernel)) rfl)
theorem ml_X7_115 : jml RX7 115 yX7_tell := Or.inl (gt_of (List.mem_of_getElem? (i := 373) (by decide +kernel)) rfl)
theorem ml_L_44 : jml RL 44 yX7_tear := Or.inl (gt_of (List.mem_of_getElem? (i := 377) (by decide +kernel)) rfl)
theorem ml_L_48 : jml RL 48 yX7_copy := Or.inl (gt_of (List.mem_of_getElem? (i := 381) (by decide +kernel)) rfl)
theorem ml_X7_122 : jml RX7 122 yX7_areNights := Or.inl (gt_of (List.mem_of_getElem? (i := 385) (by decide +kernel)) rfl)
theorem ml_L_53 : jml RL 53 yX7_foot := Or.inl (gt_of (List.mem_of_getElem? (i := 391) (by decide +kernel)) rfl)
theorem ml_L_57 : jml RL 57 yX7_footing := Or.inl (gt_of (List.mem_of_getElem? (i := 395) (by decide +kernel)) rfl)
theorem ml_L_61 : jml RL 61 yX7_level := Or.inl (gt_of (List.mem_of_getElem? (i := 399) (by decide +kernel)) rfl)
theorem ml_X7_135 : jml RX7 135 yX7_levelWithoutFootings := Or.inl (gt_of (List.mem_of_getElem? (i := 403) (by decide +kernel)) rfl)
theorem ml_X7_139 : jml RX7 139 yX7_middleDifference := Or.inl (gt_of (List.mem_of_getElem? (i := 407) (by decide +kernel)) rfl)
theorem ml_L_66 : jml RL 66 yX7_levelOf := Or.inl (gt_of (List.mem_of_getElem? (i := 411) (by decide +kernel)) rfl)
theorem ml_X7_142 : jml RX7 142 yX7_gatherLights := Or.inl (gt_of (List.mem_of_getElem? (i := 415) (by decide +kernel)) rfl)
theorem ml_L_70 : jml RL 70 yX7_mean := Or.inl (gt_of (List.mem_of_getElem? (i := 419) (by decide +kernel)) rfl)
theorem ml_X7_149 : jml RX7 149 yX1_average := Or.inr ⟨"ChangingStars", nt_of (List.mem_of_getElem? (i := 423) (by decide +kernel)) rfl⟩
theorem ml_X1_25 : jml RX1 25 yX1_sum := Or.inl (gt_of (List.mem_of_getElem? (i := 427) (by decide +kernel)) rfl)
theorem ml_L_74 : jml RL 74 yX7_phase := Or.inl (gt_of (List.mem_of_getElem? (i := 431) (by decide +kernel)) rfl)
theorem ml_X7_153 : jml RX7 153 yX7_isPeriod := Or.inl (gt_of (List.mem_of_getElem? (i := 435) (by decide +kernel)) rfl)
theorem ml_X7_156 : jml RX7 156 yX7_phaseOfTime := Or.inl (gt_of (List.mem_of_getElem? (i := 438) (by decide +kernel)) rfl)
theorem ml_L_78 : jml RL 78 yX7_string := Or.inl (gt_of (List.mem_of_getElem? (i := 441) (by decide +kernel)) rfl)
theorem ml_X7_160 : jml RX7 160 yX3_stringOf := Or.inr ⟨"ChangingStars", nt_of (List.mem_of_getElem? (i := 445) (by decide +kernel)) rfl⟩
theorem ml_X3_30 : jml RX3 30 yX7_phaseOfTime := Or.inr ⟨"ChangingStars", nt_of (List.mem_of_getElem? (i := 449) (by decide +kernel)) rfl⟩
theorem ml_X3_35 : jml RX3 35 yX3_put := Or.inl (gt_of (List.mem_of_getElem? (i := 450) (by decide +kernel)) rfl)
theorem ml_X3_39 : jml RX3 39 yJ9_abs_0f7a4 := Or.inl (gt_of (List.mem_of_getElem? (i := 454) (by decide +kernel)) rfl)
theorem ml_L_82 : jml RL 82 yX7_period := Or.inl (gt_of (List.mem_of_getElem? (i := 457) (by decide +kernel)) rfl)
theorem ml_X7_164 : jml RX7 164 yX7_foldFromTo := Or.inl (gt_of (List.mem_of_getElem? (i := 461) (by decide +kernel)) rfl)
theorem ml_X7_268 : jml RX7 268 yX3_stringsFromTo := Or.inr ⟨"ChangingStars", nt_of (List.mem_of_getElem? (i := 465) (by decide +kernel)) rfl⟩
theorem ml_X3_45 : jml RX3 45 yX3_stringOf := Or.inl (gt_of (List.mem_of_getElem? (i := 469) (by decide +kernel)) rfl)
theorem ml_X7_168 : jml RX7 168 yX3_leastFromTo := Or.inr ⟨"ChangingStars", nt_of (List.mem_of_getElem? (i := 470) (by decide +kernel)) rfl⟩
theorem ml_L_87 : jml RL 87 yX7_asWell := Or.inl (gt_of (List.mem_of_getElem? (i := 474) (by decide +kernel)) rfl)
theorem ml_L_91 : jml RL 91 yX7_depth := Or.inl (gt_of (List.mem_of_getElem? (i := 479) (by decide +kernel)) rfl)
theorem ml_X7_182 : jml RX7 182 yJ9_floorMod_7cf53 := Or.inl (gt_of (List.mem_of_getElem? (i := 483) (by decide +kernel)) rfl)
theorem ml_X7_188 : jml RX7 188 yX1_sum := Or.inr ⟨"ChangingStars", nt_of (List.mem_of_getElem? (i := 486) (by decide +kernel)) rfl⟩
theorem ml_L_95 : jml RL 95 yX7_dip := Or.inl (gt_of (List.mem_of_getElem? (i := 487) (by decide +kernel)) rfl)
theorem ml_X7_191 : jml RX7 191 yX2_search := Or.inr ⟨"ChangingStars", nt_of (List.mem_of_getElem? (i := 491) (by decide +kernel)) rfl⟩
theorem ml_X2_34 : jml RX2 34 yX2_share := Or.inl (gt_of (List.mem_of_getElem? (i := 495) (by decide +kernel)) rfl)
theorem ml_X2_59 : jml RX2 59 yJ7_fill_53178 := Or.inl (gt_of (List.mem_of_getElem? (i := 499) (by decide +kernel)) rfl)
theorem ml_X2_79 : jml RX2 79 yX7_phaseOfTime := Or.inr ⟨"ChangingStars", nt_of (List.mem_of_getElem? (i := 500) (by decide +kernel)) rfl⟩
theorem ml_X2_38 : jml RX2 38 yJ9_min_7cf53 := Or.inl (gt_of (List.mem_of_getElem? (i := 501) (by decide +kernel)) rfl)
theorem ml_X2_44 : jml RX2 44 yX2_widen := Or.inl (gt_of (List.mem_of_getElem? (i := 504) (by decide +kernel)) rfl)
theorem ml_X2_48 : jml RX2 48 yX2_countsHere := Or.inl (gt_of (List.mem_of_getElem? (i := 508) (by decide +kernel)) rfl)
theorem ml_X2_52 : jml RX2 52 yX2_depthFrom := Or.inl (gt_of (List.mem_of_getElem? (i := 512) (by decide +kernel)) rfl)
theorem ml_X2_56 : jml RX2 56 yX2_keep := Or.inl (gt_of (List.mem_of_getElem? (i := 516) (by decide +kernel)) rfl)
theorem ml_L_99 : jml RL 99 yX7_dipOf := Or.inl (gt_of (List.mem_of_getElem? (i := 520) (by decide +kernel)) rfl)
theorem ml_L_103 : jml RL 103 yX7_lows := Or.inl (gt_of (List.mem_of_getElem? (i := 524) (by decide +kernel)) rfl)
theorem ml_X7_204 : jml RX7 204 yX7_gatherLows := Or.inl (gt_of (List.mem_of_getElem? (i := 528) (by decide +kernel)) rfl)
theorem ml_L_107 : jml RL 107 yX7_low := Or.inl (gt_of (List.mem_of_getElem? (i := 532) (by decide +kernel)) rfl)
theorem ml_X7_208 : jml RX7 208 yX4_has := Or.inr ⟨"ChangingStars", nt_of (List.mem_of_getElem? (i := 536) (by decide +kernel)) rfl⟩
theorem ml_L_111 : jml RL 111 yX7_turn := Or.inl (gt_of (List.mem_of_getElem? (i := 540) (by decide +kernel)) rfl)
theorem ml_X7_212 : jml RX7 212 yX7_gatherLowsOnClock := Or.inl (gt_of (List.mem_of_getElem? (i := 544) (by decide +kernel)) rfl)
theorem ml_X7_216 : jml RX7 216 yX7_turnOfTime := Or.inl (gt_of (List.mem_of_getElem? (i := 548) (by decide +kernel)) rfl)
theorem ml_X7_294 : jml RX7 294 yJ9_floorDiv_7cf53 := Or.inl (gt_of (List.mem_of_getElem? (i := 551) (by decide +kernel)) rfl)
theorem ml_L_116 : jml RL 116 yX7_late := Or.inl (gt_of (List.mem_of_getElem? (i := 554) (by decide +kernel)) rfl)
theorem ml_X7_219 : jml RX7 219 yX7_lateOfTime := Or.inl (gt_of (List.mem_of_getElem? (i := 558) (by decide +kernel)) rfl)
theorem ml_L_120 : jml RL 120 yX7_bent := Or.inl (gt_of (List.mem_of_getElem? (i := 561) (by decide +kernel)) rfl)
theorem ml_L_124 : jml RL 124 yX7_rule := Or.inl (gt_of (List.mem_of_getElem? (i := 565) (by decide +kernel)) rfl)
theorem ml_X7_225 : jml RX7 225 yX5_init := Or.inr ⟨"ChangingStars", nt_of (List.mem_of_getElem? (i := 570) (by decide +kernel)) rfl⟩
theorem wo_X5_1 : Cond.methodLink RX5 1 Lib.objectInit ∈ gt := gt_of (List.mem_of_getElem? (i := 573) (by decide +kernel)) rfl
theorem ml_L_128 : jml RL 128 yX7_classOf := Or.inl (gt_of (List.mem_of_getElem? (i := 588) (by decide +kernel)) rfl)
theorem ml_X7_228 : jml RX7 228 yX7_classOfCurve := Or.inl (gt_of (List.mem_of_getElem? (i := 592) (by decide +kernel)) rfl)
theorem ml_X7_287 : jml RX7 287 yX5_fits := Or.inr ⟨"ChangingStars", nt_of (List.mem_of_getElem? (i := 596) (by decide +kernel)) rfl⟩
theorem ml_L_132 : jml RL 132 yX7_watch := Or.inl (gt_of (List.mem_of_getElem? (i := 600) (by decide +kernel)) rfl)
theorem ml_L_136 : jml RL 136 yX7_alarms := Or.inl (gt_of (List.mem_of_getElem? (i := 604) (by decide +kernel)) rfl)
theorem ml_L_140 : jml RL 140 yX7_asked := Or.inl (gt_of (List.mem_of_getElem? (i := 608) (by decide +kernel)) rfl)
theorem ml_L_145 : jml RL 145 yX7_count := Or.inl (gt_of (List.mem_of_getElem? (i := 612) (by decide +kernel)) rfl)
theorem ml_X7_248 : jml RX7 248 yX7_countOfRows := Or.inl (gt_of (List.mem_of_getElem? (i := 616) (by decide +kernel)) rfl)
theorem ml_X7_251 : jml RX7 251 yX7_countOfLights := Or.inl (gt_of (List.mem_of_getElem? (i := 620) (by decide +kernel)) rfl)
theorem ml_L_149 : jml RL 149 yX7_finding := Or.inl (gt_of (List.mem_of_getElem? (i := 624) (by decide +kernel)) rfl)
theorem ml_L_153 : jml RL 153 yX7_findings := Or.inl (gt_of (List.mem_of_getElem? (i := 628) (by decide +kernel)) rfl)
theorem ml_L_157 : jml RL 157 yX7_digest := Or.inl (gt_of (List.mem_of_getElem? (i := 632) (by decide +kernel)) rfl)
theorem ml_X7_259 : jml RX7 259 yX6_digestOnto := Or.inr ⟨"ChangingStars", nt_of (List.mem_of_getElem? (i := 637) (by decide +kernel)) rfl⟩
theorem ml_L_12 : jml RL 12 yX8_init := Or.inl (gt_of (List.mem_of_getElem? (i := 645) (by decide +kernel)) rfl)
theorem wo_X8_1 : Cond.methodLink RX8 1 Lib.objectInit ∈ gt := gt_of (List.mem_of_getElem? (i := 648) (by decide +kernel)) rfl
theorem ml_L_17 : jml RL 17 yX8_star := Or.inl (gt_of (List.mem_of_getElem? (i := 729) (by decide +kernel)) rfl)
theorem ml_X8_76 : jml RX8 76 yX8_in := Or.inl (gt_of (List.mem_of_getElem? (i := 733) (by decide +kernel)) rfl)
theorem ml_L_22 : jml RL 22 yX8_is := Or.inl (gt_of (List.mem_of_getElem? (i := 736) (by decide +kernel)) rfl)
theorem ml_X8_80 : jml RX8 80 yX8_isStar := Or.inl (gt_of (List.mem_of_getElem? (i := 740) (by decide +kernel)) rfl)
theorem ml_X8_84 : jml RX8 84 yX8_fits := Or.inl (gt_of (List.mem_of_getElem? (i := 744) (by decide +kernel)) rfl)
theorem ml_L_26 : jml RL 26 yX8_mark := Or.inl (gt_of (List.mem_of_getElem? (i := 748) (by decide +kernel)) rfl)
theorem ml_X8_95 : jml RX8 95 yX8_meets := Or.inl (gt_of (List.mem_of_getElem? (i := 752) (by decide +kernel)) rfl)
theorem ml_X8_99 : jml RX8 99 yX8_many := Or.inl (gt_of (List.mem_of_getElem? (i := 756) (by decide +kernel)) rfl)
theorem ml_X8_88 : jml RX8 88 yX8_has := Or.inl (gt_of (List.mem_of_getElem? (i := 760) (by decide +kernel)) rfl)
theorem ml_X8_102 : jml RX8 102 yX8_swing := Or.inl (gt_of (List.mem_of_getElem? (i := 764) (by decide +kernel)) rfl)
theorem ml_X8_91 : jml RX8 91 yX8_lightOf := Or.inl (gt_of (List.mem_of_getElem? (i := 768) (by decide +kernel)) rfl)
theorem ml_X8_105 : jml RX8 105 yX8_setLows := Or.inl (gt_of (List.mem_of_getElem? (i := 772) (by decide +kernel)) rfl)
theorem ml_X8_123 : jml RX8 123 yX8_middle := Or.inl (gt_of (List.mem_of_getElem? (i := 776) (by decide +kernel)) rfl)
theorem ml_X8_120 : jml RX8 120 yX8_sort := Or.inl (gt_of (List.mem_of_getElem? (i := 780) (by decide +kernel)) rfl)
theorem ml_L_30 : jml RL 30 yX8_row := Or.inl (gt_of (List.mem_of_getElem? (i := 784) (by decide +kernel)) rfl)
theorem ml_L_35 : jml RL 35 yX8_lay := Or.inl (gt_of (List.mem_of_getElem? (i := 788) (by decide +kernel)) rfl)
theorem ml_X8_108 : jml RX8 108 yX8_looked := Or.inl (gt_of (List.mem_of_getElem? (i := 792) (by decide +kernel)) rfl)
theorem ml_X8_111 : jml RX8 111 yX8_isNight := Or.inl (gt_of (List.mem_of_getElem? (i := 796) (by decide +kernel)) rfl)
theorem ml_L_39 : jml RL 39 yX8_at := Or.inl (gt_of (List.mem_of_getElem? (i := 799) (by decide +kernel)) rfl)
theorem ml_L_43 : jml RL 43 yX8_light := Or.inl (gt_of (List.mem_of_getElem? (i := 803) (by decide +kernel)) rfl)
theorem ml_X8_114 : jml RX8 114 yX8_tell := Or.inl (gt_of (List.mem_of_getElem? (i := 807) (by decide +kernel)) rfl)
theorem ml_L_47 : jml RL 47 yX8_tear := Or.inl (gt_of (List.mem_of_getElem? (i := 811) (by decide +kernel)) rfl)
theorem ml_L_52 : jml RL 52 yX8_copy := Or.inl (gt_of (List.mem_of_getElem? (i := 815) (by decide +kernel)) rfl)
theorem ml_L_56 : jml RL 56 yX8_foot := Or.inl (gt_of (List.mem_of_getElem? (i := 820) (by decide +kernel)) rfl)
theorem ml_L_60 : jml RL 60 yX8_footing := Or.inl (gt_of (List.mem_of_getElem? (i := 824) (by decide +kernel)) rfl)
theorem ml_L_65 : jml RL 65 yX8_level := Or.inl (gt_of (List.mem_of_getElem? (i := 828) (by decide +kernel)) rfl)
theorem ml_L_69 : jml RL 69 yX8_levelOf := Or.inl (gt_of (List.mem_of_getElem? (i := 832) (by decide +kernel)) rfl)
theorem ml_L_73 : jml RL 73 yX8_mean := Or.inl (gt_of (List.mem_of_getElem? (i := 836) (by decide +kernel)) rfl)
theorem ml_L_77 : jml RL 77 yX8_phase := Or.inl (gt_of (List.mem_of_getElem? (i := 840) (by decide +kernel)) rfl)
theorem ml_X8_127 : jml RX8 127 yX8_isPeriod := Or.inl (gt_of (List.mem_of_getElem? (i := 844) (by decide +kernel)) rfl)
theorem ml_X8_130 : jml RX8 130 yX8_isPart := Or.inl (gt_of (List.mem_of_getElem? (i := 847) (by decide +kernel)) rfl)
theorem ml_L_81 : jml RL 81 yX8_string := Or.inl (gt_of (List.mem_of_getElem? (i := 850) (by decide +kernel)) rfl)
theorem ml_X8_133 : jml RX8 133 yX8_stringOf := Or.inl (gt_of (List.mem_of_getElem? (i := 854) (by decide +kernel)) rfl)
theorem ml_L_86 : jml RL 86 yX8_period := Or.inl (gt_of (List.mem_of_getElem? (i := 858) (by decide +kernel)) rfl)
theorem ml_X8_137 : jml RX8 137 yX8_bestOf := Or.inl (gt_of (List.mem_of_getElem? (i := 862) (by decide +kernel)) rfl)
theorem ml_L_90 : jml RL 90 yX8_asWell := Or.inl (gt_of (List.mem_of_getElem? (i := 866) (by decide +kernel)) rfl)
theorem ml_L_94 : jml RL 94 yX8_depth := Or.inl (gt_of (List.mem_of_getElem? (i := 871) (by decide +kernel)) rfl)
theorem ml_X8_149 : jml RX8 149 yX8_dips := Or.inl (gt_of (List.mem_of_getElem? (i := 875) (by decide +kernel)) rfl)
theorem ml_L_98 : jml RL 98 yX8_dip := Or.inl (gt_of (List.mem_of_getElem? (i := 879) (by decide +kernel)) rfl)
theorem ml_L_102 : jml RL 102 yX8_dipOf := Or.inl (gt_of (List.mem_of_getElem? (i := 883) (by decide +kernel)) rfl)
theorem ml_L_106 : jml RL 106 yX8_lows := Or.inl (gt_of (List.mem_of_getElem? (i := 887) (by decide +kernel)) rfl)
theorem ml_X8_153 : jml RX8 153 yX8_lowsOf := Or.inl (gt_of (List.mem_of_getElem? (i := 891) (by decide +kernel)) rfl)
theorem ml_L_110 : jml RL 110 yX8_low := Or.inl (gt_of (List.mem_of_getElem? (i := 895) (by decide +kernel)) rfl)
theorem ml_L_115 : jml RL 115 yX8_turn := Or.inl (gt_of (List.mem_of_getElem? (i := 899) (by decide +kernel)) rfl)
theorem ml_X8_166 : jml RX8 166 yX8_isClock := Or.inl (gt_of (List.mem_of_getElem? (i := 903) (by decide +kernel)) rfl)
theorem ml_X8_162 : jml RX8 162 yX8_turnOf := Or.inl (gt_of (List.mem_of_getElem? (i := 906) (by decide +kernel)) rfl)
theorem ml_L_119 : jml RL 119 yX8_late := Or.inl (gt_of (List.mem_of_getElem? (i := 913) (by decide +kernel)) rfl)
theorem ml_X8_169 : jml RX8 169 yX8_lateOf := Or.inl (gt_of (List.mem_of_getElem? (i := 917) (by decide +kernel)) rfl)
theorem ml_L_123 : jml RL 123 yX8_bent := Or.inl (gt_of (List.mem_of_getElem? (i := 921) (by decide +kernel)) rfl)
theorem ml_L_127 : jml RL 127 yX8_rule := Or.inl (gt_of (List.mem_of_getElem? (i := 925) (by decide +kernel)) rfl)
theorem ml_L_131 : jml RL 131 yX8_classOf := Or.inl (gt_of (List.mem_of_getElem? (i := 929) (by decide +kernel)) rfl)
theorem ml_X8_178 : jml RX8 178 yX8_classIs := Or.inl (gt_of (List.mem_of_getElem? (i := 933) (by decide +kernel)) rfl)
theorem ml_X8_175 : jml RX8 175 yX8_worth := Or.inl (gt_of (List.mem_of_getElem? (i := 937) (by decide +kernel)) rfl)
theorem ml_L_135 : jml RL 135 yX8_watch := Or.inl (gt_of (List.mem_of_getElem? (i := 941) (by decide +kernel)) rfl)
theorem ml_L_139 : jml RL 139 yX8_alarms := Or.inl (gt_of (List.mem_of_getElem? (i := 945) (by decide +kernel)) rfl)
theorem ml_L_144 : jml RL 144 yX8_asked := Or.inl (gt_of (List.mem_of_getElem? (i := 949) (by decide +kernel)) rfl)
theorem ml_L_148 : jml RL 148 yX8_count := Or.inl (gt_of (List.mem_of_getElem? (i := 953) (by decide +kernel)) rfl)
theorem ml_L_152 : jml RL 152 yX8_finding := Or.inl (gt_of (List.mem_of_getElem? (i := 957) (by decide +kernel)) rfl)
theorem ml_L_156 : jml RL 156 yX8_findings := Or.inl (gt_of (List.mem_of_getElem? (i := 961) (by decide +kernel)) rfl)
theorem ml_L_160 : jml RL 160 yX8_digest := Or.inl (gt_of (List.mem_of_getElem? (i := 965) (by decide +kernel)) rfl)
theorem ck_L_7 : Cond.classLink RL 7 RX7 ∈ gt := gt_of (List.mem_of_getElem? (i := 74) (by decide +kernel)) rfl
theorem wn_X7 : Cond.instantiable RX7 17 ∈ gt := gt_of (List.mem_of_getElem? (i := 75) (by decide +kernel)) rfl
theorem ck_X7_9 : Cond.classLink RX7 9 RX6 ∈ gt := gt_of (List.mem_of_getElem? (i := 82) (by decide +kernel)) rfl
theorem ck_X7_15 : Cond.classLink RX7 15 RX5 ∈ gt := gt_of (List.mem_of_getElem? (i := 84) (by decide +kernel)) rfl
theorem ck_X7_25 : Cond.classLink RX7 25 RX1 ∈ gt := gt_of (List.mem_of_getElem? (i := 86) (by decide +kernel)) rfl
theorem wn_X1 : Cond.instantiable RX1 3 ∈ gt := gt_of (List.mem_of_getElem? (i := 87) (by decide +kernel)) rfl
theorem wa_int : Cond.arrayClass .int ∈ gt := gt_of (List.mem_of_getElem? (i := 114) (by decide +kernel)) rfl
theorem ck_X7_32 : Cond.classLink RX7 32 RX0 ∈ gt := gt_of (List.mem_of_getElem? (i := 115) (by decide +kernel)) rfl
theorem wn_X0 : Cond.instantiable RX0 2 ∈ gt := gt_of (List.mem_of_getElem? (i := 116) (by decide +kernel)) rfl
theorem ck_X7_39 : Cond.classLink RX7 39 RX3 ∈ gt := gt_of (List.mem_of_getElem? (i := 128) (by decide +kernel)) rfl
theorem wn_X3 : Cond.instantiable RX3 3 ∈ gt := gt_of (List.mem_of_getElem? (i := 129) (by decide +kernel)) rfl
theorem ck_X7_46 : Cond.classLink RX7 46 RX4 ∈ gt := gt_of (List.mem_of_getElem? (i := 145) (by decide +kernel)) rfl
theorem wn_X4 : Cond.instantiable RX4 2 ∈ gt := gt_of (List.mem_of_getElem? (i := 146) (by decide +kernel)) rfl
theorem ck_X7_53 : Cond.classLink RX7 53 RX2 ∈ gt := gt_of (List.mem_of_getElem? (i := 160) (by decide +kernel)) rfl
theorem wn_X2 : Cond.instantiable RX2 9 ∈ gt := gt_of (List.mem_of_getElem? (i := 161) (by decide +kernel)) rfl
theorem wn_X6 : Cond.instantiable RX6 4 ∈ gt := gt_of (List.mem_of_getElem? (i := 256) (by decide +kernel)) rfl
theorem kl_X7_174 : Cond.constantLong RX7 174 100 ∈ gt := gt_of (List.mem_of_getElem? (i := 478) (by decide +kernel)) rfl
theorem wn_X5 : Cond.instantiable RX5 4 ∈ gt := gt_of (List.mem_of_getElem? (i := 569) (by decide +kernel)) rfl
theorem kl_X7_257 : Cond.constantLong RX7 257 17 ∈ gt := gt_of (List.mem_of_getElem? (i := 636) (by decide +kernel)) rfl
theorem kl_X6_32 : Cond.constantLong RX6 32 31 ∈ gt := gt_of (List.mem_of_getElem? (i := 641) (by decide +kernel)) rfl
theorem kl_X7_263 : Cond.constantLong RX7 263 31 ∈ gt := gt_of (List.mem_of_getElem? (i := 642) (by decide +kernel)) rfl
theorem ck_L_10 : Cond.classLink RL 10 RX8 ∈ gt := gt_of (List.mem_of_getElem? (i := 643) (by decide +kernel)) rfl
theorem wn_X8 : Cond.instantiable RX8 26 ∈ gt := gt_of (List.mem_of_getElem? (i := 644) (by decide +kernel)) rfl
theorem wa_boolean : Cond.arrayClass .boolean ∈ gt := gt_of (List.mem_of_getElem? (i := 728) (by decide +kernel)) rfl
theorem kl_X8_118 : Cond.constantLong RX8 118 60 ∈ gt := gt_of (List.mem_of_getElem? (i := 819) (by decide +kernel)) rfl
theorem kl_X8_141 : Cond.constantLong RX8 141 100 ∈ gt := gt_of (List.mem_of_getElem? (i := 870) (by decide +kernel)) rfl
theorem kl_X8_156 : Cond.constantLong RX8 156 2 ∈ gt := gt_of (List.mem_of_getElem? (i := 910) (by decide +kernel)) rfl
theorem kl_X8_158 : Cond.constantLong RX8 158 20000 ∈ gt := gt_of (List.mem_of_getElem? (i := 911) (by decide +kernel)) rfl
theorem kl_X8_160 : Cond.constantLong RX8 160 10000 ∈ gt := gt_of (List.mem_of_getElem? (i := 912) (by decide +kernel)) rfl
theorem kl_X8_187 : Cond.constantLong RX8 187 17 ∈ gt := gt_of (List.mem_of_getElem? (i := 969) (by decide +kernel)) rfl
theorem kl_X8_189 : Cond.constantLong RX8 189 31 ∈ gt := gt_of (List.mem_of_getElem? (i := 970) (by decide +kernel)) rfl
theorem wo_I : Cond.instanceMethod Lib.objectInit ∈ gt := gt_of (List.mem_of_getElem? (i := 80) (by decide +kernel)) rfl
theorem wo_C : Cond.code Lib.objectInit ⟨#[0xb1]⟩ 1 none ∈ gt := gt_of (List.mem_of_getElem? (i := 81) (by decide +kernel)) rfl
theorem wac_l : Cond.methodLink RX7 126 arraycopyName ∈ gt := gt_of (List.mem_of_getElem? (i := 388) (by decide +kernel)) rfl
theorem wac_n : Cond.native arraycopyName ∈ gt := gt_of (List.mem_of_getElem? (i := 390) (by decide +kernel)) rfl
theorem wac_s : Cond.static arraycopyName ∈ gt := gt_of (List.mem_of_getElem? (i := 389) (by decide +kernel)) rfl
theorem wac_i : Cond.initialized "java/lang/System" ∈ gt := gt_of (List.mem_of_getElem? (i := 71) (by decide +kernel)) rfl
end
section
section JP
variable {G : jG} {X : jX} {μ : jM} {ws : va_W} {k n pc p2 : Nat} {lv : List (Nat × Value)} {st : List Value}
theorem J.topi {x y : Int32} (e : x = y) (h : J G X μ ws k n pc lv (.int y :: st)) : J G X μ ws k n pc lv (.int x :: st) := e ▸ h
theorem J.topl {x y : Int64} (e : x = y) (h : J G X μ ws k n pc lv (.long y :: st)) : J G X μ ws k n pc lv (.long x :: st) := e ▸ h
theorem J.world {w2 : va_W} (e : ws = w2) (h : J G X μ w2 k n pc lv st) : J G X μ ws k n pc lv st := e ▸ h
theorem J.lveq {l2 : List (Nat × Value)} (e : lv = l2) (h : J G X μ ws k n pc l2 st) : J G X μ ws k n pc lv st := e ▸ h
end JP
theorem jinc1 (a : Nat) : nI a + Int32.ofInt 1 = nI (a + 1) := nI_1 a
theorem jincn (a b : Nat) : nI a + Int32.ofInt (b : Int) = nI (a + b) := by
  rw [← nI_add]
  congr 1
theorem jdec1 (a : Nat) : nI (a + 1) + Int32.ofInt (-1) = nI a := pk_m1 a
theorem jc_eq_t {x y : Int64} (h : lg_cmp x y = 0) : x = y := (lg_cmp_eq x y).mp h
theorem jc_eq_f {x y : Int64} (h : ¬ lg_cmp x y = 0) : ¬ x = y := fun z => h ((lg_cmp_eq x y).mpr z)
theorem jc_ne_t {x y : Int64} (h : ¬ lg_cmp x y = 0) : ¬ x = y := fun z => h ((lg_cmp_eq x y).mpr z)
theorem jc_ne_f {x y : Int64} (h : lg_cmp x y = 0) : x = y := (lg_cmp_eq x y).mp h
theorem jc_lt_t {x y : Int64} (h : lg_cmp x y < 0) : x < y := (lg_cmp_lt x y).mp h
theorem jc_lt_f {x y : Int64} (h : ¬ lg_cmp x y < 0) : ¬ x < y := fun z => h ((lg_cmp_lt x y).mpr z)
theorem jc_ge_t {x y : Int64} (h : 0 ≤ lg_cmp x y) : y ≤ x := (lg_cmp_ge x y).mp h
theorem jc_ge_f {x y : Int64} (h : ¬ 0 ≤ lg_cmp x y) : ¬ y ≤ x := fun z => h ((lg_cmp_ge x y).mpr z)
theorem jc_gt_t {x y : Int64} (h : 0 < lg_cmp x y) : y < x := (lg_cmp_gt x y).mp h
theorem jc_gt_f {x y : Int64} (h : ¬ 0 < lg_cmp x y) : ¬ y < x := fun z => h ((lg_cmp_gt x y).mpr z)
theorem jc_le_t {x y : Int64} (h : lg_cmp x y ≤ 0) : x ≤ y := (lg_cmp_le x y).mp h
theorem jc_le_f {x y : Int64} (h : ¬ lg_cmp x y ≤ 0) : ¬ x ≤ y := fun z => h ((lg_cmp_le x y).mpr z)
/-- put into a row that is by size: what stands behind comes one place on -/
def insA (f : Nat → Int32) (v : Int32) : Nat → Nat → Int32
  | 0 => upd f 0 v
  | p + 1 => if f p ≤ v then upd f (p + 1) v else insA (upd f (p + 1) (f p)) v p
abbrev iA (G : jG) (a n : Nat) (f : Nat → Int32) : Nat × va_E := (a, .inl (G.2.1.1, n, .inl f))
abbrev zA (G : jG) (a n : Nat) (f : Nat → Int32) : Nat × va_E := (a, .inl (G.2.1.2.1, n, .inl f))
abbrev oX0 (a b : Nat) (sz : Int32) : Nat × va_E := (a, .inr (0, [.ref b, .int sz]))
abbrev oX1 (a t u : Nat) (sz : Int32) : Nat × va_E := (a, .inr (1, [.ref t, .ref u, .int sz]))
abbrev oX3 (a p q s : Nat) : Nat × va_E := (a, .inr (3, [.ref p, .ref q, .ref s]))
abbrev oX4 (a t : Nat) (sz : Int32) : Nat × va_E := (a, .inr (4, [.ref t, .int sz]))
abbrev oX5 (a : Nat) (w lo hi c : Int32) : Nat × va_E := (a, .inr (5, [.int w, .int lo, .int hi, .int c]))
end
section
/-! NIGHTS with a light, one behind the other -/
def nts (L : Nat → Int32) (k : Nat) : List Nat := (List.range k).filter (fun j => decide (L j ≠ -9))
theorem nts_0 (L : Nat → Int32) : nts L 0 = [] := rfl
theorem nts_yes {L : Nat → Int32} {k : Nat} (h : ¬ L k = -9) : nts L (k + 1) = nts L k ++ [k] := by
  unfold nts
  rw [List.range_succ, List.filter_append]
  simp [h]
theorem nts_no {L : Nat → Int32} {k : Nat} (h : L k = -9) : nts L (k + 1) = nts L k := by
  unfold nts
  rw [List.range_succ, List.filter_append]
  simp [h]
theorem nts_le (L : Nat → Int32) (k : Nat) : (nts L k).length ≤ k := by
  have := List.length_filter_le (fun j => decide (L j ≠ -9)) (List.range k)
  rw [List.length_range] at this
  exact this
theorem mem_nts {L : Nat → Int32} {k j : Nat} : j ∈ nts L k ↔ j < k ∧ ¬ L j = -9 := by
  unfold nts
  simp [List.mem_filter, List.mem_range]
theorem nts_none {L : Nat → Int32} (k : Nat) (h : ∀ j, j < k → L j = -9) : nts L k = [] := by
  unfold nts
  rw [List.filter_eq_nil_iff]
  intro j hj
  simp [h j (List.mem_range.mp hj)]
theorem nts_cong {L M : Nat → Int32} {k : Nat} (h : ∀ j, j < k → L j = M j) : nts L k = nts M k := by
  unfold nts
  apply List.filter_congr
  intro j hj
  rw [h j (List.mem_range.mp hj)]
abbrev ntN (L : Nat → Int32) (i : Nat) : Nat := (nts L 60).getD i 0
abbrev nN (L : Nat → Int32) : Nat := (nts L 60).length
theorem nN_le (L : Nat → Int32) : nN L ≤ 60 := nts_le L 60
theorem take_getD {α : Type} {l : List α} {d : α} {i : Nat} (h : i < l.length) : l.take (i + 1) = l.take i ++ [l.getD i d] := by
  rw [List.take_add_one, List.getD_eq_getElem?_getD, List.getElem?_eq_getElem h]
  rfl
theorem ntN_lt {L : Nat → Int32} {i : Nat} (h : i < nN L) : ntN L i < 60 ∧ ¬ L (ntN L i) = -9 := by
  apply mem_nts.mp
  unfold ntN
  rw [List.getD_eq_getElem?_getD, List.getElem?_eq_getElem h]
  exact List.getElem_mem h
theorem getD_app_l {α : Type} {l m : List α} {d : α} {i : Nat} (h : i < l.length) : (l ++ m).getD i d = l.getD i d := by
  rw [List.getD_eq_getElem?_getD, List.getD_eq_getElem?_getD, List.getElem?_append_left h]
theorem getD_app_r {α : Type} {l : List α} {x d : α} : (l ++ [x]).getD l.length d = x := by
  rw [List.getD_eq_getElem?_getD, List.getElem?_append_right (Nat.le_refl _)]
  simp
/-- LIGHT -/
abbrev ltF (L F : Nat → Int32) (k : Nat) : Int32 := L k - F k
/-- a curve that has been gathered up to NIGHT k -/
def CVk (L F : Nat → Int32) (k : Nat) (t u : Nat → Int32) : Prop := ∀ i, i < (nts L k).length → t i = nI ((nts L k).getD i 0) ∧ u i = ltF L F ((nts L k).getD i 0)
theorem CVk_0 {L F t u : Nat → Int32} : CVk L F 0 t u := fun i h => absurd h (Nat.not_lt_zero i)
theorem CVk_no {L F t u : Nat → Int32} {k : Nat} (h : L k = -9) (hc : CVk L F k t u) : CVk L F (k + 1) t u := by
  unfold CVk
  rw [nts_no h]
  exact hc
theorem CVk_yes {L F t u : Nat → Int32} {k : Nat} (h : ¬ L k = -9) (hc : CVk L F k t u) : CVk L F (k + 1) (upd t (nts L k).length (nI k)) (upd u (nts L k).length (L k - F k)) := by
  unfold CVk
  rw [nts_yes h]
  intro i hi
  rw [List.length_append, List.length_singleton] at hi
  rcases Nat.lt_or_ge i (nts L k).length with h1 | h1
  · rw [pk_un (by omega), pk_un (by omega), getD_app_l h1]
    exact hc i h1
  · have e : i = (nts L k).length := by omega
    subst e
    rw [pk_us, pk_us, getD_app_r]
    exact ⟨rfl, rfl⟩
abbrev CV (L F t u : Nat → Int32) : Prop := CVk L F 60 t u
/-- a row of which the first places, from the last one back, are a list's -/
def AG {α : Type} (f : Nat → α) : List α → Prop
  | [] => True
  | x :: xs => f xs.length = x ∧ AG f xs
theorem AG_hi {α : Type} {f g : Nat → α} : ∀ {l : List α}, (∀ j, j < l.length → g j = f j) → AG f l → AG g l
  | [], _, _ => trivial
  | x :: xs, h, hf => ⟨(h _ (Nat.lt_succ_self _)).trans hf.1, AG_hi (fun j hj => h j (Nat.lt_succ_of_lt hj)) hf.2⟩
theorem AG_get {α : Type} {f : Nat → α} {d : α} : ∀ {l : List α} {i : Nat}, AG f l → i < l.length → f i = l.getD (l.length - 1 - i) d
  | [], i, _, h => absurd h (Nat.not_lt_zero i)
  | x :: xs, i, hf, h => by
    rcases Nat.lt_or_ge i xs.length with h1 | h1
    · rw [AG_get hf.2 h1, List.length_cons, show xs.length + 1 - 1 - i = (xs.length - 1 - i) + 1 by omega, List.getD_cons_succ]
    · have e : i = xs.length := by rw [List.length_cons] at h; omega
      subst e
      rw [List.length_cons, show xs.length + 1 - 1 - xs.length = 0 by omega]
      exact hf.1
def insR (v : Int32) : List Int32 → List Int32
  | [] => [v]
  | x :: xs => if x ≤ v then v :: x :: xs else x :: insR v xs
theorem insR_len (v : Int32) : ∀ l, (insR v l).length = l.length + 1
  | [] => rfl
  | x :: xs => by
    unfold insR
    split
    · rfl
    · rw [List.length_cons, insR_len v xs, List.length_cons]
theorem insA_hi (v : Int32) : ∀ (p : Nat) (f : Nat → Int32) (j : Nat), p < j → insA f v p j = f j
  | 0, f, j, h => by unfold insA; exact pk_un (by omega)
  | p + 1, f, j, h => by
    unfold insA
    split
    · exact pk_un (by omega)
    · rw [insA_hi v p _ j (by omega), pk_un (by omega)]
theorem AG_ins (v : Int32) : ∀ (l : List Int32) (f : Nat → Int32), AG f l → AG (insA f v l.length) (insR v l)
  | [], f, _ => ⟨by unfold insA; exact pk_us, trivial⟩
  | x :: xs, f, h => by
    unfold insR
    rw [List.length_cons]
    unfold insA
    rw [h.1]
    split
    · refine ⟨pk_us, ?_, ?_⟩
      · rw [pk_un (by omega)]; exact h.1
      · exact AG_hi (fun j hj => pk_un (by omega)) h.2
    · refine ⟨?_, AG_ins v xs _ (AG_hi (fun j hj => pk_un (by omega)) h.2)⟩
      rw [insR_len, insA_hi v _ _ _ (Nat.lt_succ_self _)]
      exact pk_us
/-- numbers by size, the greatest first -/
def bsz (vs : List Int32) : List Int32 := vs.foldl (fun a v => insR v a) []
theorem bsz_snoc (vs : List Int32) (v : Int32) : bsz (vs ++ [v]) = insR v (bsz vs) := by
  unfold bsz
  rw [List.foldl_append]
  rfl
theorem insR_fold_len : ∀ (vs a : List Int32), (vs.foldl (fun a v => insR v a) a).length = a.length + vs.length
  | [], a => rfl
  | v :: vs, a => by
    rw [List.foldl_cons, insR_fold_len vs, insR_len, List.length_cons]
    omega
theorem bsz_len (vs : List Int32) : (bsz vs).length = vs.length := by
  have := insR_fold_len vs []
  rw [List.length_nil, Nat.zero_add] at this
  exact this
/-- that at place n / 2 -/
def midV (vs : List Int32) : Int32 := if vs.length = 0 then 0 else (bsz vs).getD (vs.length - 1 - vs.length / 2) 0
theorem midV_of {f : Nat → Int32} {vs : List Int32} (h : AG f (bsz vs)) : (if vs.length = 0 then 0 else f (vs.length / 2)) = midV vs := by
  unfold midV
  split
  · rfl
  · rename_i h0
    have h1 := AG_get (d := 0) (i := vs.length / 2) h (by rw [bsz_len]; omega)
    rw [h1, bsz_len]
/-- the LIGHTS of a row -/
def lits (L F : Nat → Int32) (k : Nat) : List Int32 := (nts L k).map (ltF L F)
theorem lits_len (L F : Nat → Int32) (k : Nat) : (lits L F k).length = (nts L k).length := List.length_map ..
/-- the greatest and the least -/
def swS (s : Int32 × Int32 × Nat) (v : Int32) : Int32 × Int32 × Nat := (if s.2.2 = 0 ∨ v < s.1 then v else s.1, if s.2.2 = 0 ∨ s.2.1 < v then v else s.2.1, s.2.2 + 1)
def swF (vs : List Int32) : Int32 × Int32 × Nat := vs.foldl swS (0, 0, 0)
def swg (vs : List Int32) : Int32 := (swF vs).2.1 - (swF vs).1
theorem swF_snoc (vs : List Int32) (v : Int32) : swF (vs ++ [v]) = swS (swF vs) v := by
  unfold swF
  rw [List.foldl_append]
  rfl
/-- LOWS: their TIMES, the last one first; whether one goes on -/
def lowG (lt : Nat → Int32) (due : Int32) (s : List Nat × Bool) (k : Nat) : List Nat × Bool :=
  if lt k ≤ due then (match s with | (x :: xs, true) => (if lt k < lt x then k :: xs else x :: xs, true) | (xs, _) => (k :: xs, true)) else (s.1, false)
def lowF (lt : Nat → Int32) (due : Int32) (ks : List Nat) : List Nat × Bool := ks.foldl (lowG lt due) ([], false)
theorem lowF_snoc (lt : Nat → Int32) (due : Int32) (ks : List Nat) (k : Nat) : lowF lt due (ks ++ [k]) = lowG lt due (lowF lt due ks) k := by
  unfold lowF
  rw [List.foldl_append]
  rfl
theorem lowG_len (lt : Nat → Int32) (due : Int32) (s : List Nat × Bool) (k : Nat) : (lowG lt due s k).1.length ≤ s.1.length + 1 := by
  unfold lowG
  split
  · split
    · dsimp only; split <;> simp
    · simp
  · simp
theorem lowF_len (lt : Nat → Int32) (due : Int32) : ∀ (ks : List Nat) (s : List Nat × Bool), (ks.foldl (lowG lt due) s).1.length ≤ s.1.length + ks.length
  | [], s => Nat.le_refl _
  | k :: ks, s => by
    have h1 := lowF_len lt due ks (lowG lt due s k)
    have h2 := lowG_len lt due s k
    rw [List.foldl_cons, List.length_cons]
    omega
theorem lowF_le (lt : Nat → Int32) (due : Int32) (ks : List Nat) : (lowF lt due ks).1.length ≤ ks.length := by
  have := lowF_len lt due ks ([], false)
  rw [List.length_nil, Nat.zero_add] at this
  exact this
/-- a row with its first n places filled -/
def flA (f : Nat → Int32) (v : Int32) (n : Nat) : Nat → Int32 := fun j => if j < n then v else f j
theorem flA_0 (f : Nat → Int32) (v : Int32) : flA f v 0 = f := by
  funext j
  simp [flA]
theorem flA_s (f : Nat → Int32) (v : Int32) (n : Nat) : upd (flA f v n) n v = flA f v (n + 1) := by
  funext j
  unfold upd flA
  by_cases h : j = n
  · subst h; simp
  · rw [if_neg h]
    by_cases h2 : j < n
    · rw [if_pos h2, if_pos (by omega)]
    · rw [if_neg h2, if_neg (by omega)]
theorem flA_in {f : Nat → Int32} {v : Int32} {n j : Nat} (h : j < n) : flA f v n j = v := if_pos h
theorem nts_yes_len {L : Nat → Int32} {k : Nat} (h : ¬ L k = -9) : (nts L (k + 1)).length = (nts L k).length + 1 := by
  rw [nts_yes h, List.length_append, List.length_singleton]
def sm64 (u : Nat → Int32) : Nat → Int64
  | 0 => 0
  | k + 1 => sm64 u k + (u k).toInt64
def dg60 (L : Nat → Int32) (h : Int64) : Nat → Int64
  | 0 => h
  | k + 1 => 31 * dg60 L h k + (L k).toInt64
def ofK (kd a : Int32) : Bool := decide (a = 0 ∨ a = kd ∨ a = 2 ∧ kd = 3)
def b01 (b : Bool) : Int32 := if b then 1 else 0
theorem b01_z (b : Bool) : b01 b = 0 ∨ b01 b = 1 := by cases b <;> simp [b01]
theorem nI64_ne0 {n : Nat} (h0 : 0 < n) (h : n < 2 ^ 31) : ¬ (nI n).toInt64 = 0 := by
  rw [nI_l h]
  exact fun z => absurd ((lN_eq (a := n) (b := 0) h (by omega)).mp z) (by omega)
end
section
set_option maxHeartbeats 4000000 in
set_option maxRecDepth 100000 in
theorem c_X0_clear (l : Launch) (G : jG) (r : va_W) (a b : Nat) (f : Nat → Int32) (sz : Int32) : Mt l G yX0_clear mX0_clear 0 0 0 0 [.ref a] ((a, .inr (0, [.ref b, .int sz])) :: (b, .inl (G.2.1.1, 60, .inl f)) :: r) (fun v w => v = none ∧ w = oX0 a b 0 :: iA G b 60 f :: r) := by
  refine Mt.of (by decide +kernel) rfl rfl (fun X B => ?_)
  show J G X mX0_clear ((a, .inr (0, [.ref b, .int sz])) :: (b, .inl (G.2.1.1, 60, .inl f)) :: r) 0 0 0 [(0, .ref a)] []
  refine J.aload_n 0 dX0_clear_0 rfl ?_
  refine J.iconst (0 : Int32) dX0_clear_1 rfl ?_
  refine J.put 0 fp_X0_15 dX0_clear_2 rfl (rfl) rfl rfl (ws' := (a, .inr (0, [.ref b, .int (0 : Int32)])) :: (b, .inl (G.2.1.1, 60, .inl f)) :: r) rfl ?_
  exact J.vret B dX0_clear_5 rfl (⟨rfl, rfl⟩)
set_option maxHeartbeats 4000000 in
set_option maxRecDepth 100000 in
theorem X0_put_lp {l : Launch} {G : jG} {X : jX} {r : va_W} {a b sz : Nat} {v0 : Int32} {f0 : Nat → Int32} (B : jB l G X 0 0 0 0 (fun v w => v = none ∧ w = oX0 a b (nI (sz + 1)) :: iA G b 60 (insA f0 v0 sz) :: r) "put") (hs : sz < 60) : ∀ (pl : Nat) (f : Nat → Int32), pl ≤ sz → insA f v0 pl = insA f0 v0 sz → J G X mX0_put ((a, .inr (0, [.ref b, .int (nI sz)])) :: (b, .inl (G.2.1.1, 60, .inl f)) :: r) 0 0 15 [(0, .ref a), (1, .int v0), (2, .int (nI pl))] [] := by
  intro pl
  induction pl with
  | zero =>
    intro f hp hf
    refine J.iload_n 2 dX0_put_15 rfl ?_
    refine J.if_le dX0_put_16 (fun h_1 => ?_) (fun z => absurd (by decide) z)
    refine J.aload_n 0 dX0_put_51 rfl ?_
    refine J.get 0 fl_X0_9 dX0_put_52 rfl rfl ?_
    refine J.iload_n 2 dX0_put_55 rfl ?_
    refine J.iload_n 1 dX0_put_56 rfl ?_
    refine J.iast 1 (0) dX0_put_57 rfl (rfl) (by omega) (by decide) (ws' := (a, .inr (0, [.ref b, .int (nI sz)])) :: (b, .inl (G.2.1.1, 60, .inl (upd f 0 v0))) :: r) rfl ?_
    refine J.aload_n 0 dX0_put_58 rfl ?_
    refine J.dup dX0_put_59 rfl ?_
    refine J.get 0 fl_X0_15 dX0_put_60 rfl rfl ?_
    refine J.iconst (1 : Int32) dX0_put_63 rfl ?_
    refine J.iadd dX0_put_64 ?_
    refine J.topi (y := nI (sz + 1)) (nI_add sz 1) ?_
    refine J.put 0 fp_X0_15 dX0_put_65 rfl (rfl) rfl rfl (ws' := (a, .inr (0, [.ref b, .int (nI (sz + 1))])) :: (b, .inl (G.2.1.1, 60, .inl (upd f 0 v0))) :: r) rfl ?_
    exact J.vret B dX0_put_68 rfl (⟨rfl, by rw [← hf]; rfl⟩)
  | succ pl ih =>
    intro f hp hf
    refine J.iload_n 2 dX0_put_15 rfl ?_
    refine J.if_le dX0_put_16 (fun z => absurd z (nI_nle (by omega) (by omega))) (fun h_1 => ?_)
    refine J.aload_n 0 dX0_put_19 rfl ?_
    refine J.get 0 fl_X0_9 dX0_put_20 rfl rfl ?_
    refine J.iload_n 2 dX0_put_23 rfl ?_
    refine J.iconst (1 : Int32) dX0_put_24 rfl ?_
    refine J.isub dX0_put_25 ?_
    refine J.topi (y := nI pl) (pk_sub (a := pl + 1) (b := 1) (by omega)) ?_
    refine J.iald 1 (pl) dX0_put_26 rfl (rfl) (by omega) (by decide) ?_
    refine J.iload_n 1 dX0_put_27 rfl ?_
    refine J.icmp_le dX0_put_28 (fun h9 => ?_) (fun h9 => ?_)
    · skip
      refine J.aload_n 0 dX0_put_51 rfl ?_
      refine J.get 0 fl_X0_9 dX0_put_52 rfl rfl ?_
      refine J.iload_n 2 dX0_put_55 rfl ?_
      refine J.iload_n 1 dX0_put_56 rfl ?_
      refine J.iast 1 (pl + 1) dX0_put_57 rfl (rfl) (by omega) (by decide) (ws' := (a, .inr (0, [.ref b, .int (nI sz)])) :: (b, .inl (G.2.1.1, 60, .inl (upd f (pl + 1) v0))) :: r) rfl ?_
      refine J.aload_n 0 dX0_put_58 rfl ?_
      refine J.dup dX0_put_59 rfl ?_
      refine J.get 0 fl_X0_15 dX0_put_60 rfl rfl ?_
      refine J.iconst (1 : Int32) dX0_put_63 rfl ?_
      refine J.iadd dX0_put_64 ?_
      refine J.topi (y := nI (sz + 1)) (nI_add sz 1) ?_
      refine J.put 0 fp_X0_15 dX0_put_65 rfl (rfl) rfl rfl (ws' := (a, .inr (0, [.ref b, .int (nI (sz + 1))])) :: (b, .inl (G.2.1.1, 60, .inl (upd f (pl + 1) v0))) :: r) rfl ?_
      exact J.vret B dX0_put_68 rfl (⟨rfl, by rw [← hf, insA, if_pos h9]⟩)
    · skip
      refine J.aload_n 0 dX0_put_31 rfl ?_
      refine J.get 0 fl_X0_9 dX0_put_32 rfl rfl ?_
      refine J.iload_n 2 dX0_put_35 rfl ?_
      refine J.aload_n 0 dX0_put_36 rfl ?_
      refine J.get 0 fl_X0_9 dX0_put_37 rfl rfl ?_
      refine J.iload_n 2 dX0_put_40 rfl ?_
      refine J.iconst (1 : Int32) dX0_put_41 rfl ?_
      refine J.isub dX0_put_42 ?_
      refine J.topi (y := nI pl) (pk_sub (a := pl + 1) (b := 1) (by omega)) ?_
      refine J.iald 1 (pl) dX0_put_43 rfl (rfl) (by omega) (by decide) ?_
      refine J.iast 1 (pl + 1) dX0_put_44 rfl (rfl) (by omega) (by decide) (ws' := (a, .inr (0, [.ref b, .int (nI sz)])) :: (b, .inl (G.2.1.1, 60, .inl (upd f (pl + 1) (f pl)))) :: r) rfl ?_
      refine J.iinc 2 [1, 2, 0] (lv' := [(0, .ref a), (1, .int v0), (2, .int (nI pl))]) dX0_put_45 rfl (jdec1 _) rfl rfl ?_
      refine J.goto dX0_put_48 ?_
      exact ih _ (by omega) (by rw [← hf, insA, if_neg h9])
set_option maxHeartbeats 4000000 in
set_option maxRecDepth 100000 in
theorem c_X0_put (l : Launch) (G : jG) (r : va_W) {a b sz : Nat} {f0 : Nat → Int32} {v0 : Int32} (hs : sz < 60) : Mt l G yX0_put mX0_put 0 0 0 0 [.ref a, .int v0] ((a, .inr (0, [.ref b, .int (nI sz)])) :: (b, .inl (G.2.1.1, 60, .inl f0)) :: r) (fun v w => v = none ∧ w = oX0 a b (nI (sz + 1)) :: iA G b 60 (insA f0 v0 sz) :: r) := by
  refine Mt.of (by decide +kernel) rfl rfl (fun X B => ?_)
  show J G X mX0_put ((a, .inr (0, [.ref b, .int (nI sz)])) :: (b, .inl (G.2.1.1, 60, .inl f0)) :: r) 0 0 0 [(0, .ref a), (1, .int v0)] []
  refine J.aload_n 0 dX0_put_0 rfl ?_
  refine J.get 0 fl_X0_15 dX0_put_1 rfl rfl ?_
  refine J.bipush (60 : Int32) dX0_put_4 rfl ?_
  refine J.icmp_lt dX0_put_6 (fun h9 => ?_) (fun h9 => ?_)
  · skip
    have h9 : sz < 60 := (nI_ltI (a := sz) (b := 60) (by omega) (by omega)).mp h9
    refine J.aload_n 0 dX0_put_10 rfl ?_
    refine J.get 0 fl_X0_15 dX0_put_11 rfl rfl ?_
    refine J.istore_n [1, 2, 0] (lv' := [(0, .ref a), (1, .int v0), (2, .int (nI sz))]) dX0_put_14 rfl rfl ?_
    exact X0_put_lp B hs sz f0 (Nat.le_refl _) rfl
  · skip
    have h9 : ¬ sz < 60 := fun z => h9 ((nI_ltI (a := sz) (b := 60) (by omega) (by omega)).mpr z)
    exact absurd hs h9
set_option maxHeartbeats 4000000 in
set_option maxRecDepth 100000 in
theorem c_X0_middle (l : Launch) (G : jG) (r : va_W) {a b sz : Nat} {f : Nat → Int32} (hs : sz ≤ 60) (hs0 : sz < 120) : Mt l G yX0_middle mX0_middle 0 0 0 0 [.ref a] ((a, .inr (0, [.ref b, .int (nI sz)])) :: (b, .inl (G.2.1.1, 60, .inl f)) :: r) (fun v w => v = some (.int (if sz = 0 then 0 else f (sz / 2))) ∧ w = oX0 a b (nI sz) :: iA G b 60 f :: r) := by
  refine Mt.of (by decide +kernel) rfl rfl (fun X B => ?_)
  show J G X mX0_middle ((a, .inr (0, [.ref b, .int (nI sz)])) :: (b, .inl (G.2.1.1, 60, .inl f)) :: r) 0 0 0 [(0, .ref a)] []
  refine J.aload_n 0 dX0_middle_0 rfl ?_
  refine J.get 0 fl_X0_15 dX0_middle_1 rfl rfl ?_
  refine J.if_ne dX0_middle_4 (fun h9 => ?_) (fun h9 => ?_)
  · skip
    have h9 : ¬ sz = 0 := fun z => h9 ((nI_eq (a := sz) (b := 0) (by omega) (by omega)).mpr z)
    refine J.aload_n 0 dX0_middle_11 rfl ?_
    refine J.get 0 fl_X0_9 dX0_middle_12 rfl rfl ?_
    refine J.aload_n 0 dX0_middle_15 rfl ?_
    refine J.get 0 fl_X0_15 dX0_middle_16 rfl rfl ?_
    refine J.iconst (2 : Int32) dX0_middle_19 rfl ?_
    refine J.idiv dX0_middle_20 (by decide) ?_
    refine J.topi (y := nI (sz / 2)) (pk_div (a := sz) (d := 2) (by omega) (by omega) (by omega)) ?_
    refine J.iald 1 (sz / 2) dX0_middle_21 rfl (rfl) (by omega) (by decide) ?_
    exact J.iret B dX0_middle_22 rfl (⟨by simp [h9], rfl⟩)
  · skip
    have h9 : sz = 0 := (nI_eq (a := sz) (b := 0) (by omega) (by omega)).mp h9
    refine J.iconst (0 : Int32) dX0_middle_7 rfl ?_
    refine J.goto dX0_middle_8 ?_
    exact J.iret B dX0_middle_22 rfl (⟨by simp [h9], rfl⟩)
set_option maxHeartbeats 4000000 in
set_option maxRecDepth 100000 in
theorem c_X0_spread (l : Launch) (G : jG) (r : va_W) {a b sz : Nat} {f : Nat → Int32} (hs : sz ≤ 60) : Mt l G yX0_spread mX0_spread 0 0 0 0 [.ref a] ((a, .inr (0, [.ref b, .int (nI sz)])) :: (b, .inl (G.2.1.1, 60, .inl f)) :: r) (fun v w => v = some (.int (if sz = 0 then 0 else f (sz - 1) - f 0)) ∧ w = oX0 a b (nI sz) :: iA G b 60 f :: r) := by
  refine Mt.of (by decide +kernel) rfl rfl (fun X B => ?_)
  show J G X mX0_spread ((a, .inr (0, [.ref b, .int (nI sz)])) :: (b, .inl (G.2.1.1, 60, .inl f)) :: r) 0 0 0 [(0, .ref a)] []
  refine J.aload_n 0 dX0_spread_0 rfl ?_
  refine J.get 0 fl_X0_15 dX0_spread_1 rfl rfl ?_
  refine J.if_ne dX0_spread_4 (fun h9 => ?_) (fun h9 => ?_)
  · skip
    have h9 : ¬ sz = 0 := fun z => h9 ((nI_eq (a := sz) (b := 0) (by omega) (by omega)).mpr z)
    refine J.aload_n 0 dX0_spread_11 rfl ?_
    refine J.get 0 fl_X0_9 dX0_spread_12 rfl rfl ?_
    refine J.aload_n 0 dX0_spread_15 rfl ?_
    refine J.get 0 fl_X0_15 dX0_spread_16 rfl rfl ?_
    refine J.iconst (1 : Int32) dX0_spread_19 rfl ?_
    refine J.isub dX0_spread_20 ?_
    refine J.topi (y := nI (sz - 1)) (pk_sub (a := sz) (b := 1) (by omega)) ?_
    refine J.iald 1 (sz - 1) dX0_spread_21 rfl (rfl) (by omega) (by decide) ?_
    refine J.aload_n 0 dX0_spread_22 rfl ?_
    refine J.get 0 fl_X0_9 dX0_spread_23 rfl rfl ?_
    refine J.iconst (0 : Int32) dX0_spread_26 rfl ?_
    refine J.iald 1 (0) dX0_spread_27 rfl (rfl) (by omega) (by decide) ?_
    refine J.isub dX0_spread_28 ?_
    exact J.iret B dX0_spread_29 rfl (⟨by simp [h9], rfl⟩)
  · skip
    have h9 : sz = 0 := (nI_eq (a := sz) (b := 0) (by omega) (by omega)).mp h9
    refine J.iconst (0 : Int32) dX0_spread_7 rfl ?_
    refine J.goto dX0_spread_8 ?_
    exact J.iret B dX0_spread_29 rfl (⟨by simp [h9], rfl⟩)
end
section
set_option maxHeartbeats 4000000 in
set_option maxRecDepth 100000 in
theorem X1_gather_lp {l : Launch} {G : jG} {X : jX} {r : va_W} {c ta ua s la fa : Nat} {kd hr wc : Int32} {L F : Nat → Int32} (B : jB l G X 0 0 0 0 (fun v w => ∃ t u, CV L F t u ∧ v = none ∧ w = oX1 c ta ua (nI (nN L)) :: iA G ta 60 t :: iA G ua 60 u :: (s, .inr (6, [.int kd, .ref la, .int hr, .int wc])) :: iA G la 60 L :: iA G fa 60 F :: r) "gather") (k : Nat) (t u : Nat → Int32) (hk : k ≤ 60) (hc : CVk L F k t u) : J G X mX1_gather ((c, .inr (1, [.ref ta, .ref ua, .int (nI ((nts L k).length))])) :: (ta, .inl (G.2.1.1, 60, .inl t)) :: (ua, .inl (G.2.1.1, 60, .inl u)) :: (s, .inr (6, [.int kd, .ref la, .int hr, .int wc])) :: (la, .inl (G.2.1.1, 60, .inl L)) :: (fa, .inl (G.2.1.1, 60, .inl F)) :: r) 0 0 7 [(0, .ref c), (1, .ref s), (2, .ref fa), (3, .int (nI k))] [] := by
  refine J.iload_n 3 dX1_gather_7 rfl ?_
  refine J.bipush (60 : Int32) dX1_gather_8 rfl ?_
  refine J.icmp_ge dX1_gather_10 (fun h9 => ?_) (fun h9 => ?_)
  · skip
    have h9 : 60 ≤ k := (nI_leI (a := 60) (b := k) (by omega) (by omega)).mp h9
    have e : k = 60 := by omega
    subst e
    exact J.vret B dX1_gather_69 rfl (⟨t, u, hc, rfl, rfl⟩)
  · skip
    have h9 : ¬ 60 ≤ k := fun z => h9 ((nI_leI (a := 60) (b := k) (by omega) (by omega)).mpr z)
    refine J.aload_n 1 dX1_gather_13 rfl ?_
    refine J.get 3 fl_X1_22 dX1_gather_14 rfl rfl ?_
    refine J.iload_n 3 dX1_gather_17 rfl ?_
    refine J.iald 4 (k) dX1_gather_18 rfl (rfl) (by omega) (by decide) ?_
    refine J.bipush (-9 : Int32) dX1_gather_19 rfl ?_
    refine J.icmp_eq dX1_gather_21 (fun h8 => ?_) (fun h8 => ?_)
    · skip
      rw [← nts_no h8]
      refine J.iinc 3 [1, 2, 3, 0] (lv' := [(0, .ref c), (1, .ref s), (2, .ref fa), (3, .int (nI (k + 1)))]) dX1_gather_63 rfl (jinc1 _) rfl rfl ?_
      refine J.goto dX1_gather_66 ?_
      exact X1_gather_lp B (k + 1) t u (by omega) (CVk_no h8 hc)
    · skip
      have hz := nts_le L k
      refine J.aload_n 0 dX1_gather_24 rfl ?_
      refine J.get 0 fl_X1_9 dX1_gather_25 rfl rfl ?_
      refine J.aload_n 0 dX1_gather_28 rfl ?_
      refine J.get 0 fl_X1_18 dX1_gather_29 rfl rfl ?_
      refine J.iload_n 3 dX1_gather_32 rfl ?_
      refine J.iast 1 ((nts L k).length) dX1_gather_33 rfl (rfl) (by omega) (by decide) (ws' := (c, .inr (1, [.ref ta, .ref ua, .int (nI ((nts L k).length))])) :: (ta, .inl (G.2.1.1, 60, .inl (upd t ((nts L k).length) (nI k)))) :: (ua, .inl (G.2.1.1, 60, .inl u)) :: (s, .inr (6, [.int kd, .ref la, .int hr, .int wc])) :: (la, .inl (G.2.1.1, 60, .inl L)) :: (fa, .inl (G.2.1.1, 60, .inl F)) :: r) rfl ?_
      refine J.aload_n 0 dX1_gather_34 rfl ?_
      refine J.get 0 fl_X1_15 dX1_gather_35 rfl rfl ?_
      refine J.aload_n 0 dX1_gather_38 rfl ?_
      refine J.get 0 fl_X1_18 dX1_gather_39 rfl rfl ?_
      refine J.aload_n 1 dX1_gather_42 rfl ?_
      refine J.get 3 fl_X1_22 dX1_gather_43 rfl rfl ?_
      refine J.iload_n 3 dX1_gather_46 rfl ?_
      refine J.iald 4 (k) dX1_gather_47 rfl (rfl) (by omega) (by decide) ?_
      refine J.aload_n 2 dX1_gather_48 rfl ?_
      refine J.iload_n 3 dX1_gather_49 rfl ?_
      refine J.iald 5 (k) dX1_gather_50 rfl (rfl) (by omega) (by decide) ?_
      refine J.isub dX1_gather_51 ?_
      refine J.iast 2 ((nts L k).length) dX1_gather_52 rfl (rfl) (by omega) (by decide) (ws' := (c, .inr (1, [.ref ta, .ref ua, .int (nI ((nts L k).length))])) :: (ta, .inl (G.2.1.1, 60, .inl (upd t ((nts L k).length) (nI k)))) :: (ua, .inl (G.2.1.1, 60, .inl (upd u ((nts L k).length) ((L k) - (F k))))) :: (s, .inr (6, [.int kd, .ref la, .int hr, .int wc])) :: (la, .inl (G.2.1.1, 60, .inl L)) :: (fa, .inl (G.2.1.1, 60, .inl F)) :: r) rfl ?_
      refine J.aload_n 0 dX1_gather_53 rfl ?_
      refine J.dup dX1_gather_54 rfl ?_
      refine J.get 0 fl_X1_18 dX1_gather_55 rfl rfl ?_
      refine J.iconst (1 : Int32) dX1_gather_58 rfl ?_
      refine J.iadd dX1_gather_59 ?_
      refine J.topi (y := nI (((nts L k).length) + 1)) (nI_add ((nts L k).length) 1) ?_
      refine J.put 0 fp_X1_18 dX1_gather_60 rfl (rfl) rfl rfl (ws' := (c, .inr (1, [.ref ta, .ref ua, .int (nI (((nts L k).length) + 1))])) :: (ta, .inl (G.2.1.1, 60, .inl (upd t ((nts L k).length) (nI k)))) :: (ua, .inl (G.2.1.1, 60, .inl (upd u ((nts L k).length) ((L k) - (F k))))) :: (s, .inr (6, [.int kd, .ref la, .int hr, .int wc])) :: (la, .inl (G.2.1.1, 60, .inl L)) :: (fa, .inl (G.2.1.1, 60, .inl F)) :: r) rfl ?_
      refine J.iinc 3 [1, 2, 3, 0] (lv' := [(0, .ref c), (1, .ref s), (2, .ref fa), (3, .int (nI (k + 1)))]) dX1_gather_63 rfl (jinc1 _) rfl rfl ?_
      refine J.goto dX1_gather_66 ?_
      rw [← nts_yes_len h8]
      exact X1_gather_lp B (k + 1) _ _ (by omega) (CVk_yes h8 hc)
termination_by 60 - k
decreasing_by all_goals omega
set_option maxHeartbeats 4000000 in
set_option maxRecDepth 100000 in
theorem c_X1_gather (l : Launch) (G : jG) (r : va_W) {c ta ua s la fa : Nat} {kd hr wc : Int32} {L F : Nat → Int32} {sz : Int32} {t u : Nat → Int32} : Mt l G yX1_gather mX1_gather 0 0 0 0 [.ref c, .ref s, .ref fa] ((c, .inr (1, [.ref ta, .ref ua, .int sz])) :: (ta, .inl (G.2.1.1, 60, .inl t)) :: (ua, .inl (G.2.1.1, 60, .inl u)) :: (s, .inr (6, [.int kd, .ref la, .int hr, .int wc])) :: (la, .inl (G.2.1.1, 60, .inl L)) :: (fa, .inl (G.2.1.1, 60, .inl F)) :: r) (fun v w => ∃ t u, CV L F t u ∧ v = none ∧ w = oX1 c ta ua (nI (nN L)) :: iA G ta 60 t :: iA G ua 60 u :: (s, .inr (6, [.int kd, .ref la, .int hr, .int wc])) :: iA G la 60 L :: iA G fa 60 F :: r) := by
  refine Mt.of (by decide +kernel) rfl rfl (fun X B => ?_)
  show J G X mX1_gather ((c, .inr (1, [.ref ta, .ref ua, .int sz])) :: (ta, .inl (G.2.1.1, 60, .inl t)) :: (ua, .inl (G.2.1.1, 60, .inl u)) :: (s, .inr (6, [.int kd, .ref la, .int hr, .int wc])) :: (la, .inl (G.2.1.1, 60, .inl L)) :: (fa, .inl (G.2.1.1, 60, .inl F)) :: r) 0 0 0 [(0, .ref c), (1, .ref s), (2, .ref fa)] []
  refine J.aload_n 0 dX1_gather_0 rfl ?_
  refine J.iconst (0 : Int32) dX1_gather_1 rfl ?_
  refine J.put 0 fp_X1_18 dX1_gather_2 rfl (rfl) rfl rfl (ws' := (c, .inr (1, [.ref ta, .ref ua, .int (0 : Int32)])) :: (ta, .inl (G.2.1.1, 60, .inl t)) :: (ua, .inl (G.2.1.1, 60, .inl u)) :: (s, .inr (6, [.int kd, .ref la, .int hr, .int wc])) :: (la, .inl (G.2.1.1, 60, .inl L)) :: (fa, .inl (G.2.1.1, 60, .inl F)) :: r) rfl ?_
  refine J.iconst (0 : Int32) dX1_gather_5 rfl ?_
  refine J.istore_n [1, 2, 3, 0] (lv' := [(0, .ref c), (1, .ref s), (2, .ref fa), (3, .int (0 : Int32))]) dX1_gather_6 rfl rfl ?_
  exact X1_gather_lp B 0 t u (by omega) CVk_0
set_option maxHeartbeats 4000000 in
set_option maxRecDepth 100000 in
theorem X1_sum_lp {l : Launch} {G : jG} {X : jX} {r : va_W} {c ta ua n : Nat} {u : Nat → Int32} (B : jB l G X 0 0 0 0 (fun v w => v = some (.long (sm64 u n)) ∧ w = oX1 c ta ua (nI n) :: iA G ua 60 u :: r) "sum") (k : Nat) (hn : n ≤ 60) (hk : k ≤ n) : J G X mX1_sum ((c, .inr (1, [.ref ta, .ref ua, .int (nI n)])) :: (ua, .inl (G.2.1.1, 60, .inl u)) :: r) 0 0 4 [(0, .ref c), (1, .long (sm64 u k)), (3, .int (nI k))] [] := by
  refine J.iload_n 2 dX1_sum_4 rfl ?_
  refine J.aload_n 0 dX1_sum_5 rfl ?_
  refine J.get 0 fl_X1_18 dX1_sum_6 rfl rfl ?_
  refine J.icmp_ge dX1_sum_9 (fun h9 => ?_) (fun h9 => ?_)
  · skip
    have h9 : n ≤ k := (nI_leI (a := n) (b := k) (by omega) (by omega)).mp h9
    have e : k = n := by omega
    subst e
    refine J.lload_n 1 dX1_sum_28 rfl ?_
    exact J.lret B dX1_sum_29 rfl (⟨rfl, rfl⟩)
  · skip
    have h9 : ¬ n ≤ k := fun z => h9 ((nI_leI (a := n) (b := k) (by omega) (by omega)).mpr z)
    refine J.lload_n 1 dX1_sum_12 rfl ?_
    refine J.aload_n 0 dX1_sum_13 rfl ?_
    refine J.get 0 fl_X1_15 dX1_sum_14 rfl rfl ?_
    refine J.iload_n 2 dX1_sum_17 rfl ?_
    refine J.iald 1 (k) dX1_sum_18 rfl (rfl) (by omega) (by decide) ?_
    refine J.i2l dX1_sum_19 ?_
    refine J.ladd dX1_sum_20 ?_
    refine J.lstore_n [1, 0, 2] (lv' := [(0, .ref c), (1, .long ((sm64 u k) + ((u k).toInt64))), (3, .int (nI k))]) dX1_sum_21 rfl rfl ?_
    refine J.iinc 2 [1, 2, 0] (lv' := [(0, .ref c), (1, .long ((sm64 u k) + ((u k).toInt64))), (3, .int (nI (k + 1)))]) dX1_sum_22 rfl (jinc1 _) rfl rfl ?_
    refine J.goto dX1_sum_25 ?_
    exact X1_sum_lp B (k + 1) hn (by omega)
termination_by n - k
decreasing_by all_goals omega
set_option maxHeartbeats 4000000 in
set_option maxRecDepth 100000 in
theorem c_X1_sum (l : Launch) (G : jG) (r : va_W) {c ta ua n : Nat} {u : Nat → Int32} (hn : n ≤ 60) : Mt l G yX1_sum mX1_sum 0 0 0 0 [.ref c] ((c, .inr (1, [.ref ta, .ref ua, .int (nI n)])) :: (ua, .inl (G.2.1.1, 60, .inl u)) :: r) (fun v w => v = some (.long (sm64 u n)) ∧ w = oX1 c ta ua (nI n) :: iA G ua 60 u :: r) := by
  refine Mt.of (by decide +kernel) rfl rfl (fun X B => ?_)
  show J G X mX1_sum ((c, .inr (1, [.ref ta, .ref ua, .int (nI n)])) :: (ua, .inl (G.2.1.1, 60, .inl u)) :: r) 0 0 0 [(0, .ref c)] []
  refine J.lconst 0 dX1_sum_0 rfl ?_
  refine J.lstore_n [1, 0] (lv' := [(0, .ref c), (1, .long (0 : Int64))]) dX1_sum_1 rfl rfl ?_
  refine J.iconst (0 : Int32) dX1_sum_2 rfl ?_
  refine J.istore_n [1, 2, 0] (lv' := [(0, .ref c), (1, .long (0 : Int64)), (3, .int (0 : Int32))]) dX1_sum_3 rfl rfl ?_
  exact X1_sum_lp B 0 hn (by omega)
set_option maxHeartbeats 4000000 in
set_option maxRecDepth 100000 in
theorem c_X1_average (l : Launch) (G : jG) (r : va_W) {c ta ua n : Nat} {u : Nat → Int32} (hn : n ≤ 60) : Mt l G yX1_average mX1_average 1 23 0 0 [.ref c] ((c, .inr (1, [.ref ta, .ref ua, .int (nI n)])) :: (ua, .inl (G.2.1.1, 60, .inl u)) :: r) (fun v w => v = some (.long (if n = 0 then 0 else sm64 u n / (nI n).toInt64)) ∧ w = oX1 c ta ua (nI n) :: iA G ua 60 u :: r) := by
  refine Mt.of (by decide +kernel) rfl rfl (fun X B => ?_)
  show J G X mX1_average ((c, .inr (1, [.ref ta, .ref ua, .int (nI n)])) :: (ua, .inl (G.2.1.1, 60, .inl u)) :: r) 0 0 0 [(0, .ref c)] []
  refine J.aload_n 0 dX1_average_0 rfl ?_
  refine J.get 0 fl_X1_18 dX1_average_1 rfl rfl ?_
  refine J.if_ne dX1_average_4 (fun h9 => ?_) (fun h9 => ?_)
  · skip
    have h9 : ¬ n = 0 := fun z => h9 ((nI_eq (a := n) (b := 0) (by omega) (by omega)).mpr z)
    refine J.aload_n 0 dX1_average_11 rfl ?_
    refine J.callV 0 (st := []) B (c_X1_sum l G _ hn) ml_X1_25 mf_yX1_sum mi_yX1_sum rfl dX1_average_12 rfl rfl rfl rfl (fun v_1 w_2 hp_3 => ?_)
    obtain ⟨rfl, rfl⟩ := hp_3
    show J G X mX1_average _ _ _ 15 _ [.long (sm64 u n)]
    refine J.aload_n 0 dX1_average_15 rfl ?_
    refine J.get 0 fl_X1_18 dX1_average_16 rfl rfl ?_
    refine J.i2l dX1_average_19 ?_
    refine J.ldiv dX1_average_20 (nI64_ne0 (by omega) (by omega)) ?_
    exact J.lret B dX1_average_21 rfl (⟨by simp [h9], rfl⟩)
  · skip
    have h9 : n = 0 := (nI_eq (a := n) (b := 0) (by omega) (by omega)).mp h9
    refine J.lconst 0 dX1_average_7 rfl ?_
    refine J.goto dX1_average_8 ?_
    exact J.lret B dX1_average_21 rfl (⟨by simp [h9], rfl⟩)
set_option maxHeartbeats 4000000 in
set_option maxRecDepth 100000 in
theorem J7_fill_lp {l : Launch} {G : jG} {X : jX} {r : va_W} {a n : Nat} {f : Nat → Int32} {v0 : Int32} (B : jB l G X 0 0 0 0 (fun v w => v = none ∧ w = iA G a n (flA f v0 n) :: r) "fill") (k : Nat) (hn : n < 2 ^ 31) (hk : k ≤ n) : J G X mJ7_fill_53178 ((a, .inl (G.2.1.1, n, .inl (flA f v0 k))) :: r) 0 0 5 [(0, .ref a), (1, .int v0), (2, .int (nI k)), (3, .int (nI n))] [] := by
  refine J.iload_n 2 dJ7_fill_53178_5 rfl ?_
  refine J.iload_n 3 dJ7_fill_53178_6 rfl ?_
  refine J.icmp_ge dJ7_fill_53178_7 (fun h9 => ?_) (fun h9 => ?_)
  · skip
    have h9 : n ≤ k := (nI_leI (a := n) (b := k) (by omega) (by omega)).mp h9
    have e : k = n := by omega
    subst e
    exact J.vret B dJ7_fill_53178_20 rfl (⟨rfl, rfl⟩)
  · skip
    have h9 : ¬ n ≤ k := fun z => h9 ((nI_leI (a := n) (b := k) (by omega) (by omega)).mpr z)
    refine J.aload_n 0 dJ7_fill_53178_10 rfl ?_
    refine J.iload_n 2 dJ7_fill_53178_11 rfl ?_
    refine J.iload_n 1 dJ7_fill_53178_12 rfl ?_
    refine J.iast 0 (k) dJ7_fill_53178_13 rfl (rfl) (by omega) (hn) (ws' := (a, .inl (G.2.1.1, n, .inl (upd (flA f v0 k) k v0))) :: r) rfl ?_
    rw [show upd (flA f v0 k) k v0 = flA f v0 (k + 1) from flA_s f v0 k]
    refine J.iinc 2 [1, 2, 0, 3] (lv' := [(0, .ref a), (1, .int v0), (2, .int (nI (k + 1))), (3, .int (nI n))]) dJ7_fill_53178_14 rfl (jinc1 _) rfl rfl ?_
    refine J.goto dJ7_fill_53178_17 ?_
    exact J7_fill_lp B (k + 1) hn (by omega)
termination_by n - k
decreasing_by all_goals omega
set_option maxHeartbeats 4000000 in
set_option maxRecDepth 100000 in
theorem c_J7_fill_53178 (l : Launch) (G : jG) (r : va_W) {a n : Nat} {f : Nat → Int32} {v0 : Int32} (hn : n < 2 ^ 31) : Mt l G yJ7_fill_53178 mJ7_fill_53178 0 0 0 0 [.ref a, .int v0] ((a, .inl (G.2.1.1, n, .inl f)) :: r) (fun v w => v = none ∧ w = iA G a n (flA f v0 n) :: r) := by
  refine Mt.of (by decide +kernel) rfl rfl (fun X B => ?_)
  show J G X mJ7_fill_53178 ((a, .inl (G.2.1.1, n, .inl f)) :: r) 0 0 0 [(0, .ref a), (1, .int v0)] []
  refine J.iconst (0 : Int32) dJ7_fill_53178_0 rfl ?_
  refine J.istore_n [1, 2, 0] (lv' := [(0, .ref a), (1, .int v0), (2, .int (0 : Int32))]) dJ7_fill_53178_1 rfl rfl ?_
  refine J.aload_n 0 dJ7_fill_53178_2 rfl ?_
  refine J.alen 0 0 (nI n) dJ7_fill_53178_3 rfl rfl rfl ?_
  refine J.istore_n [1, 2, 3, 0] (lv' := [(0, .ref a), (1, .int v0), (2, .int (0 : Int32)), (3, .int (nI n))]) dJ7_fill_53178_4 rfl rfl ?_
  refine J.world (w2 := iA G a n (flA f v0 0) :: r) (by rw [flA_0]) ?_
  exact J7_fill_lp B 0 hn (by omega)
end
section
theorem fb_rng (x : Int32) : -2147483648 ≤ x.toInt ∧ x.toInt < 2147483648 := by
  have h1 := Int32.le_toInt x
  have h2 := Int32.toInt_lt x
  omega
theorem fb_bmod {z : Int} (h1 : -2147483648 ≤ z) (h2 : z < 2147483648) : z.bmod (2 ^ 32) = z := by
  rw [Int.bmod_eq_of_le (by omega) (by omega)]
theorem fb_addI {x y : Int32} (h1 : -2147483648 ≤ x.toInt + y.toInt) (h2 : x.toInt + y.toInt < 2147483648) : (x + y).toInt = x.toInt + y.toInt := by
  rw [Int32.toInt_add, fb_bmod h1 h2]
theorem fb_subI {x y : Int32} (h1 : -2147483648 ≤ x.toInt - y.toInt) (h2 : x.toInt - y.toInt < 2147483648) : (x - y).toInt = x.toInt - y.toInt := by
  rw [Int32.toInt_sub, fb_bmod h1 h2]
theorem fb_mulI {x y : Int32} (h1 : -2147483648 ≤ x.toInt * y.toInt) (h2 : x.toInt * y.toInt < 2147483648) : (x * y).toInt = x.toInt * y.toInt := by
  rw [Int32.toInt_mul, fb_bmod h1 h2]
theorem fb_negI {x : Int32} (h : x.toInt ≠ -2147483648) : (-x).toInt = -x.toInt := by
  have := fb_rng x
  rw [Int32.toInt_neg, fb_bmod (by omega) (by omega)]
theorem fb_ofI {z : Int} (h1 : -2147483648 ≤ z) (h2 : z < 2147483648) : (Int32.ofInt z).toInt = z := by
  rw [Int32.toInt_ofInt, fb_bmod h1 h2]
theorem fb_asI (x : Int32) : Int32.ofInt x.toInt = x := Int32.ofInt_toInt x
theorem fb_rngL (x : Int64) : -9223372036854775808 ≤ x.toInt ∧ x.toInt < 9223372036854775808 := by
  have h1 := Int64.le_toInt x
  have h2 := Int64.toInt_lt x
  omega
theorem fb_bmodL {z : Int} (h1 : -9223372036854775808 ≤ z) (h2 : z < 9223372036854775808) : z.bmod (2 ^ 64) = z := by
  rw [Int.bmod_eq_of_le (by omega) (by omega)]
theorem fb_addL {x y : Int64} (h1 : -9223372036854775808 ≤ x.toInt + y.toInt) (h2 : x.toInt + y.toInt < 9223372036854775808) : (x + y).toInt = x.toInt + y.toInt := by
  rw [Int64.toInt_add, fb_bmodL h1 h2]
theorem fb_subL {x y : Int64} (h1 : -9223372036854775808 ≤ x.toInt - y.toInt) (h2 : x.toInt - y.toInt < 9223372036854775808) : (x - y).toInt = x.toInt - y.toInt := by
  rw [Int64.toInt_sub, fb_bmodL h1 h2]
theorem fb_mulL {x y : Int64} (h1 : -9223372036854775808 ≤ x.toInt * y.toInt) (h2 : x.toInt * y.toInt < 9223372036854775808) : (x * y).toInt = x.toInt * y.toInt := by
  rw [Int64.toInt_mul, fb_bmodL h1 h2]
theorem fa_lt (a b : Int32) : a < b ↔ a.toInt < b.toInt := Int32.lt_iff_toInt_lt
theorem fa_le (a b : Int32) : a ≤ b ↔ a.toInt ≤ b.toInt := Int32.le_iff_toInt_le
theorem fa_eq (a b : Int32) : a = b ↔ a.toInt = b.toInt := Int32.toInt_inj.symm
theorem fa_lt64 (a b : Int64) : a < b ↔ a.toInt < b.toInt := Int64.lt_iff_toInt_lt
theorem fa_le64 (a b : Int64) : a ≤ b ↔ a.toInt ≤ b.toInt := Int64.le_iff_toInt_le
theorem fa_eq64 (a b : Int64) : a = b ↔ a.toInt = b.toInt := Int64.toInt_inj.symm
/-- a comparison of two ints taken as longs -/
theorem fa_wide_lt (a b : Int32) : a.toInt64 < b.toInt64 ↔ a < b := by rw [fa_lt64, fa_lt, Int32.toInt_toInt64, Int32.toInt_toInt64]
theorem fa_wide_le (a b : Int32) : a.toInt64 ≤ b.toInt64 ↔ a ≤ b := by rw [fa_le64, fa_le, Int32.toInt_toInt64, Int32.toInt_toInt64]
theorem fa_wide_eq (a b : Int32) : a.toInt64 = b.toInt64 ↔ a = b := by rw [fa_eq64, fa_eq, Int32.toInt_toInt64, Int32.toInt_toInt64]

theorem xor_neg (x y : Int32) (hy : 0 < y) : 0 ≤ x ^^^ y ↔ 0 ≤ x := by
  have key : ∀ z : Int32, (0 ≤ z ↔ z.toBitVec.msb = false) := by
    intro z
    rw [fa_le, BitVec.msb_eq_toInt]
    show (0 : Int) ≤ z.toInt ↔ _
    rw [decide_eq_false_iff_not]
    show (0 : Int) ≤ z.toInt ↔ ¬ z.toInt < 0
    omega
  have hy2 : y.toBitVec.msb = false := (key y).mp (by rw [fa_le]; rw [fa_lt] at hy; omega)
  rw [key, key, Int32.toBitVec_xor, BitVec.msb_xor, hy2]
  simp
theorem irem_toInt (x y : Int32) : (x - x / y * y).toInt = x.toInt.tmod y.toInt := rem_toInt x y
theorem fmod_a {x y : Int32} (hy : 0 < y) (h : 0 ≤ x ^^^ y) : x - x / y * y = Int32.ofInt (x.toInt % y.toInt) := by
  rw [xor_neg x y hy, fa_le] at h
  rw [fa_lt] at hy
  have h0 : (0 : Int32).toInt = 0 := rfl
  rw [h0] at h hy
  have e := irem_toInt x y
  rw [Int.tmod_eq_emod_of_nonneg h] at e
  rw [← e, fb_asI]
theorem fmod_b {x y : Int32} (hy : 0 < y) (h : ¬ 0 ≤ x ^^^ y) (hz : x - x / y * y = 0) : x - x / y * y = Int32.ofInt (x.toInt % y.toInt) := by
  have e := irem_toInt x y
  rw [hz] at e ⊢
  have h0 : (0 : Int32).toInt = 0 := rfl
  rw [h0] at e
  have h1 : x.toInt % y.toInt = 0 := Int.emod_eq_zero_of_dvd (Int.dvd_of_tmod_eq_zero e.symm)
  rw [h1]
  rfl
theorem fmod_c {x y : Int32} (hy : 0 < y) (h : ¬ 0 ≤ x ^^^ y) (hz : ¬ x - x / y * y = 0) : x - x / y * y + y = Int32.ofInt (x.toInt % y.toInt) := by
  rw [xor_neg x y hy, fa_le] at h
  rw [fa_lt] at hy
  have h0 : (0 : Int32).toInt = 0 := rfl
  rw [h0] at h hy
  have e := irem_toInt x y
  have hz2 : ¬ x.toInt.tmod y.toInt = 0 := fun z => hz (Int32.toInt_inj.mp (by rw [e, z]; rfl))
  have r1 := fb_rng y
  have r2 := fb_rng x
  have b1 := Int.emod_nonneg x.toInt (show y.toInt ≠ 0 by omega)
  have b2 := Int.emod_lt_of_pos x.toInt hy
  have e2 : x.toInt.tmod y.toInt + y.toInt = x.toInt % y.toInt := by
    have m1 : x.toInt.tmod y.toInt = -((-x.toInt) % y.toInt) := by
      rw [show x.toInt = -(-x.toInt) by omega, Int.neg_tmod, Int.tmod_eq_emod_of_nonneg (by omega)]
      simp
    rw [m1] at hz2 ⊢
    have c1 := Int.emod_nonneg (-x.toInt) (show y.toInt ≠ 0 by omega)
    have c2 := Int.emod_lt_of_pos (-x.toInt) hy
    have d1 := Int.mul_ediv_add_emod x.toInt y.toInt
    have d2 := Int.mul_ediv_add_emod (-x.toInt) y.toInt
    have d3 : y.toInt * (x.toInt / y.toInt + -x.toInt / y.toInt) = -(x.toInt % y.toInt + -x.toInt % y.toInt) := by
      rw [Int.mul_add]; omega
    generalize x.toInt % y.toInt = a at *
    generalize -x.toInt % y.toInt = b at *
    generalize x.toInt / y.toInt + -x.toInt / y.toInt = q at *
    have : q = -1 := by
      rcases Int.lt_trichotomy q (-1) with h3 | h3 | h3
      · have := Int.mul_le_mul_of_nonneg_left (show q ≤ -2 by omega) (Int.le_of_lt hy)
        omega
      · exact h3
      · have := Int.mul_le_mul_of_nonneg_left (show 0 ≤ q by omega) (Int.le_of_lt hy)
        omega
    subst this
    omega
  apply Int32.toInt_inj.mp
  rw [fb_addI (by rw [e]; omega) (by rw [e]; omega), e, e2, fb_ofI (by omega) (by omega)]
theorem idiv_toInt {x y : Int32} (hy : 0 < y) : (x / y).toInt = x.toInt.tdiv y.toInt := by
  apply Int32.toInt_div_of_ne_right
  intro z
  subst z
  exact absurd hy (by decide)
theorem fdiv_a {x y : Int32} (hy : 0 < y) (h : 0 ≤ x ^^^ y) : x / y = Int32.ofInt (x.toInt / y.toInt) := by
  rw [xor_neg x y hy, fa_le] at h
  have e := idiv_toInt (x := x) hy
  have h0 : (0 : Int32).toInt = 0 := rfl
  rw [h0] at h
  rw [Int.tdiv_eq_ediv_of_nonneg h] at e
  rw [← e, fb_asI]
theorem tdiv_neg_ediv {a b : Int} (ha : a < 0) (hb : 0 < b) : (a.tdiv b * b = a → a.tdiv b = a / b) ∧ (¬ a.tdiv b * b = a → a.tdiv b - 1 = a / b) := by
  have m1 : a.tdiv b = -((-a) / b) := by
    rw [show a.tdiv b = (-(-a)).tdiv b by rw [Int.neg_neg], Int.neg_tdiv, Int.tdiv_eq_ediv_of_nonneg (by omega)]
  rw [m1]
  have c1 := Int.emod_nonneg (-a) (show b ≠ 0 by omega)
  have c2 := Int.emod_lt_of_pos (-a) hb
  have e1 := Int.emod_nonneg a (show b ≠ 0 by omega)
  have e2 := Int.emod_lt_of_pos a hb
  have d1 := Int.mul_ediv_add_emod a b
  have d2 := Int.mul_ediv_add_emod (-a) b
  have d3 : b * (a / b + -a / b) = -(a % b + -a % b) := by rw [Int.mul_add]; omega
  have d4 : -(-a / b) * b = -(b * (-a / b)) := by rw [Int.neg_mul, Int.mul_comm]
  rw [d4]
  generalize a % b = u at *
  generalize -a % b = v at *
  generalize hq : a / b + -a / b = q at *
  have hq2 : q = 0 ∨ q = -1 := by
    rcases Int.lt_trichotomy q (-1) with h3 | h3 | h3
    · have := Int.mul_le_mul_of_nonneg_left (show q ≤ -2 by omega) (Int.le_of_lt hb)
      omega
    · exact Or.inr h3
    · rcases Int.lt_trichotomy q 0 with h4 | h4 | h4
      · omega
      · exact Or.inl h4
      · have := Int.mul_le_mul_of_nonneg_left (show 1 ≤ q by omega) (Int.le_of_lt hb)
        omega
  constructor
  · intro h
    rcases hq2 with rfl | rfl <;> omega
  · intro h
    rcases hq2 with rfl | rfl <;> omega
theorem fdiv_rng {x y : Int32} (hy : 0 < y) (h : ¬ 0 ≤ x ^^^ y) : (0 : Int) < y.toInt ∧ x.toInt < 0 ∧ (x / y).toInt = x.toInt.tdiv y.toInt ∧ x.toInt ≤ x.toInt.tdiv y.toInt ∧ x.toInt.tdiv y.toInt ≤ 0 := by
  rw [xor_neg x y hy, fa_le] at h
  have e := idiv_toInt (x := x) hy
  rw [fa_lt] at hy
  have h0 : (0 : Int32).toInt = 0 := rfl
  rw [h0] at h hy
  have m1 : x.toInt.tdiv y.toInt = -((-x.toInt) / y.toInt) := by
    rw [show x.toInt.tdiv y.toInt = (-(-x.toInt)).tdiv y.toInt by rw [Int.neg_neg], Int.neg_tdiv, Int.tdiv_eq_ediv_of_nonneg (by omega)]
  have c1 := Int.ediv_nonneg (show 0 ≤ -x.toInt by omega) (Int.le_of_lt hy)
  have c2 : -x.toInt / y.toInt ≤ -x.toInt := Int.ediv_le_self _ (by omega)
  refine ⟨hy, by omega, e, ?_, ?_⟩ <;> rw [m1] <;> omega
theorem fdiv_mul {x y : Int32} (hy : 0 < y) (h : ¬ 0 ≤ x ^^^ y) : (x / y * y).toInt = x.toInt.tdiv y.toInt * y.toInt := by
  obtain ⟨h1, h2, h3, h4, h5⟩ := fdiv_rng hy h
  have r := fb_rng x
  have m1 : x.toInt.tdiv y.toInt * y.toInt = -((-x.toInt) / y.toInt * y.toInt) := by
    rw [show x.toInt.tdiv y.toInt = (-(-x.toInt)).tdiv y.toInt by rw [Int.neg_neg], Int.neg_tdiv, Int.tdiv_eq_ediv_of_nonneg (by omega), Int.neg_mul]
  have m2 := Int.mul_ediv_add_emod (-x.toInt) y.toInt
  have m3 := Int.emod_nonneg (-x.toInt) (show y.toInt ≠ 0 by omega)
  have m4 := Int.mul_nonneg (Int.ediv_nonneg (show 0 ≤ -x.toInt by omega) (Int.le_of_lt h1)) (Int.le_of_lt h1)
  have m5 : y.toInt * (-x.toInt / y.toInt) = -x.toInt / y.toInt * y.toInt := Int.mul_comm _ _
  rw [fb_mulI (by rw [h3, m1]; omega) (by rw [h3, m1]; omega), h3]
theorem fdiv_b {x y : Int32} (hy : 0 < y) (h : ¬ 0 ≤ x ^^^ y) (hz : x / y * y = x) : x / y = Int32.ofInt (x.toInt / y.toInt) := by
  obtain ⟨h1, h2, h3, h4, h5⟩ := fdiv_rng hy h
  have e := fdiv_mul hy h
  rw [hz] at e
  rw [← (tdiv_neg_ediv h2 h1).1 e.symm, ← h3, fb_asI]
theorem fdiv_c {x y : Int32} (hy : 0 < y) (h : ¬ 0 ≤ x ^^^ y) (hz : ¬ x / y * y = x) : x / y - 1 = Int32.ofInt (x.toInt / y.toInt) := by
  obtain ⟨h1, h2, h3, h4, h5⟩ := fdiv_rng hy h
  have e := fdiv_mul hy h
  have r := fb_rng x
  have hz2 : ¬ x.toInt.tdiv y.toInt * y.toInt = x.toInt := fun z => hz (Int32.toInt_inj.mp (by rw [e, z]))
  have e2 := (tdiv_neg_ediv h2 h1).2 hz2
  have r2 := fb_rng (x / y)
  apply Int32.toInt_inj.mp
  have h9 : x.toInt < x.toInt.tdiv y.toInt := by
    rcases Int.lt_or_eq_of_le h4 with q | q
    · exact q
    · exfalso
      rw [← q] at hz2 e
      rcases Int.lt_trichotomy y.toInt 1 with w | w | w
      · omega
      · rw [w] at hz2; omega
      · have h7 := fb_rng (x / y * y)
        have h8 : x.toInt * y.toInt ≤ x.toInt * 2 := Int.mul_le_mul_of_nonpos_left (by omega) (by omega)
        have m1 : x.toInt.tdiv y.toInt = -((-x.toInt) / y.toInt) := by
          rw [show x.toInt.tdiv y.toInt = (-(-x.toInt)).tdiv y.toInt by rw [Int.neg_neg], Int.neg_tdiv, Int.tdiv_eq_ediv_of_nonneg (by omega)]
        have m2 := Int.mul_ediv_add_emod (-x.toInt) y.toInt
        have m3 := Int.emod_nonneg (-x.toInt) (show y.toInt ≠ 0 by omega)
        rw [show -x.toInt / y.toInt = -x.toInt by omega] at m2
        rw [Int.mul_neg, Int.mul_comm] at m2
        omega
  rw [fb_subI (by rw [h3]; show _ ≤ _ - (1 : Int); omega) (by rw [h3]; show _ - (1 : Int) < _; omega), h3, show (1 : Int32).toInt = 1 from rfl, e2, fb_ofI (by omega) (by omega)]
theorem nar_b01 (b : Bool) : narrow .boolean (.int (b01 b)) = .int (b01 b) := by cases b <;> rfl
theorem fit_b01 (b : Bool) : fits .boolean (.int (b01 b)) = true := by cases b <;> rfl
theorem AGm_push {T : Nat → Int32} {rl : List Nat} {k : Nat} (h : AG T (rl.map nI)) : AG (upd T rl.length (nI k)) ((k :: rl).map nI) := by
  refine ⟨?_, AG_hi (fun j hj => ?_) h⟩
  · show upd T rl.length (nI k) (rl.map nI).length = nI k
    rw [List.length_map]
    exact pk_us
  · show upd T rl.length (nI k) j = T j
    rw [List.length_map] at hj
    exact pk_un (by omega)
theorem take_lowF {L : Nat → Int32} {i : Nat} (h : i < nN L) (lt : Nat → Int32) (due : Int32) : lowF lt due ((nts L 60).take (i + 1)) = lowG lt due (lowF lt due ((nts L 60).take i)) (ntN L i) := by
  rw [take_getD (d := 0) h, lowF_snoc]
theorem lowG_no {lt : Nat → Int32} {due : Int32} {s : List Nat × Bool} {k : Nat} (h : due < lt k) : lowG lt due s k = (s.1, false) := by
  unfold lowG
  rw [if_neg (Int32.not_le.mpr h)]
theorem lowG_new {lt : Nat → Int32} {due : Int32} {rl : List Nat} {k : Nat} (h : ¬ due < lt k) : lowG lt due (rl, false) k = (k :: rl, true) := by
  unfold lowG
  rw [if_pos (Int32.not_lt.mp h)]
  cases rl <;> rfl
theorem lowG_keep {lt : Nat → Int32} {due : Int32} {x : Nat} {xs : List Nat} {k : Nat} (h : ¬ due < lt k) (h7 : lt x ≤ lt k) : lowG lt due (x :: xs, true) k = (x :: xs, true) := by
  unfold lowG
  rw [if_pos (Int32.not_lt.mp h)]
  dsimp only
  rw [if_neg (Int32.not_lt.mpr h7)]
theorem lowG_less {lt : Nat → Int32} {due : Int32} {x : Nat} {xs : List Nat} {k : Nat} (h : ¬ due < lt k) (h7 : ¬ lt x ≤ lt k) : lowG lt due (x :: xs, true) k = (k :: xs, true) := by
  unfold lowG
  rw [if_pos (Int32.not_lt.mp h)]
  dsimp only
  rw [if_pos (Int32.not_le.mp h7)]
theorem lowF_take_len {L : Nat → Int32} {lt : Nat → Int32} {due : Int32} {i : Nat} {rl : List Nat} {run : Bool} (h : lowF lt due ((nts L 60).take i) = (rl, run)) : rl.length ≤ i := by
  have h1 := lowF_le lt due ((nts L 60).take i)
  rw [h] at h1
  exact Nat.le_trans h1 (List.length_take_le ..)
end
section
set_option maxHeartbeats 4000000 in
set_option maxRecDepth 100000 in
theorem c_J9_min_7cf53 (l : Launch) (G : jG) (r : va_W) {a b : Int32} : Mt l G yJ9_min_7cf53 mJ9_min_7cf53 0 0 0 0 [.int a, .int b] (r) (fun v w => v = some (.int (if b < a then b else a)) ∧ w = r) := by
  refine Mt.of (by decide +kernel) rfl rfl (fun X B => ?_)
  show J G X mJ9_min_7cf53 (r) 0 0 0 [(0, .int a), (1, .int b)] []
  refine J.iload_n 0 dJ9_min_7cf53_0 rfl ?_
  refine J.iload_n 1 dJ9_min_7cf53_1 rfl ?_
  refine J.icmp_gt dJ9_min_7cf53_2 (fun h9 => ?_) (fun h9 => ?_)
  · skip
    refine J.iload_n 1 dJ9_min_7cf53_9 rfl ?_
    exact J.iret B dJ9_min_7cf53_10 rfl (⟨by simp [h9], rfl⟩)
  · skip
    refine J.iload_n 0 dJ9_min_7cf53_5 rfl ?_
    refine J.goto dJ9_min_7cf53_6 ?_
    exact J.iret B dJ9_min_7cf53_10 rfl (⟨by simp [h9], rfl⟩)
set_option maxHeartbeats 4000000 in
set_option maxRecDepth 100000 in
theorem c_J9_abs_0f7a4 (l : Launch) (G : jG) (r : va_W) {a : Int32} : Mt l G yJ9_abs_0f7a4 mJ9_abs_0f7a4 0 0 0 0 [.int a] (r) (fun v w => v = some (.int (if 0 ≤ a then a else -a)) ∧ w = r) := by
  refine Mt.of (by decide +kernel) rfl rfl (fun X B => ?_)
  show J G X mJ9_abs_0f7a4 (r) 0 0 0 [(0, .int a)] []
  refine J.iload_n 0 dJ9_abs_0f7a4_0 rfl ?_
  refine J.if_ge dJ9_abs_0f7a4_1 (fun h9 => ?_) (fun h9 => ?_)
  · skip
    refine J.iload_n 0 dJ9_abs_0f7a4_9 rfl ?_
    exact J.iret B dJ9_abs_0f7a4_10 rfl (⟨by simp [h9], rfl⟩)
  · skip
    refine J.iload_n 0 dJ9_abs_0f7a4_4 rfl ?_
    refine J.ineg dJ9_abs_0f7a4_5 ?_
    refine J.goto dJ9_abs_0f7a4_6 ?_
    exact J.iret B dJ9_abs_0f7a4_10 rfl (⟨by simp [h9], rfl⟩)
set_option maxHeartbeats 4000000 in
set_option maxRecDepth 100000 in
theorem c_J9_floorMod_7cf53 (l : Launch) (G : jG) (r : va_W) {a b : Int32} (hb : 0 < b) : Mt l G yJ9_floorMod_7cf53 mJ9_floorMod_7cf53 0 0 0 0 [.int a, .int b] (r) (fun v w => v = some (.int (Int32.ofInt (a.toInt % b.toInt))) ∧ w = r) := by
  refine Mt.of (by decide +kernel) rfl rfl (fun X B => ?_)
  show J G X mJ9_floorMod_7cf53 (r) 0 0 0 [(0, .int a), (1, .int b)] []
  refine J.iload_n 0 dJ9_floorMod_7cf53_0 rfl ?_
  refine J.iload_n 1 dJ9_floorMod_7cf53_1 rfl ?_
  refine J.irem dJ9_floorMod_7cf53_2 (fun z => absurd hb (by rw [z]; decide)) ?_
  refine J.istore_n [1, 2, 0] (lv' := [(0, .int a), (1, .int b), (2, .int (a - a / b * b))]) dJ9_floorMod_7cf53_3 rfl rfl ?_
  refine J.iload_n 0 dJ9_floorMod_7cf53_4 rfl ?_
  refine J.iload_n 1 dJ9_floorMod_7cf53_5 rfl ?_
  refine J.ixor dJ9_floorMod_7cf53_6 ?_
  refine J.if_ge dJ9_floorMod_7cf53_7 (fun h9 => ?_) (fun h9 => ?_)
  · skip
    refine J.iload_n 2 dJ9_floorMod_7cf53_18 rfl ?_
    exact J.iret B dJ9_floorMod_7cf53_19 rfl (⟨by first | rw [fmod_a hb h9] | rw [fmod_b hb h9 h8], rfl⟩)
  · skip
    refine J.iload_n 2 dJ9_floorMod_7cf53_10 rfl ?_
    refine J.if_eq dJ9_floorMod_7cf53_11 (fun h8 => ?_) (fun h8 => ?_)
    · skip
      refine J.iload_n 2 dJ9_floorMod_7cf53_18 rfl ?_
      exact J.iret B dJ9_floorMod_7cf53_19 rfl (⟨by first | rw [fmod_a hb h9] | rw [fmod_b hb h9 h8], rfl⟩)
    · skip
      refine J.iload_n 2 dJ9_floorMod_7cf53_14 rfl ?_
      refine J.iload_n 1 dJ9_floorMod_7cf53_15 rfl ?_
      refine J.iadd dJ9_floorMod_7cf53_16 ?_
      exact J.iret B dJ9_floorMod_7cf53_17 rfl (⟨by rw [fmod_c hb h9 h8], rfl⟩)
set_option maxHeartbeats 4000000 in
set_option maxRecDepth 100000 in
theorem c_J9_floorDiv_7cf53 (l : Launch) (G : jG) (r : va_W) {a b : Int32} (hb : 0 < b) : Mt l G yJ9_floorDiv_7cf53 mJ9_floorDiv_7cf53 0 0 0 0 [.int a, .int b] (r) (fun v w => v = some (.int (Int32.ofInt (a.toInt / b.toInt))) ∧ w = r) := by
  refine Mt.of (by decide +kernel) rfl rfl (fun X B => ?_)
  show J G X mJ9_floorDiv_7cf53 (r) 0 0 0 [(0, .int a), (1, .int b)] []
  refine J.iload_n 0 dJ9_floorDiv_7cf53_0 rfl ?_
  refine J.iload_n 1 dJ9_floorDiv_7cf53_1 rfl ?_
  refine J.idiv dJ9_floorDiv_7cf53_2 (fun z => absurd hb (by rw [z]; decide)) ?_
  refine J.istore_n [1, 2, 0] (lv' := [(0, .int a), (1, .int b), (2, .int (a / b))]) dJ9_floorDiv_7cf53_3 rfl rfl ?_
  refine J.iload_n 0 dJ9_floorDiv_7cf53_4 rfl ?_
  refine J.iload_n 1 dJ9_floorDiv_7cf53_5 rfl ?_
  refine J.ixor dJ9_floorDiv_7cf53_6 ?_
  refine J.if_ge dJ9_floorDiv_7cf53_7 (fun h9 => ?_) (fun h9 => ?_)
  · skip
    refine J.iload_n 2 dJ9_floorDiv_7cf53_21 rfl ?_
    exact J.iret B dJ9_floorDiv_7cf53_22 rfl (⟨by first | rw [fdiv_a hb h9] | rw [fdiv_b hb h9 h8], rfl⟩)
  · skip
    refine J.iload_n 2 dJ9_floorDiv_7cf53_10 rfl ?_
    refine J.iload_n 1 dJ9_floorDiv_7cf53_11 rfl ?_
    refine J.imul dJ9_floorDiv_7cf53_12 ?_
    refine J.iload_n 0 dJ9_floorDiv_7cf53_13 rfl ?_
    refine J.icmp_eq dJ9_floorDiv_7cf53_14 (fun h8 => ?_) (fun h8 => ?_)
    · skip
      refine J.iload_n 2 dJ9_floorDiv_7cf53_21 rfl ?_
      exact J.iret B dJ9_floorDiv_7cf53_22 rfl (⟨by first | rw [fdiv_a hb h9] | rw [fdiv_b hb h9 h8], rfl⟩)
    · skip
      refine J.iload_n 2 dJ9_floorDiv_7cf53_17 rfl ?_
      refine J.iconst (1 : Int32) dJ9_floorDiv_7cf53_18 rfl ?_
      refine J.isub dJ9_floorDiv_7cf53_19 ?_
      exact J.iret B dJ9_floorDiv_7cf53_20 rfl (⟨by rw [fdiv_c hb h9 h8], rfl⟩)
set_option maxHeartbeats 4000000 in
set_option maxRecDepth 100000 in
theorem c_X6_isOfKind (l : Launch) (G : jG) (r : va_W) {s la : Nat} {kd hr wc a : Int32} : Mt l G yX6_isOfKind mX6_isOfKind 0 0 0 0 [.ref s, .int a] ((s, .inr (6, [.int kd, .ref la, .int hr, .int wc])) :: r) (fun v w => v = some (.int (b01 (ofK kd a))) ∧ w = (s, .inr (6, [.int kd, .ref la, .int hr, .int wc])) :: r) := by
  refine Mt.of (by decide +kernel) rfl rfl (fun X B => ?_)
  show J G X mX6_isOfKind ((s, .inr (6, [.int kd, .ref la, .int hr, .int wc])) :: r) 0 0 0 [(0, .ref s), (1, .int a)] []
  refine J.iload_n 1 dX6_isOfKind_0 rfl ?_
  refine J.if_eq dX6_isOfKind_1 (fun h_1 => ?_) (fun h_1 => ?_)
  · skip
    refine J.iconst (1 : Int32) dX6_isOfKind_25 rfl ?_
    refine J.goto dX6_isOfKind_26 ?_
    exact J.zret B dX6_isOfKind_30 rfl (by decide) (⟨by simp_all [ofK, b01], rfl⟩)
  · skip
    refine J.iload_n 1 dX6_isOfKind_4 rfl ?_
    refine J.aload_n 0 dX6_isOfKind_5 rfl ?_
    refine J.get 0 fl_X6_19 dX6_isOfKind_6 rfl rfl ?_
    refine J.icmp_eq dX6_isOfKind_9 (fun h_2 => ?_) (fun h_2 => ?_)
    · skip
      refine J.iconst (1 : Int32) dX6_isOfKind_25 rfl ?_
      refine J.goto dX6_isOfKind_26 ?_
      exact J.zret B dX6_isOfKind_30 rfl (by decide) (⟨by simp_all [ofK, b01], rfl⟩)
    · skip
      refine J.iload_n 1 dX6_isOfKind_12 rfl ?_
      refine J.iconst (2 : Int32) dX6_isOfKind_13 rfl ?_
      refine J.icmp_ne dX6_isOfKind_14 (fun h_3 => ?_) (fun h_3 => ?_)
      · skip
        refine J.iconst (0 : Int32) dX6_isOfKind_29 rfl ?_
        exact J.zret B dX6_isOfKind_30 rfl (by decide) (⟨by simp_all [ofK, b01], rfl⟩)
      · skip
        refine J.aload_n 0 dX6_isOfKind_17 rfl ?_
        refine J.get 0 fl_X6_19 dX6_isOfKind_18 rfl rfl ?_
        refine J.iconst (3 : Int32) dX6_isOfKind_21 rfl ?_
        refine J.icmp_ne dX6_isOfKind_22 (fun h_4 => ?_) (fun h_4 => ?_)
        · skip
          refine J.iconst (0 : Int32) dX6_isOfKind_29 rfl ?_
          exact J.zret B dX6_isOfKind_30 rfl (by decide) (⟨by simp_all [ofK, b01], rfl⟩)
        · skip
          refine J.iconst (1 : Int32) dX6_isOfKind_25 rfl ?_
          refine J.goto dX6_isOfKind_26 ?_
          exact J.zret B dX6_isOfKind_30 rfl (by decide) (⟨by simp_all [ofK, b01], rfl⟩)
set_option maxHeartbeats 4000000 in
set_option maxRecDepth 100000 in
theorem c_X6_emptyRow (l : Launch) (G : jG) (r : va_W) {s la : Nat} {kd hr wc : Int32} {L : Nat → Int32} {b : Bool} : Mt l G yX6_emptyRow mX6_emptyRow 1 23 0 0 [.ref s, .int (b01 b)] ((s, .inr (6, [.int kd, .ref la, .int hr, .int wc])) :: (la, .inl (G.2.1.1, 60, .inl L)) :: r) (fun v w => v = none ∧ w = (s, .inr (6, [.int kd, .ref la, .int (b01 b), .int wc])) :: iA G la 60 (flA L (-9) 60) :: r) := by
  refine Mt.of (by decide +kernel) rfl rfl (fun X B => ?_)
  show J G X mX6_emptyRow ((s, .inr (6, [.int kd, .ref la, .int hr, .int wc])) :: (la, .inl (G.2.1.1, 60, .inl L)) :: r) 0 0 0 [(0, .ref s), (1, .int (b01 b))] []
  refine J.aload_n 0 dX6_emptyRow_0 rfl ?_
  refine J.iload_n 1 dX6_emptyRow_1 rfl ?_
  refine J.put 0 fp_X6_28 dX6_emptyRow_2 rfl (nar_b01 b) (fit_b01 b) rfl (ws' := (s, .inr (6, [.int kd, .ref la, .int (b01 b), .int wc])) :: (la, .inl (G.2.1.1, 60, .inl L)) :: r) rfl ?_
  refine J.aload_n 0 dX6_emptyRow_5 rfl ?_
  refine J.get 0 fl_X6_9 dX6_emptyRow_6 rfl rfl ?_
  refine J.bipush (-9 : Int32) dX6_emptyRow_9 rfl ?_
  refine J.re [1, 0] 2 (ws2 := (la, .inl (G.2.1.1, 60, .inl L)) :: (s, .inr (6, [.int kd, .ref la, .int (b01 b), .int wc])) :: r) rfl rfl ?_
  refine J.callS (st := []) B (c_J7_fill_53178 l G _ (n := 60) (by decide)) ml_X6_22 mf_yJ7_fill_53178 mS_yJ7_fill_53178 dX6_emptyRow_11 rfl rfl rfl (fun v_1 w_2 hp_3 => ?_)
  obtain ⟨rfl, rfl⟩ := hp_3
  refine J.re [1, 0] 2 (ws2 := (s, .inr (6, [.int kd, .ref la, .int (b01 b), .int wc])) :: (la, .inl (G.2.1.1, 60, .inl (flA L (-9 : Int32) 60))) :: r) rfl rfl ?_
  show J G X mX6_emptyRow _ _ _ 14 _ []
  exact J.vret B dX6_emptyRow_14 rfl (⟨rfl, rfl⟩)
set_option maxHeartbeats 4000000 in
set_option maxRecDepth 100000 in
theorem X6_dig_lp {l : Launch} {G : jG} {X : jX} {r : va_W} {s la : Nat} {kd hr wc : Int32} {L : Nat → Int32} {h0 : Int64} (B : jB l G X 0 0 0 0 (fun v w => v = some (.long (if hr = 0 then 31 * (31 * h0 + kd.toInt64) - 1 else dg60 L (31 * h0 + kd.toInt64) 60)) ∧ w = (s, .inr (6, [.int kd, .ref la, .int hr, .int wc])) :: iA G la 60 L :: r) "digestOnto") (k : Nat) (hh : ¬ hr = 0) (hk : k ≤ 60) : J G X mX6_digestOnto ((s, .inr (6, [.int kd, .ref la, .int hr, .int wc])) :: (la, .inl (G.2.1.1, 60, .inl L)) :: r) 0 0 30 [(0, .ref s), (1, .long h0), (3, .long (dg60 L (31 * h0 + kd.toInt64) k)), (5, .int (nI k))] [] := by
  refine J.iload 3 dX6_digestOnto_30 rfl ?_
  refine J.bipush (60 : Int32) dX6_digestOnto_32 rfl ?_
  refine J.icmp_ge dX6_digestOnto_34 (fun h9 => ?_) (fun h9 => ?_)
  · skip
    have h9 : 60 ≤ k := (nI_leI (a := 60) (b := k) (by omega) (by omega)).mp h9
    have e : k = 60 := by omega
    subst e
    refine J.lload_n 2 dX6_digestOnto_58 rfl ?_
    exact J.lret B dX6_digestOnto_59 rfl (⟨by rw [if_neg hh], rfl⟩)
  · skip
    have h9 : ¬ 60 ≤ k := fun z => h9 ((nI_leI (a := 60) (b := k) (by omega) (by omega)).mpr z)
    refine J.ldc2 dX6_digestOnto_37 kl_X6_32 ?_
    refine J.lload_n 2 dX6_digestOnto_40 rfl ?_
    refine J.lmul dX6_digestOnto_41 ?_
    refine J.aload_n 0 dX6_digestOnto_42 rfl ?_
    refine J.get 0 fl_X6_9 dX6_digestOnto_43 rfl rfl ?_
    refine J.iload 3 dX6_digestOnto_46 rfl ?_
    refine J.iald 1 (k) dX6_digestOnto_48 rfl (rfl) (by omega) (by decide) ?_
    refine J.i2l dX6_digestOnto_49 ?_
    refine J.ladd dX6_digestOnto_50 ?_
    refine J.lstore_n [1, 2, 0, 3] (lv' := [(0, .ref s), (1, .long h0), (3, .long (((31 : Int64) * (dg60 L (31 * h0 + kd.toInt64) k)) + ((L k).toInt64))), (5, .int (nI k))]) dX6_digestOnto_51 rfl rfl ?_
    refine J.iinc 3 [1, 2, 3, 0] (lv' := [(0, .ref s), (1, .long h0), (3, .long (((31 : Int64) * (dg60 L (31 * h0 + kd.toInt64) k)) + ((L k).toInt64))), (5, .int (nI (k + 1)))]) dX6_digestOnto_52 rfl (jinc1 _) rfl rfl ?_
    refine J.goto dX6_digestOnto_55 ?_
    exact X6_dig_lp B (k + 1) hh (by omega)
termination_by 60 - k
decreasing_by all_goals omega
set_option maxHeartbeats 4000000 in
set_option maxRecDepth 100000 in
theorem c_X6_digestOnto (l : Launch) (G : jG) (r : va_W) {s la : Nat} {kd hr wc : Int32} {L : Nat → Int32} {h0 : Int64} : Mt l G yX6_digestOnto mX6_digestOnto 0 0 0 0 [.ref s, .long h0] ((s, .inr (6, [.int kd, .ref la, .int hr, .int wc])) :: (la, .inl (G.2.1.1, 60, .inl L)) :: r) (fun v w => v = some (.long (if hr = 0 then 31 * (31 * h0 + kd.toInt64) - 1 else dg60 L (31 * h0 + kd.toInt64) 60)) ∧ w = (s, .inr (6, [.int kd, .ref la, .int hr, .int wc])) :: iA G la 60 L :: r) := by
  refine Mt.of (by decide +kernel) rfl rfl (fun X B => ?_)
  show J G X mX6_digestOnto ((s, .inr (6, [.int kd, .ref la, .int hr, .int wc])) :: (la, .inl (G.2.1.1, 60, .inl L)) :: r) 0 0 0 [(0, .ref s), (1, .long h0)] []
  refine J.ldc2 dX6_digestOnto_0 kl_X6_32 ?_
  refine J.lload_n 1 dX6_digestOnto_3 rfl ?_
  refine J.lmul dX6_digestOnto_4 ?_
  refine J.aload_n 0 dX6_digestOnto_5 rfl ?_
  refine J.get 0 fl_X6_19 dX6_digestOnto_6 rfl rfl ?_
  refine J.i2l dX6_digestOnto_9 ?_
  refine J.ladd dX6_digestOnto_10 ?_
  refine J.lstore_n [1, 2, 0] (lv' := [(0, .ref s), (1, .long h0), (3, .long (((31 : Int64) * h0) + kd.toInt64))]) dX6_digestOnto_11 rfl rfl ?_
  refine J.aload_n 0 dX6_digestOnto_12 rfl ?_
  refine J.get 0 fl_X6_28 dX6_digestOnto_13 rfl rfl ?_
  refine J.if_ne dX6_digestOnto_16 (fun h9 => ?_) (fun h9 => ?_)
  · skip
    refine J.iconst (0 : Int32) dX6_digestOnto_27 rfl ?_
    refine J.istore [1, 2, 3, 0] (lv' := [(0, .ref s), (1, .long h0), (3, .long (((31 : Int64) * h0) + kd.toInt64)), (5, .int (0 : Int32))]) dX6_digestOnto_28 rfl rfl ?_
    exact X6_dig_lp B 0 h9 (by omega)
  · skip
    refine J.ldc2 dX6_digestOnto_19 kl_X6_32 ?_
    refine J.lload_n 2 dX6_digestOnto_22 rfl ?_
    refine J.lmul dX6_digestOnto_23 ?_
    refine J.lconst 1 dX6_digestOnto_24 rfl ?_
    refine J.lsub dX6_digestOnto_25 ?_
    exact J.lret B dX6_digestOnto_26 rfl (⟨by rw [if_pos h9], rfl⟩)
set_option maxHeartbeats 4000000 in
set_option maxRecDepth 100000 in
theorem c_X5_fits (l : Launch) (G : jG) (r : va_W) {s ma : Nat} {wh lo hi cc : Int32} {M : Nat → Int32} {j : Nat} (hw : wh = nI j) (hj : j < 4) : Mt l G yX5_fits mX5_fits 0 0 0 0 [.ref s, .ref ma] ((s, .inr (5, [.int wh, .int lo, .int hi, .int cc])) :: (ma, .inl (G.2.1.1, 4, .inl M)) :: r) (fun v w => v = some (.int (b01 (decide (lo ≤ M j ∧ M j ≤ hi)))) ∧ w = oX5 s wh lo hi cc :: iA G ma 4 M :: r) := by
  refine Mt.of (by decide +kernel) rfl rfl (fun X B => ?_)
  show J G X mX5_fits ((s, .inr (5, [.int wh, .int lo, .int hi, .int cc])) :: (ma, .inl (G.2.1.1, 4, .inl M)) :: r) 0 0 0 [(0, .ref s), (1, .ref ma)] []
  refine J.aload_n 0 dX5_fits_0 rfl ?_
  refine J.get 0 fl_X5_7 dX5_fits_1 rfl rfl ?_
  refine J.if_lt dX5_fits_4 (fun z => absurd z (by rw [hw]; exact nI_pos (by omega))) (fun h_1 => ?_)
  refine J.aload_n 0 dX5_fits_7 rfl ?_
  refine J.get 0 fl_X5_7 dX5_fits_8 rfl rfl ?_
  refine J.aload_n 1 dX5_fits_11 rfl ?_
  refine J.alen 1 0 (4 : Int32) dX5_fits_12 rfl rfl rfl ?_
  refine J.icmp_ge dX5_fits_13 (fun z => absurd z (by rw [hw]; exact nI_ge (b := 4) hj (by omega))) (fun h_2 => ?_)
  refine J.aload_n 0 dX5_fits_16 rfl ?_
  refine J.get 0 fl_X5_13 dX5_fits_17 rfl rfl ?_
  refine J.aload_n 1 dX5_fits_20 rfl ?_
  refine J.aload_n 0 dX5_fits_21 rfl ?_
  refine J.get 0 fl_X5_7 dX5_fits_22 rfl rfl ?_
  refine J.iald 1 (j) dX5_fits_25 rfl (hw) (hj) (by decide) ?_
  refine J.icmp_gt dX5_fits_26 (fun h9 => ?_) (fun h9 => ?_)
  · skip
    refine J.iconst (0 : Int32) dX5_fits_46 rfl ?_
    exact J.zret B dX5_fits_47 rfl (by decide) (⟨by rw [decide_eq_false (fun z => by first | exact absurd h9 (Int32.not_lt.mpr z.1) | exact absurd h8 (Int32.not_lt.mpr z.2))]; rfl, rfl⟩)
  · skip
    refine J.aload_n 1 dX5_fits_29 rfl ?_
    refine J.aload_n 0 dX5_fits_30 rfl ?_
    refine J.get 0 fl_X5_7 dX5_fits_31 rfl rfl ?_
    refine J.iald 1 (j) dX5_fits_34 rfl (hw) (hj) (by decide) ?_
    refine J.aload_n 0 dX5_fits_35 rfl ?_
    refine J.get 0 fl_X5_16 dX5_fits_36 rfl rfl ?_
    refine J.icmp_gt dX5_fits_39 (fun h8 => ?_) (fun h8 => ?_)
    · skip
      refine J.iconst (0 : Int32) dX5_fits_46 rfl ?_
      exact J.zret B dX5_fits_47 rfl (by decide) (⟨by rw [decide_eq_false (fun z => by first | exact absurd h9 (Int32.not_lt.mpr z.1) | exact absurd h8 (Int32.not_lt.mpr z.2))]; rfl, rfl⟩)
    · skip
      refine J.iconst (1 : Int32) dX5_fits_42 rfl ?_
      refine J.goto dX5_fits_43 ?_
      exact J.zret B dX5_fits_47 rfl (by decide) (⟨by rw [decide_eq_true ⟨Int32.not_lt.mp h9, Int32.not_lt.mp h8⟩]; rfl, rfl⟩)
end
section
set_option maxHeartbeats 4000000 in
set_option maxRecDepth 100000 in
theorem c_X4_has (l : Launch) (G : jG) (r : va_W) {o ta sz : Nat} {i : Int32} (hs : sz ≤ 60) : Mt l G yX4_has mX4_has 0 0 0 0 [.ref o, .int i] ((o, .inr (4, [.ref ta, .int (nI sz)])) :: r) (fun v w => v = some (.int (b01 (decide (0 ≤ i ∧ i < nI sz)))) ∧ w = oX4 o ta (nI sz) :: r) := by
  refine Mt.of (by decide +kernel) rfl rfl (fun X B => ?_)
  show J G X mX4_has ((o, .inr (4, [.ref ta, .int (nI sz)])) :: r) 0 0 0 [(0, .ref o), (1, .int i)] []
  refine J.iload_n 1 dX4_has_0 rfl ?_
  refine J.if_lt dX4_has_1 (fun h9 => ?_) (fun h9 => ?_)
  · skip
    refine J.iconst (0 : Int32) dX4_has_16 rfl ?_
    exact J.zret B dX4_has_17 rfl (by decide) (⟨by rw [decide_eq_false (fun z => by first | exact absurd h9 (Int32.not_lt.mpr z.1) | exact absurd h8 (Int32.not_le.mpr z.2))]; rfl, rfl⟩)
  · skip
    refine J.iload_n 1 dX4_has_4 rfl ?_
    refine J.aload_n 0 dX4_has_5 rfl ?_
    refine J.get 0 fl_X4_15 dX4_has_6 rfl rfl ?_
    refine J.icmp_ge dX4_has_9 (fun h8 => ?_) (fun h8 => ?_)
    · skip
      refine J.iconst (0 : Int32) dX4_has_16 rfl ?_
      exact J.zret B dX4_has_17 rfl (by decide) (⟨by rw [decide_eq_false (fun z => by first | exact absurd h9 (Int32.not_lt.mpr z.1) | exact absurd h8 (Int32.not_le.mpr z.2))]; rfl, rfl⟩)
    · skip
      refine J.iconst (1 : Int32) dX4_has_12 rfl ?_
      refine J.goto dX4_has_13 ?_
      exact J.zret B dX4_has_17 rfl (by decide) (⟨by rw [decide_eq_true ⟨Int32.not_lt.mp h9, Int32.not_le.mp h8⟩]; rfl, rfl⟩)
set_option maxHeartbeats 4000000 in
set_option maxRecDepth 100000 in
theorem X4_gather_lp {l : Launch} {G : jG} {X : jX} {r : va_W} {o ta c cta cua : Nat} {L F t u : Nat → Int32} {due : Int32} (B : jB l G X 0 0 0 0 (fun v w => ∃ T, AG T ((lowF (ltF L F) due (nts L 60)).1.map nI) ∧ v = none ∧ w = oX4 o ta (nI (lowF (ltF L F) due (nts L 60)).1.length) :: iA G ta 60 T :: oX1 c cta cua (nI (nN L)) :: iA G cta 60 t :: iA G cua 60 u :: r) "gather") (i : Nat) (rl : List Nat) (run : Bool) (le : Int32) (T : Nat → Int32) (hc : CV L F t u) (hi : i ≤ nN L) (hs : lowF (ltF L F) due ((nts L 60).take i) = (rl, run)) (hle : run = true → ∃ x xs, rl = x :: xs ∧ le = ltF L F x) (hT : AG T (rl.map nI)) : J G X mX4_gather ((o, .inr (4, [.ref ta, .int (nI rl.length)])) :: (ta, .inl (G.2.1.1, 60, .inl T)) :: (c, .inr (1, [.ref cta, .ref cua, .int (nI (nN L))])) :: (cta, .inl (G.2.1.1, 60, .inl t)) :: (cua, .inl (G.2.1.1, 60, .inl u)) :: r) 0 0 13 [(0, .ref o), (1, .ref c), (2, .int due), (3, .int (b01 run)), (4, .int le), (5, .int (nI i))] [] := by
  have hn := nN_le L
  have hlen : rl.length ≤ i := lowF_take_len hs
  cases run with
  | false =>
    show J G X mX4_gather ((o, .inr (4, [.ref ta, .int (nI rl.length)])) :: (ta, .inl (G.2.1.1, 60, .inl T)) :: (c, .inr (1, [.ref cta, .ref cua, .int (nI (nN L))])) :: (cta, .inl (G.2.1.1, 60, .inl t)) :: (cua, .inl (G.2.1.1, 60, .inl u)) :: r) 0 0 13 [(0, .ref o), (1, .ref c), (2, .int due), (3, .int (0 : Int32)), (4, .int le), (5, .int (nI i))] []
    refine J.iload 5 dX4_gather_13 rfl ?_
    refine J.aload_n 1 dX4_gather_15 rfl ?_
    refine J.get 2 fl_X4_19 dX4_gather_16 rfl rfl ?_
    refine J.icmp_ge dX4_gather_19 (fun h9 => ?_) (fun h9 => ?_)
    · skip
      have h9 : (nN L) ≤ i := (nI_leI (a := (nN L)) (b := i) (by omega) (by omega)).mp h9
      have e : i = nN L := by omega
      subst e
      rw [List.take_length] at hs
      exact J.vret B dX4_gather_116 rfl (⟨T, by rw [hs]; exact hT, rfl, by first | (rw [hs]; done) | (rw [hs]; rfl)⟩)
    · skip
      have h9 : ¬ (nN L) ≤ i := fun z => h9 ((nI_leI (a := (nN L)) (b := i) (by omega) (by omega)).mpr z)
      have h9 : i < nN L := by omega
      refine J.aload_n 1 dX4_gather_22 rfl ?_
      refine J.get 2 fl_X4_22 dX4_gather_23 rfl rfl ?_
      refine J.iload 5 dX4_gather_26 rfl ?_
      refine J.iald 4 (i) dX4_gather_28 rfl (rfl) (by omega) (by decide) ?_
      refine J.topi (y := ltF L F (ntN L i)) ((hc i h9).2) ?_
      refine J.iload_n 2 dX4_gather_29 rfl ?_
      refine J.icmp_gt dX4_gather_30 (fun h8 => ?_) (fun h8 => ?_)
      · skip
        refine J.iconst (0 : Int32) dX4_gather_37 rfl ?_
        refine J.istore [1, 2, 3, 4, 5, 6, 0] (lv' := [(0, .ref o), (1, .ref c), (2, .int due), (3, .int (0 : Int32)), (4, .int le), (5, .int (nI i)), (6, .int (0 : Int32))]) dX4_gather_38 rfl rfl ?_
        refine J.iload 6 dX4_gather_40 rfl ?_
        refine J.if_eq dX4_gather_42 (fun _ => ?_) (fun z => absurd z (by decide))
        refine J.iload 6 dX4_gather_59 rfl ?_
        refine J.if_eq dX4_gather_61 (fun _ => ?_) (fun z => absurd z (by decide))
        refine J.iload 6 dX4_gather_107 rfl ?_
        refine J.istore_n [1, 2, 3, 0, 4, 5, 6] (lv' := [(0, .ref o), (1, .ref c), (2, .int due), (3, .int (0 : Int32)), (4, .int le), (5, .int (nI i)), (6, .int (0 : Int32))]) dX4_gather_109 rfl rfl ?_
        refine J.iinc 5 [1, 2, 3, 4, 5, 0, 6] (lv' := [(0, .ref o), (1, .ref c), (2, .int due), (3, .int (0 : Int32)), (4, .int le), (5, .int (nI (i + 1))), (6, .int (0 : Int32))]) dX4_gather_110 rfl (jinc1 _) rfl rfl ?_
        refine J.goto dX4_gather_113 ?_
        refine J.loc [0, 1, 2, 3, 4, 5] (lv' := [(0, .ref o), (1, .ref c), (2, .int due), (3, .int (0 : Int32)), (4, .int le), (5, .int (nI (i + 1)))]) rfl ?_
        exact X4_gather_lp B (i + 1) rl false _ T hc (by omega) (by rw [take_lowF h9, hs]; exact lowG_no h8) (fun z => by cases z) hT
      · skip
        refine J.iconst (1 : Int32) dX4_gather_33 rfl ?_
        refine J.goto dX4_gather_34 ?_
        refine J.istore [1, 2, 3, 4, 5, 6, 0] (lv' := [(0, .ref o), (1, .ref c), (2, .int due), (3, .int (0 : Int32)), (4, .int le), (5, .int (nI i)), (6, .int (1 : Int32))]) dX4_gather_38 rfl rfl ?_
        refine J.iload 6 dX4_gather_40 rfl ?_
        refine J.if_eq dX4_gather_42 (fun z => absurd z (by decide)) (fun _ => ?_)
        refine J.iload_n 3 dX4_gather_45 rfl ?_
        refine J.if_ne dX4_gather_46 (fun z => absurd z (by decide)) (fun _ => ?_)
        refine J.aload_n 0 dX4_gather_49 rfl ?_
        refine J.dup dX4_gather_50 rfl ?_
        refine J.get 0 fl_X4_15 dX4_gather_51 rfl rfl ?_
        refine J.iconst (1 : Int32) dX4_gather_54 rfl ?_
        refine J.iadd dX4_gather_55 ?_
        refine J.topi (y := nI ((rl.length) + 1)) (nI_add (rl.length) 1) ?_
        refine J.put 0 fp_X4_15 dX4_gather_56 rfl (rfl) (rfl) rfl (ws' := (o, .inr (4, [.ref ta, .int (nI ((rl.length) + 1))])) :: (ta, .inl (G.2.1.1, 60, .inl T)) :: (c, .inr (1, [.ref cta, .ref cua, .int (nI (nN L))])) :: (cta, .inl (G.2.1.1, 60, .inl t)) :: (cua, .inl (G.2.1.1, 60, .inl u)) :: r) rfl ?_
        refine J.iload 6 dX4_gather_59 rfl ?_
        refine J.if_eq dX4_gather_61 (fun z => absurd z (by decide)) (fun _ => ?_)
        refine J.iload_n 3 dX4_gather_64 rfl ?_
        refine J.if_eq dX4_gather_65 (fun _ => ?_) (fun z => absurd z (by decide))
        refine J.aload_n 1 dX4_gather_80 rfl ?_
        refine J.get 2 fl_X4_22 dX4_gather_81 rfl rfl ?_
        refine J.iload 5 dX4_gather_84 rfl ?_
        refine J.iald 4 (i) dX4_gather_86 rfl (rfl) (by omega) (by decide) ?_
        refine J.topi (y := ltF L F (ntN L i)) ((hc i h9).2) ?_
        refine J.istore [1, 2, 3, 4, 0, 5, 6] (lv' := [(0, .ref o), (1, .ref c), (2, .int due), (3, .int (0 : Int32)), (4, .int (ltF L F (ntN L i))), (5, .int (nI i)), (6, .int (1 : Int32))]) dX4_gather_87 rfl rfl ?_
        refine J.aload_n 0 dX4_gather_89 rfl ?_
        refine J.get 0 fl_X4_9 dX4_gather_90 rfl rfl ?_
        refine J.aload_n 0 dX4_gather_93 rfl ?_
        refine J.get 0 fl_X4_15 dX4_gather_94 rfl rfl ?_
        refine J.iconst (1 : Int32) dX4_gather_97 rfl ?_
        refine J.isub dX4_gather_98 ?_
        refine J.topi (y := nI (rl.length)) (pk_sub (a := (rl.length) + 1) (b := 1) (by omega)) ?_
        refine J.aload_n 1 dX4_gather_99 rfl ?_
        refine J.get 2 fl_X4_25 dX4_gather_100 rfl rfl ?_
        refine J.iload 5 dX4_gather_103 rfl ?_
        refine J.iald 3 (i) dX4_gather_105 rfl (rfl) (by omega) (by decide) ?_
        refine J.topi (y := nI (ntN L i)) ((hc i h9).1) ?_
        refine J.iast 1 ((rl.length)) dX4_gather_106 rfl (rfl) (by omega) (by decide) (ws' := (o, .inr (4, [.ref ta, .int (nI ((rl.length) + 1))])) :: (ta, .inl (G.2.1.1, 60, .inl (upd T (rl.length) (nI (ntN L i))))) :: (c, .inr (1, [.ref cta, .ref cua, .int (nI (nN L))])) :: (cta, .inl (G.2.1.1, 60, .inl t)) :: (cua, .inl (G.2.1.1, 60, .inl u)) :: r) rfl ?_
        refine J.iload 6 dX4_gather_107 rfl ?_
        refine J.istore_n [1, 2, 3, 0, 4, 5, 6] (lv' := [(0, .ref o), (1, .ref c), (2, .int due), (3, .int (1 : Int32)), (4, .int (ltF L F (ntN L i))), (5, .int (nI i)), (6, .int (1 : Int32))]) dX4_gather_109 rfl rfl ?_
        refine J.iinc 5 [1, 2, 3, 4, 5, 0, 6] (lv' := [(0, .ref o), (1, .ref c), (2, .int due), (3, .int (1 : Int32)), (4, .int (ltF L F (ntN L i))), (5, .int (nI (i + 1))), (6, .int (1 : Int32))]) dX4_gather_110 rfl (jinc1 _) rfl rfl ?_
        refine J.goto dX4_gather_113 ?_
        refine J.loc [0, 1, 2, 3, 4, 5] (lv' := [(0, .ref o), (1, .ref c), (2, .int due), (3, .int (1 : Int32)), (4, .int (ltF L F (ntN L i))), (5, .int (nI (i + 1)))]) rfl ?_
        exact X4_gather_lp B (i + 1) (ntN L i :: rl) true _ _ hc (by omega) (by rw [take_lowF h9, hs]; exact lowG_new h8) (fun _ => ⟨_, _, rfl, rfl⟩) (AGm_push hT)
  | true =>
    obtain ⟨x, xs, rfl, rfl⟩ := hle rfl
    show J G X mX4_gather ((o, .inr (4, [.ref ta, .int (nI (xs.length + 1))])) :: (ta, .inl (G.2.1.1, 60, .inl T)) :: (c, .inr (1, [.ref cta, .ref cua, .int (nI (nN L))])) :: (cta, .inl (G.2.1.1, 60, .inl t)) :: (cua, .inl (G.2.1.1, 60, .inl u)) :: r) 0 0 13 [(0, .ref o), (1, .ref c), (2, .int due), (3, .int (1 : Int32)), (4, .int (ltF L F x)), (5, .int (nI i))] []
    rw [List.length_cons] at hlen
    refine J.iload 5 dX4_gather_13 rfl ?_
    refine J.aload_n 1 dX4_gather_15 rfl ?_
    refine J.get 2 fl_X4_19 dX4_gather_16 rfl rfl ?_
    refine J.icmp_ge dX4_gather_19 (fun h9 => ?_) (fun h9 => ?_)
    · skip
      have h9 : (nN L) ≤ i := (nI_leI (a := (nN L)) (b := i) (by omega) (by omega)).mp h9
      have e : i = nN L := by omega
      subst e
      rw [List.take_length] at hs
      exact J.vret B dX4_gather_116 rfl (⟨T, by rw [hs]; exact hT, rfl, by first | (rw [hs]; done) | (rw [hs]; rfl)⟩)
    · skip
      have h9 : ¬ (nN L) ≤ i := fun z => h9 ((nI_leI (a := (nN L)) (b := i) (by omega) (by omega)).mpr z)
      have h9 : i < nN L := by omega
      refine J.aload_n 1 dX4_gather_22 rfl ?_
      refine J.get 2 fl_X4_22 dX4_gather_23 rfl rfl ?_
      refine J.iload 5 dX4_gather_26 rfl ?_
      refine J.iald 4 (i) dX4_gather_28 rfl (rfl) (by omega) (by decide) ?_
      refine J.topi (y := ltF L F (ntN L i)) ((hc i h9).2) ?_
      refine J.iload_n 2 dX4_gather_29 rfl ?_
      refine J.icmp_gt dX4_gather_30 (fun h8 => ?_) (fun h8 => ?_)
      · skip
        refine J.iconst (0 : Int32) dX4_gather_37 rfl ?_
        refine J.istore [1, 2, 3, 4, 5, 6, 0] (lv' := [(0, .ref o), (1, .ref c), (2, .int due), (3, .int (1 : Int32)), (4, .int (ltF L F x)), (5, .int (nI i)), (6, .int (0 : Int32))]) dX4_gather_38 rfl rfl ?_
        refine J.iload 6 dX4_gather_40 rfl ?_
        refine J.if_eq dX4_gather_42 (fun _ => ?_) (fun z => absurd z (by decide))
        refine J.iload 6 dX4_gather_59 rfl ?_
        refine J.if_eq dX4_gather_61 (fun _ => ?_) (fun z => absurd z (by decide))
        refine J.iload 6 dX4_gather_107 rfl ?_
        refine J.istore_n [1, 2, 3, 0, 4, 5, 6] (lv' := [(0, .ref o), (1, .ref c), (2, .int due), (3, .int (0 : Int32)), (4, .int (ltF L F x)), (5, .int (nI i)), (6, .int (0 : Int32))]) dX4_gather_109 rfl rfl ?_
        refine J.iinc 5 [1, 2, 3, 4, 5, 0, 6] (lv' := [(0, .ref o), (1, .ref c), (2, .int due), (3, .int (0 : Int32)), (4, .int (ltF L F x)), (5, .int (nI (i + 1))), (6, .int (0 : Int32))]) dX4_gather_110 rfl (jinc1 _) rfl rfl ?_
        refine J.goto dX4_gather_113 ?_
        refine J.loc [0, 1, 2, 3, 4, 5] (lv' := [(0, .ref o), (1, .ref c), (2, .int due), (3, .int (0 : Int32)), (4, .int (ltF L F x)), (5, .int (nI (i + 1)))]) rfl ?_
        exact X4_gather_lp B (i + 1) (x :: xs) false _ T hc (by omega) (by rw [take_lowF h9, hs]; exact lowG_no h8) (fun z => by cases z) hT
      · skip
        refine J.iconst (1 : Int32) dX4_gather_33 rfl ?_
        refine J.goto dX4_gather_34 ?_
        refine J.istore [1, 2, 3, 4, 5, 6, 0] (lv' := [(0, .ref o), (1, .ref c), (2, .int due), (3, .int (1 : Int32)), (4, .int (ltF L F x)), (5, .int (nI i)), (6, .int (1 : Int32))]) dX4_gather_38 rfl rfl ?_
        refine J.iload 6 dX4_gather_40 rfl ?_
        refine J.if_eq dX4_gather_42 (fun z => absurd z (by decide)) (fun _ => ?_)
        refine J.iload_n 3 dX4_gather_45 rfl ?_
        refine J.if_ne dX4_gather_46 (fun _ => ?_) (fun z => absurd z (by decide))
        refine J.iload 6 dX4_gather_59 rfl ?_
        refine J.if_eq dX4_gather_61 (fun z => absurd z (by decide)) (fun _ => ?_)
        refine J.iload_n 3 dX4_gather_64 rfl ?_
        refine J.if_eq dX4_gather_65 (fun z => absurd z (by decide)) (fun _ => ?_)
        refine J.aload_n 1 dX4_gather_68 rfl ?_
        refine J.get 2 fl_X4_22 dX4_gather_69 rfl rfl ?_
        refine J.iload 5 dX4_gather_72 rfl ?_
        refine J.iald 4 (i) dX4_gather_74 rfl (rfl) (by omega) (by decide) ?_
        refine J.topi (y := ltF L F (ntN L i)) ((hc i h9).2) ?_
        refine J.iload 4 dX4_gather_75 rfl ?_
        refine J.icmp_ge dX4_gather_77 (fun h7 => ?_) (fun h7 => ?_)
        · skip
          refine J.iload 6 dX4_gather_107 rfl ?_
          refine J.istore_n [1, 2, 3, 0, 4, 5, 6] (lv' := [(0, .ref o), (1, .ref c), (2, .int due), (3, .int (1 : Int32)), (4, .int (ltF L F x)), (5, .int (nI i)), (6, .int (1 : Int32))]) dX4_gather_109 rfl rfl ?_
          refine J.iinc 5 [1, 2, 3, 4, 5, 0, 6] (lv' := [(0, .ref o), (1, .ref c), (2, .int due), (3, .int (1 : Int32)), (4, .int (ltF L F x)), (5, .int (nI (i + 1))), (6, .int (1 : Int32))]) dX4_gather_110 rfl (jinc1 _) rfl rfl ?_
          refine J.goto dX4_gather_113 ?_
          refine J.loc [0, 1, 2, 3, 4, 5] (lv' := [(0, .ref o), (1, .ref c), (2, .int due), (3, .int (1 : Int32)), (4, .int (ltF L F x)), (5, .int (nI (i + 1)))]) rfl ?_
          exact X4_gather_lp B (i + 1) (x :: xs) true _ T hc (by omega) (by rw [take_lowF h9, hs]; exact lowG_keep h8 h7) (fun _ => ⟨_, _, rfl, rfl⟩) hT
        · skip
          refine J.aload_n 1 dX4_gather_80 rfl ?_
          refine J.get 2 fl_X4_22 dX4_gather_81 rfl rfl ?_
          refine J.iload 5 dX4_gather_84 rfl ?_
          refine J.iald 4 (i) dX4_gather_86 rfl (rfl) (by omega) (by decide) ?_
          refine J.topi (y := ltF L F (ntN L i)) ((hc i h9).2) ?_
          refine J.istore [1, 2, 3, 4, 0, 5, 6] (lv' := [(0, .ref o), (1, .ref c), (2, .int due), (3, .int (1 : Int32)), (4, .int (ltF L F (ntN L i))), (5, .int (nI i)), (6, .int (1 : Int32))]) dX4_gather_87 rfl rfl ?_
          refine J.aload_n 0 dX4_gather_89 rfl ?_
          refine J.get 0 fl_X4_9 dX4_gather_90 rfl rfl ?_
          refine J.aload_n 0 dX4_gather_93 rfl ?_
          refine J.get 0 fl_X4_15 dX4_gather_94 rfl rfl ?_
          refine J.iconst (1 : Int32) dX4_gather_97 rfl ?_
          refine J.isub dX4_gather_98 ?_
          refine J.topi (y := nI xs.length) (pk_sub (a := xs.length + 1) (b := 1) (by omega)) ?_
          refine J.aload_n 1 dX4_gather_99 rfl ?_
          refine J.get 2 fl_X4_25 dX4_gather_100 rfl rfl ?_
          refine J.iload 5 dX4_gather_103 rfl ?_
          refine J.iald 3 (i) dX4_gather_105 rfl (rfl) (by omega) (by decide) ?_
          refine J.topi (y := nI (ntN L i)) ((hc i h9).1) ?_
          refine J.iast 1 (xs.length) dX4_gather_106 rfl (rfl) (by omega) (by decide) (ws' := (o, .inr (4, [.ref ta, .int (nI (xs.length + 1))])) :: (ta, .inl (G.2.1.1, 60, .inl (upd T xs.length (nI (ntN L i))))) :: (c, .inr (1, [.ref cta, .ref cua, .int (nI (nN L))])) :: (cta, .inl (G.2.1.1, 60, .inl t)) :: (cua, .inl (G.2.1.1, 60, .inl u)) :: r) rfl ?_
          refine J.iload 6 dX4_gather_107 rfl ?_
          refine J.istore_n [1, 2, 3, 0, 4, 5, 6] (lv' := [(0, .ref o), (1, .ref c), (2, .int due), (3, .int (1 : Int32)), (4, .int (ltF L F (ntN L i))), (5, .int (nI i)), (6, .int (1 : Int32))]) dX4_gather_109 rfl rfl ?_
          refine J.iinc 5 [1, 2, 3, 4, 5, 0, 6] (lv' := [(0, .ref o), (1, .ref c), (2, .int due), (3, .int (1 : Int32)), (4, .int (ltF L F (ntN L i))), (5, .int (nI (i + 1))), (6, .int (1 : Int32))]) dX4_gather_110 rfl (jinc1 _) rfl rfl ?_
          refine J.goto dX4_gather_113 ?_
          refine J.loc [0, 1, 2, 3, 4, 5] (lv' := [(0, .ref o), (1, .ref c), (2, .int due), (3, .int (1 : Int32)), (4, .int (ltF L F (ntN L i))), (5, .int (nI (i + 1)))]) rfl ?_
          exact X4_gather_lp B (i + 1) (ntN L i :: xs) true _ _ hc (by omega) (by rw [take_lowF h9, hs]; exact lowG_less h8 h7) (fun _ => ⟨_, _, rfl, rfl⟩) (AGm_push hT.2)
termination_by nN L - i
decreasing_by all_goals omega
set_option maxHeartbeats 4000000 in
set_option maxRecDepth 100000 in
theorem c_X4_gather (l : Launch) (G : jG) (r : va_W) {o ta c cta cua : Nat} {L F t u : Nat → Int32} {due : Int32} {T : Nat → Int32} {sz : Int32} (hc : CV L F t u) : Mt l G yX4_gather mX4_gather 0 0 0 0 [.ref o, .ref c, .int due] ((o, .inr (4, [.ref ta, .int sz])) :: (ta, .inl (G.2.1.1, 60, .inl T)) :: (c, .inr (1, [.ref cta, .ref cua, .int (nI (nN L))])) :: (cta, .inl (G.2.1.1, 60, .inl t)) :: (cua, .inl (G.2.1.1, 60, .inl u)) :: r) (fun v w => ∃ T, AG T ((lowF (ltF L F) due (nts L 60)).1.map nI) ∧ v = none ∧ w = oX4 o ta (nI (lowF (ltF L F) due (nts L 60)).1.length) :: iA G ta 60 T :: oX1 c cta cua (nI (nN L)) :: iA G cta 60 t :: iA G cua 60 u :: r) := by
  refine Mt.of (by decide +kernel) rfl rfl (fun X B => ?_)
  show J G X mX4_gather ((o, .inr (4, [.ref ta, .int sz])) :: (ta, .inl (G.2.1.1, 60, .inl T)) :: (c, .inr (1, [.ref cta, .ref cua, .int (nI (nN L))])) :: (cta, .inl (G.2.1.1, 60, .inl t)) :: (cua, .inl (G.2.1.1, 60, .inl u)) :: r) 0 0 0 [(0, .ref o), (1, .ref c), (2, .int due)] []
  refine J.aload_n 0 dX4_gather_0 rfl ?_
  refine J.iconst (0 : Int32) dX4_gather_1 rfl ?_
  refine J.put 0 fp_X4_15 dX4_gather_2 rfl (rfl) (rfl) rfl (ws' := (o, .inr (4, [.ref ta, .int (0 : Int32)])) :: (ta, .inl (G.2.1.1, 60, .inl T)) :: (c, .inr (1, [.ref cta, .ref cua, .int (nI (nN L))])) :: (cta, .inl (G.2.1.1, 60, .inl t)) :: (cua, .inl (G.2.1.1, 60, .inl u)) :: r) rfl ?_
  refine J.iconst (0 : Int32) dX4_gather_5 rfl ?_
  refine J.istore_n [1, 2, 3, 0] (lv' := [(0, .ref o), (1, .ref c), (2, .int due), (3, .int (0 : Int32))]) dX4_gather_6 rfl rfl ?_
  refine J.iconst (0 : Int32) dX4_gather_7 rfl ?_
  refine J.istore [1, 2, 3, 4, 0] (lv' := [(0, .ref o), (1, .ref c), (2, .int due), (3, .int (0 : Int32)), (4, .int (0 : Int32))]) dX4_gather_8 rfl rfl ?_
  refine J.iconst (0 : Int32) dX4_gather_10 rfl ?_
  refine J.istore [1, 2, 3, 4, 5, 0] (lv' := [(0, .ref o), (1, .ref c), (2, .int due), (3, .int (0 : Int32)), (4, .int (0 : Int32)), (5, .int (0 : Int32))]) dX4_gather_11 rfl rfl ?_
  exact X4_gather_lp B 0 [] false 0 T hc (by omega) rfl (fun z => by cases z) trivial
end
section
/-! THE STRING -/
def insK (key : Nat → Nat) (k : Nat) : List Nat → List Nat
  | [] => [k]
  | x :: xs => if key x ≤ key k then k :: x :: xs else x :: insK key k xs
theorem insK_len (key : Nat → Nat) (k : Nat) : ∀ l, (insK key k l).length = l.length + 1
  | [] => rfl
  | x :: xs => by
    unfold insK
    split
    · rfl
    · rw [List.length_cons, insK_len key k xs, List.length_cons]
theorem insK_mem {key : Nat → Nat} {k y : Nat} : ∀ {l : List Nat}, y ∈ insK key k l → y = k ∨ y ∈ l
  | [], h => Or.inl (by simpa [insK] using h)
  | x :: xs, h => by
    unfold insK at h
    split at h
    · simpa using h
    · rcases List.mem_cons.mp h with rfl | h
      · exact Or.inr List.mem_cons_self
      · rcases insK_mem h with h | h
        · exact Or.inl h
        · exact Or.inr (List.mem_cons_of_mem _ h)
def ordK (key : Nat → Nat) (ks : List Nat) : List Nat := ks.foldl (fun rl k => insK key k rl) []
theorem ordK_snoc (key : Nat → Nat) (ks : List Nat) (k : Nat) : ordK key (ks ++ [k]) = insK key k (ordK key ks) := by
  unfold ordK
  rw [List.foldl_append]
  rfl
theorem ordK_fold_len (key : Nat → Nat) : ∀ (ks a : List Nat), (ks.foldl (fun rl k => insK key k rl) a).length = a.length + ks.length
  | [], a => rfl
  | k :: ks, a => by
    rw [List.foldl_cons, ordK_fold_len key ks, insK_len, List.length_cons]
    omega
theorem ordK_len (key : Nat → Nat) (ks : List Nat) : (ordK key ks).length = ks.length := by
  have := ordK_fold_len key ks []
  rw [List.length_nil, Nat.zero_add] at this
  exact this
theorem ordK_fold_mem (key : Nat → Nat) {y : Nat} : ∀ (ks a : List Nat), y ∈ ks.foldl (fun rl k => insK key k rl) a → y ∈ a ∨ y ∈ ks
  | [], a, h => Or.inl h
  | k :: ks, a, h => by
    rw [List.foldl_cons] at h
    rcases ordK_fold_mem key ks _ h with h | h
    · rcases insK_mem h with rfl | h
      · exact Or.inr List.mem_cons_self
      · exact Or.inl h
    · exact Or.inr (List.mem_cons_of_mem _ h)
theorem ordK_mem {key : Nat → Nat} {ks : List Nat} {y : Nat} (h : y ∈ ordK key ks) : y ∈ ks := by
  rcases ordK_fold_mem key ks [] h with h | h
  · exact absurd h List.not_mem_nil
  · exact h
theorem take_ordK {L : Nat → Int32} {i : Nat} (h : i < nN L) (key : Nat → Nat) : ordK key ((nts L 60).take (i + 1)) = insK key (ntN L i) (ordK key ((nts L 60).take i)) := by
  rw [take_getD (d := 0) h, ordK_snoc]
theorem take_ordK_len {L : Nat → Int32} {i : Nat} (h : i ≤ nN L) (key : Nat → Nat) : (ordK key ((nts L 60).take i)).length = i := by
  rw [ordK_len, List.length_take]
  exact Nat.min_eq_left h
/-- put into two rows, by the first one's numbers -/
def insF (key : Nat → Nat) (k : Nat) (v w : Int32) (P Q : Nat → Int32) : List Nat → (Nat → Int32) × (Nat → Int32)
  | [] => (upd P 0 v, upd Q 0 w)
  | x :: xs => if key x ≤ key k then (upd P (xs.length + 1) v, upd Q (xs.length + 1) w) else insF key k v w (upd P (xs.length + 1) (P xs.length)) (upd Q (xs.length + 1) (Q xs.length)) xs
theorem insF_hi (key : Nat → Nat) (k : Nat) (v w : Int32) : ∀ (xs : List Nat) (P Q : Nat → Int32) (j : Nat), xs.length < j → (insF key k v w P Q xs).1 j = P j ∧ (insF key k v w P Q xs).2 j = Q j
  | [], P, Q, j, h => ⟨pk_un (by rw [List.length_nil] at h; omega), pk_un (by rw [List.length_nil] at h; omega)⟩
  | x :: xs, P, Q, j, h => by
    rw [List.length_cons] at h
    unfold insF
    split
    · exact ⟨pk_un (by omega), pk_un (by omega)⟩
    · obtain ⟨h1, h2⟩ := insF_hi key k v w xs (upd P (xs.length + 1) (P xs.length)) (upd Q (xs.length + 1) (Q xs.length)) j (by omega)
      rw [h1, h2]
      exact ⟨pk_un (by omega), pk_un (by omega)⟩
theorem AG_insF (key : Nat → Nat) (k : Nat) (φ ψ : Nat → Int32) : ∀ (xs : List Nat) (P Q : Nat → Int32), AG P (xs.map φ) → AG Q (xs.map ψ) →
    AG (insF key k (φ k) (ψ k) P Q xs).1 ((insK key k xs).map φ) ∧ AG (insF key k (φ k) (ψ k) P Q xs).2 ((insK key k xs).map ψ)
  | [], P, Q, _, _ => ⟨⟨pk_us (f := P) (k := 0) (x := φ k), trivial⟩, ⟨pk_us (f := Q) (k := 0) (x := ψ k), trivial⟩⟩
  | x :: xs, P, Q, h1, h2 => by
    have l1 : (xs.map φ).length = xs.length := List.length_map ..
    have l2 : (xs.map ψ).length = xs.length := List.length_map ..
    have e1 : P xs.length = φ x := by have := h1.1; rw [l1] at this; exact this
    have e2 : Q xs.length = ψ x := by have := h2.1; rw [l2] at this; exact this
    unfold insF insK
    split
    · refine ⟨⟨?_, ?_, ?_⟩, ⟨?_, ?_, ?_⟩⟩
      · show upd P _ _ (x :: xs |>.map φ).length = _
        rw [List.length_map, List.length_cons]; exact pk_us
      · rw [l1]; dsimp only; rw [pk_un (by omega)]; exact e1
      · exact AG_hi (fun j hj => pk_un (by rw [l1] at hj; omega)) h1.2
      · show upd Q _ _ (x :: xs |>.map ψ).length = _
        rw [List.length_map, List.length_cons]; exact pk_us
      · rw [l2]; dsimp only; rw [pk_un (by omega)]; exact e2
      · exact AG_hi (fun j hj => pk_un (by rw [l2] at hj; omega)) h2.2
    · have ih := AG_insF key k φ ψ xs (upd P (xs.length + 1) (P xs.length)) (upd Q (xs.length + 1) (Q xs.length)) (AG_hi (fun j hj => pk_un (by rw [l1] at hj; omega)) h1.2) (AG_hi (fun j hj => pk_un (by rw [l2] at hj; omega)) h2.2)
      have hh := insF_hi key k (φ k) (ψ k) xs (upd P (xs.length + 1) (P xs.length)) (upd Q (xs.length + 1) (Q xs.length)) (xs.length + 1) (by omega)
      refine ⟨⟨?_, ih.1⟩, ⟨?_, ih.2⟩⟩
      · rw [List.length_map, insK_len, hh.1, pk_us]; exact e1
      · rw [List.length_map, insK_len, hh.2, pk_us]; exact e2
/-- place i of a ring that is held from its last one back -/
def rg (rl : List Nat) (i : Nat) : Nat := rl.getD (rl.length - 1 - i) 0
def nx (n i : Nat) : Nat := if i + 1 < n then i + 1 else 0
theorem AG_rg {f : Nat → Int32} {rl : List Nat} {φ : Nat → Int32} {i : Nat} (h : AG f (rl.map φ)) (hi : i < rl.length) : f i = φ (rg rl i) := by
  have h1 := AG_get (d := φ 0) (i := i) h (by rw [List.length_map]; exact hi)
  rw [h1, List.length_map, rg, List.getD_eq_getElem?_getD, List.getD_eq_getElem?_getD, List.getElem?_map, List.getElem?_eq_getElem (by omega)]
  rfl
theorem rg_mem {rl : List Nat} {i : Nat} (h : i < rl.length) : rg rl i ∈ rl := by
  unfold rg
  rw [List.getD_eq_getElem?_getD, List.getElem?_eq_getElem (by omega)]
  exact List.getElem_mem _
def strT (lt : Nat → Int32) (rl : List Nat) (i : Nat) : Int := (((lt (rg rl i)).toInt - (lt (rg rl (nx rl.length i))).toInt).natAbs : Int)
def strS (lt : Nat → Int32) (rl : List Nat) : Nat → Int
  | 0 => 0
  | i + 1 => strS lt rl i + strT lt rl i
/-- how great LIGHTS are -/
def BD (L F : Nat → Int32) : Prop := ∀ k, k < 60 → ¬ L k = -9 → -20000 ≤ (ltF L F k).toInt ∧ (ltF L F k).toInt ≤ 20000
theorem strT_bd {L F : Nat → Int32} (hb : BD L F) (key : Nat → Nat) {i : Nat} (hi : i < nN L) : 0 ≤ strT (ltF L F) (ordK key (nts L 60)) i ∧ strT (ltF L F) (ordK key (nts L 60)) i ≤ 40000 := by
  have hl : (ordK key (nts L 60)).length = nN L := ordK_len key (nts L 60)
  have m1 := mem_nts.mp (ordK_mem (rg_mem (rl := ordK key (nts L 60)) (i := i) (by rw [hl]; exact hi)))
  have m2 := mem_nts.mp (ordK_mem (rg_mem (rl := ordK key (nts L 60)) (i := nx (ordK key (nts L 60)).length i) (by unfold nx; split <;> omega)))
  have b1 := hb _ m1.1 m1.2
  have b2 := hb _ m2.1 m2.2
  unfold strT
  omega
theorem strS_bd {L F : Nat → Int32} (hb : BD L F) (key : Nat → Nat) : ∀ i, i ≤ nN L → 0 ≤ strS (ltF L F) (ordK key (nts L 60)) i ∧ strS (ltF L F) (ordK key (nts L 60)) i ≤ 40000 * i
  | 0, _ => ⟨Int.le_refl _, Int.le_refl _⟩
  | i + 1, h => by
    have h1 := strS_bd hb key i (by omega)
    have h2 := strT_bd hb key (i := i) (by omega)
    unfold strS
    omega
def strV (L F : Nat → Int32) (p q : Nat) : Int := strS (ltF L F) (ordK (fun k => k * q % p) (nts L 60)) (nN L)
theorem strV_bd {L F : Nat → Int32} (hb : BD L F) (p q : Nat) : 0 ≤ strV L F p q ∧ strV L F p q ≤ 2400000 := by
  have h1 := strS_bd hb (fun k => k * q % p) (nN L) (Nat.le_refl _)
  have h2 := nN_le L
  unfold strV
  omega
theorem sub_bd {x y : Int32} (hx : -20000 ≤ x.toInt ∧ x.toInt ≤ 20000) (hy : -20000 ≤ y.toInt ∧ y.toInt ≤ 20000) : (x - y).toInt = x.toInt - y.toInt := fb_subI (by omega) (by omega)
/-- how a step of the sum goes, in ints -/
theorem str_stepI {L F : Nat → Int32} (hb : BD L F) (key : Nat → Nat) {i : Nat} (hi : i < nN L) {x y : Int32} (hx : x = ltF L F (rg (ordK key (nts L 60)) i)) (hy : y = ltF L F (rg (ordK key (nts L 60)) (nx (ordK key (nts L 60)).length i))) :
    Int32.ofInt (strS (ltF L F) (ordK key (nts L 60)) i) + (if 0 ≤ x - y then x - y else -(x - y)) = Int32.ofInt (strS (ltF L F) (ordK key (nts L 60)) (i + 1)) := by
  have hl : (ordK key (nts L 60)).length = nN L := ordK_len key (nts L 60)
  have m1 := mem_nts.mp (ordK_mem (rg_mem (rl := ordK key (nts L 60)) (i := i) (by rw [hl]; exact hi)))
  have m2 := mem_nts.mp (ordK_mem (rg_mem (rl := ordK key (nts L 60)) (i := nx (ordK key (nts L 60)).length i) (by unfold nx; split <;> omega)))
  have b1 := hb _ m1.1 m1.2
  have b2 := hb _ m2.1 m2.2
  rw [← hx] at b1
  rw [← hy] at b2
  have hs := sub_bd b1 b2
  have s0 := strS_bd hb key i (by omega)
  have hn := nN_le L
  have e : (if 0 ≤ x - y then x - y else -(x - y)).toInt = strT (ltF L F) (ordK key (nts L 60)) i := by
    unfold strT
    rw [← hx, ← hy]
    split
    · rename_i h
      rw [fa_le, hs] at h
      have : (0 : Int32).toInt = 0 := rfl
      rw [hs]
      omega
    · rename_i h
      rw [fa_le, hs] at h
      have : (0 : Int32).toInt = 0 := rfl
      rw [fb_negI (by rw [hs]; omega), hs]
      omega
  have t0 := strT_bd hb key hi
  apply Int32.toInt_inj.mp
  have e1 : (Int32.ofInt (strS (ltF L F) (ordK key (nts L 60)) i)).toInt = strS (ltF L F) (ordK key (nts L 60)) i := fb_ofI (by omega) (by omega)
  rw [fb_addI (by rw [e1, e]; omega) (by rw [e1, e]; omega), e1, e]
  show _ = (Int32.ofInt (strS (ltF L F) (ordK key (nts L 60)) i + strT (ltF L F) (ordK key (nts L 60)) i)).toInt
  rw [fb_ofI (by omega) (by omega)]
theorem nI_keyle {a b : Nat} (p : Nat) (ha : a < 600) (hb : b < 600) : (nI a ≤ nI b) ↔ a ≤ b := nI_leI (by omega) (by omega)
theorem AG_hd {P : Nat → Int32} {x : Nat} {xs : List Nat} {φ : Nat → Int32} (h : AG P ((x :: xs).map φ)) : P xs.length = φ x := by
  have := h.1
  rw [List.length_map] at this
  exact this
theorem AG_tl {P P' : Nat → Int32} {x : Nat} {xs : List Nat} {φ : Nat → Int32} (h : AG P ((x :: xs).map φ)) (hh : ∀ j, j < xs.length → P' j = P j) : AG P' (xs.map φ) := AG_hi (fun j hj => hh j (by rw [List.length_map] at hj; exact hj)) h.2
theorem key_lt {p q : Nat} (hp : 1 ≤ p) (hp2 : p ≤ 600) (y : Nat) : y * q % p < 600 := Nat.lt_of_lt_of_le (Nat.mod_lt _ (by omega)) hp2
/-- the first of the least, from a on, d places more -/
def lstN (g : Nat → Int) (a : Nat) : Nat → Nat
  | 0 => a
  | d + 1 => if g (a + d + 1) < g (lstN g a d) then a + d + 1 else lstN g a d
theorem lstN_in (g : Nat → Int) (a : Nat) : ∀ d, a ≤ lstN g a d ∧ lstN g a d ≤ a + d
  | 0 => ⟨Nat.le_refl _, Nat.le_refl _⟩
  | d + 1 => by
    have := lstN_in g a d
    unfold lstN
    split <;> omega
theorem ofI_lt {x y : Int} (hx : 0 ≤ x ∧ x ≤ 2400000) (hy : 0 ≤ y ∧ y ≤ 2400000) : (Int32.ofInt y ≤ Int32.ofInt x) ↔ y ≤ x := by
  rw [fa_le, fb_ofI (by omega) (by omega), fb_ofI (by omega) (by omega)]
theorem lstN_s (g : Nat → Int) (a d : Nat) : lstN g a (d + 1) = if g (a + d + 1) < g (lstN g a d) then a + d + 1 else lstN g a d := rfl
end
section
set_option maxHeartbeats 4000000 in
set_option maxRecDepth 100000 in
theorem c_X7_phaseOfTime (l : Launch) (G : jG) (r : va_W) {k p q : Nat} (hp : 1 ≤ p) (hp2 : p ≤ 600) (hk : k < 60) (hq : q ≤ 60) : Mt l G yX7_phaseOfTime mX7_phaseOfTime 0 0 0 0 [.int (nI k), .int (nI p), .int (nI q)] (r) (fun v w => v = some (.int (nI (k * q % p))) ∧ w = r) := by
  refine Mt.of (by decide +kernel) rfl rfl (fun X B => ?_)
  show J G X mX7_phaseOfTime (r) 0 0 0 [(0, .int (nI k)), (1, .int (nI p)), (2, .int (nI q))] []
  have hkq : k * q ≤ 60 * 60 := Nat.mul_le_mul (by omega) hq
  refine J.iload_n 1 dX7_phaseOfTime_0 rfl ?_
  refine J.iconst (1 : Int32) dX7_phaseOfTime_1 rfl ?_
  refine J.icmp_ge dX7_phaseOfTime_2 (fun h9 => ?_) (fun h9 => ?_)
  · skip
    have h9 : 1 ≤ p := (nI_leI (a := 1) (b := p) (by omega) (by omega)).mp h9
    refine J.iload_n 0 dX7_phaseOfTime_9 rfl ?_
    refine J.iload_n 2 dX7_phaseOfTime_10 rfl ?_
    refine J.imul dX7_phaseOfTime_11 ?_
    refine J.topi (y := nI (k * q)) (pk_mul k q) ?_
    refine J.iload_n 1 dX7_phaseOfTime_12 rfl ?_
    refine J.irem dX7_phaseOfTime_13 (nI_ne0 (n := p) (by omega) (by omega)) ?_
    refine J.topi (y := nI ((k * q) % p)) (pk_rem (a := k * q) (d := p) (by omega) (by omega) (by omega)) ?_
    exact J.iret B dX7_phaseOfTime_14 rfl (⟨rfl, rfl⟩)
  · skip
    have h9 : ¬ 1 ≤ p := fun z => h9 ((nI_leI (a := 1) (b := p) (by omega) (by omega)).mpr z)
    omega
set_option maxHeartbeats 4000000 in
set_option maxRecDepth 100000 in
theorem X3_put_lp {l : Launch} {G : jG} {X : jX} {r : va_W} {o pa qa sa k : Nat} {key : Nat → Nat} {n0 w0 : Int32} {R0 : (Nat → Int32) × (Nat → Int32)} (B : jB l G X 0 0 0 0 (fun v w => v = none ∧ w = oX3 o pa qa sa :: iA G pa 60 R0.1 :: iA G qa 60 R0.2 :: r) "put") (hkey : ∀ y, key y < 600) : ∀ (xs : List Nat) (P Q : Nat → Int32), xs.length < 60 → AG P (xs.map (fun y => nI (key y))) → insF key k (nI (key k)) w0 P Q xs = R0 → J G X mX3_put ((o, .inr (3, [.ref pa, .ref qa, .ref sa])) :: (pa, .inl (G.2.1.1, 60, .inl P)) :: (qa, .inl (G.2.1.1, 60, .inl Q)) :: r) 0 0 3 [(0, .ref o), (1, .int n0), (2, .int (nI (key k))), (3, .int w0), (4, .int (nI xs.length))] [] := by
  intro xs
  have hk2 := hkey k
  induction xs with
  | nil =>
    intro P Q hp hA hR
    show J G X mX3_put ((o, .inr (3, [.ref pa, .ref qa, .ref sa])) :: (pa, .inl (G.2.1.1, 60, .inl P)) :: (qa, .inl (G.2.1.1, 60, .inl Q)) :: r) 0 0 3 [(0, .ref o), (1, .int n0), (2, .int (nI (key k))), (3, .int w0), (4, .int (nI 0))] []
    refine J.iload 4 dX3_put_3 rfl ?_
    refine J.if_le dX3_put_5 (fun h_1 => ?_) (fun z => absurd (by decide) z)
    refine J.aload_n 0 dX3_put_59 rfl ?_
    refine J.get 0 fl_X3_9 dX3_put_60 rfl rfl ?_
    refine J.iload 4 dX3_put_63 rfl ?_
    refine J.iload_n 2 dX3_put_65 rfl ?_
    refine J.iast 1 (0) dX3_put_66 rfl (rfl) (by omega) (by decide) (ws' := (o, .inr (3, [.ref pa, .ref qa, .ref sa])) :: (pa, .inl (G.2.1.1, 60, .inl (upd P 0 (nI (key k))))) :: (qa, .inl (G.2.1.1, 60, .inl Q)) :: r) rfl ?_
    refine J.aload_n 0 dX3_put_67 rfl ?_
    refine J.get 0 fl_X3_15 dX3_put_68 rfl rfl ?_
    refine J.iload 4 dX3_put_71 rfl ?_
    refine J.iload_n 3 dX3_put_73 rfl ?_
    refine J.iast 2 (0) dX3_put_74 rfl (rfl) (by omega) (by decide) (ws' := (o, .inr (3, [.ref pa, .ref qa, .ref sa])) :: (pa, .inl (G.2.1.1, 60, .inl (upd P 0 (nI (key k))))) :: (qa, .inl (G.2.1.1, 60, .inl (upd Q 0 w0))) :: r) rfl ?_
    exact J.vret B dX3_put_75 rfl (⟨rfl, by rw [← hR]; rfl⟩)
  | cons x xs ih =>
    intro P Q hp hA hR
    rw [List.length_cons] at hp
    have hk1 := hkey x
    show J G X mX3_put ((o, .inr (3, [.ref pa, .ref qa, .ref sa])) :: (pa, .inl (G.2.1.1, 60, .inl P)) :: (qa, .inl (G.2.1.1, 60, .inl Q)) :: r) 0 0 3 [(0, .ref o), (1, .int n0), (2, .int (nI (key k))), (3, .int w0), (4, .int (nI (xs.length + 1)))] []
    refine J.iload 4 dX3_put_3 rfl ?_
    refine J.if_le dX3_put_5 (fun z => absurd z (nI_nle (by omega) (by omega))) (fun h_1 => ?_)
    refine J.aload_n 0 dX3_put_8 rfl ?_
    refine J.get 0 fl_X3_9 dX3_put_9 rfl rfl ?_
    refine J.iload 4 dX3_put_12 rfl ?_
    refine J.iconst (1 : Int32) dX3_put_14 rfl ?_
    refine J.isub dX3_put_15 ?_
    refine J.topi (y := nI xs.length) (pk_sub (a := xs.length + 1) (b := 1) (by omega)) ?_
    refine J.iald 1 (xs.length) dX3_put_16 rfl (rfl) (by omega) (by decide) ?_
    refine J.topi (y := nI (key x)) (AG_hd (φ := fun y => nI (key y)) hA) ?_
    refine J.iload_n 2 dX3_put_17 rfl ?_
    refine J.icmp_le dX3_put_18 (fun h8 => ?_) (fun h8 => ?_)
    · skip
      have h8 : (key x) ≤ (key k) := (nI_leI (a := (key x)) (b := (key k)) (by omega) (by omega)).mp h8
      refine J.aload_n 0 dX3_put_59 rfl ?_
      refine J.get 0 fl_X3_9 dX3_put_60 rfl rfl ?_
      refine J.iload 4 dX3_put_63 rfl ?_
      refine J.iload_n 2 dX3_put_65 rfl ?_
      refine J.iast 1 (xs.length + 1) dX3_put_66 rfl (rfl) (by omega) (by decide) (ws' := (o, .inr (3, [.ref pa, .ref qa, .ref sa])) :: (pa, .inl (G.2.1.1, 60, .inl (upd P (xs.length + 1) (nI (key k))))) :: (qa, .inl (G.2.1.1, 60, .inl Q)) :: r) rfl ?_
      refine J.aload_n 0 dX3_put_67 rfl ?_
      refine J.get 0 fl_X3_15 dX3_put_68 rfl rfl ?_
      refine J.iload 4 dX3_put_71 rfl ?_
      refine J.iload_n 3 dX3_put_73 rfl ?_
      refine J.iast 2 (xs.length + 1) dX3_put_74 rfl (rfl) (by omega) (by decide) (ws' := (o, .inr (3, [.ref pa, .ref qa, .ref sa])) :: (pa, .inl (G.2.1.1, 60, .inl (upd P (xs.length + 1) (nI (key k))))) :: (qa, .inl (G.2.1.1, 60, .inl (upd Q (xs.length + 1) w0))) :: r) rfl ?_
      exact J.vret B dX3_put_75 rfl (⟨rfl, by rw [← hR, insF, if_pos h8]⟩)
    · skip
      have h8 : ¬ (key x) ≤ (key k) := fun z => h8 ((nI_leI (a := (key x)) (b := (key k)) (by omega) (by omega)).mpr z)
      refine J.aload_n 0 dX3_put_21 rfl ?_
      refine J.get 0 fl_X3_9 dX3_put_22 rfl rfl ?_
      refine J.iload 4 dX3_put_25 rfl ?_
      refine J.aload_n 0 dX3_put_27 rfl ?_
      refine J.get 0 fl_X3_9 dX3_put_28 rfl rfl ?_
      refine J.iload 4 dX3_put_31 rfl ?_
      refine J.iconst (1 : Int32) dX3_put_33 rfl ?_
      refine J.isub dX3_put_34 ?_
      refine J.topi (y := nI xs.length) (pk_sub (a := xs.length + 1) (b := 1) (by omega)) ?_
      refine J.iald 1 (xs.length) dX3_put_35 rfl (rfl) (by omega) (by decide) ?_
      refine J.iast 1 (xs.length + 1) dX3_put_36 rfl (rfl) (by omega) (by decide) (ws' := (o, .inr (3, [.ref pa, .ref qa, .ref sa])) :: (pa, .inl (G.2.1.1, 60, .inl (upd P (xs.length + 1) (P xs.length)))) :: (qa, .inl (G.2.1.1, 60, .inl Q)) :: r) rfl ?_
      refine J.aload_n 0 dX3_put_37 rfl ?_
      refine J.get 0 fl_X3_15 dX3_put_38 rfl rfl ?_
      refine J.iload 4 dX3_put_41 rfl ?_
      refine J.aload_n 0 dX3_put_43 rfl ?_
      refine J.get 0 fl_X3_15 dX3_put_44 rfl rfl ?_
      refine J.iload 4 dX3_put_47 rfl ?_
      refine J.iconst (1 : Int32) dX3_put_49 rfl ?_
      refine J.isub dX3_put_50 ?_
      refine J.topi (y := nI xs.length) (pk_sub (a := xs.length + 1) (b := 1) (by omega)) ?_
      refine J.iald 2 (xs.length) dX3_put_51 rfl (rfl) (by omega) (by decide) ?_
      refine J.iast 2 (xs.length + 1) dX3_put_52 rfl (rfl) (by omega) (by decide) (ws' := (o, .inr (3, [.ref pa, .ref qa, .ref sa])) :: (pa, .inl (G.2.1.1, 60, .inl (upd P (xs.length + 1) (P xs.length)))) :: (qa, .inl (G.2.1.1, 60, .inl (upd Q (xs.length + 1) (Q xs.length)))) :: r) rfl ?_
      refine J.iinc 4 [1, 2, 3, 4, 0] (lv' := [(0, .ref o), (1, .int n0), (2, .int (nI (key k))), (3, .int w0), (4, .int (nI xs.length))]) dX3_put_53 rfl (jdec1 _) rfl rfl ?_
      refine J.goto dX3_put_56 ?_
      exact ih _ _ (by omega) (AG_tl hA (fun j hj => pk_un (by omega))) (by rw [← hR, insF, if_neg h8])
set_option maxHeartbeats 4000000 in
set_option maxRecDepth 100000 in
theorem c_X3_put (l : Launch) (G : jG) (r : va_W) {o pa qa sa k : Nat} {key : Nat → Nat} {w0 : Int32} {P Q : Nat → Int32} (xs : List Nat) (hkey : ∀ y, key y < 600) (hx : xs.length < 60) (hA : AG P (xs.map (fun y => nI (key y)))) : Mt l G yX3_put mX3_put 0 0 0 0 [.ref o, .int (nI xs.length), .int (nI (key k)), .int w0] ((o, .inr (3, [.ref pa, .ref qa, .ref sa])) :: (pa, .inl (G.2.1.1, 60, .inl P)) :: (qa, .inl (G.2.1.1, 60, .inl Q)) :: r) (fun v w => v = none ∧ w = oX3 o pa qa sa :: iA G pa 60 (insF key k (nI (key k)) w0 P Q xs).1 :: iA G qa 60 (insF key k (nI (key k)) w0 P Q xs).2 :: r) := by
  refine Mt.of (by decide +kernel) rfl rfl (fun X B => ?_)
  show J G X mX3_put ((o, .inr (3, [.ref pa, .ref qa, .ref sa])) :: (pa, .inl (G.2.1.1, 60, .inl P)) :: (qa, .inl (G.2.1.1, 60, .inl Q)) :: r) 0 0 0 [(0, .ref o), (1, .int (nI xs.length)), (2, .int (nI (key k))), (3, .int w0)] []
  refine J.iload_n 1 dX3_put_0 rfl ?_
  refine J.istore [1, 2, 3, 4, 0] (lv' := [(0, .ref o), (1, .int (nI xs.length)), (2, .int (nI (key k))), (3, .int w0), (4, .int (nI xs.length))]) dX3_put_1 rfl rfl ?_
  exact X3_put_lp B hkey xs P Q hx hA rfl
set_option maxHeartbeats 4000000 in
set_option maxRecDepth 100000 in
theorem X3_str_lp2 {l : Launch} {G : jG} {X : jX} {r : va_W} {o pa qa sa c cta cua p q : Nat} {L F t u : Nat → Int32} (B : jB l G X 1 24 0 0 (fun v w => v = some (.int (Int32.ofInt (strV L F p q))) ∧ ∃ P Q, w = oX3 o pa qa sa :: iA G pa 60 P :: iA G qa 60 Q :: oX1 c cta cua (nI (nN L)) :: iA G cta 60 t :: iA G cua 60 u :: r) "stringOf") (i : Nat) (hc : CV L F t u) (hb : BD L F) (hp : 1 ≤ p) (hp2 : p ≤ 600) (hq : q ≤ 60) (P Q : Nat → Int32) (hQ : AG Q ((ordK (fun y => y * q % p) (nts L 60)).map (ltF L F))) (hi : i ≤ nN L) : J G X mX3_stringOf ((o, .inr (3, [.ref pa, .ref qa, .ref sa])) :: (pa, .inl (G.2.1.1, 60, .inl P)) :: (qa, .inl (G.2.1.1, 60, .inl Q)) :: (c, .inr (1, [.ref cta, .ref cua, .int (nI (nN L))])) :: (cta, .inl (G.2.1.1, 60, .inl t)) :: (cua, .inl (G.2.1.1, 60, .inl u)) :: r) 0 0 49 [(0, .ref o), (1, .ref c), (2, .int (nI p)), (3, .int (nI q)), (4, .int (Int32.ofInt (strS (ltF L F) (ordK (fun y => y * q % p) (nts L 60)) i))), (5, .int (nI i))] [] := by
  have hn := nN_le L
  have hl : (ordK (fun y => y * q % p) (nts L 60)).length = nN L := ordK_len _ _
  refine J.iload 5 dX3_stringOf_49 rfl ?_
  refine J.aload_n 1 dX3_stringOf_51 rfl ?_
  refine J.get 3 fl_X3_21 dX3_stringOf_52 rfl rfl ?_
  refine J.icmp_ge dX3_stringOf_55 (fun h9 => ?_) (fun h9 => ?_)
  · skip
    have h9 : (nN L) ≤ i := (nI_leI (a := (nN L)) (b := i) (by omega) (by omega)).mp h9
    have e : i = nN L := by omega
    subst e
    refine J.iload 4 dX3_stringOf_108 rfl ?_
    exact J.iret B dX3_stringOf_110 rfl (⟨rfl, P, Q, rfl⟩)
  · skip
    have h9 : ¬ (nN L) ≤ i := fun z => h9 ((nI_leI (a := (nN L)) (b := i) (by omega) (by omega)).mpr z)
    have h9 : i < nN L := by omega
    refine J.iload 5 dX3_stringOf_58 rfl ?_
    refine J.iconst (1 : Int32) dX3_stringOf_60 rfl ?_
    refine J.iadd dX3_stringOf_61 ?_
    refine J.topi (y := nI (i + 1)) (nI_add i 1) ?_
    refine J.aload_n 1 dX3_stringOf_62 rfl ?_
    refine J.get 3 fl_X3_21 dX3_stringOf_63 rfl rfl ?_
    refine J.icmp_ge dX3_stringOf_66 (fun h8 => ?_) (fun h8 => ?_)
    · skip
      have h8 : (nN L) ≤ (i + 1) := (nI_leI (a := (nN L)) (b := (i + 1)) (by omega) (by omega)).mp h8
      have hnx : nx (ordK (fun y => y * q % p) (nts L 60)).length i = 0 := by unfold nx; rw [hl, if_neg (by omega)]
      refine J.iconst (0 : Int32) dX3_stringOf_76 rfl ?_
      refine J.istore [1, 2, 3, 4, 5, 6, 0] (lv' := [(0, .ref o), (1, .ref c), (2, .int (nI p)), (3, .int (nI q)), (4, .int (Int32.ofInt (strS (ltF L F) (ordK (fun y => y * q % p) (nts L 60)) i))), (5, .int (nI i)), (6, .int (0 : Int32))]) dX3_stringOf_77 rfl rfl ?_
      refine J.iload 4 dX3_stringOf_79 rfl ?_
      refine J.aload_n 0 dX3_stringOf_81 rfl ?_
      refine J.get 0 fl_X3_15 dX3_stringOf_82 rfl rfl ?_
      refine J.iload 5 dX3_stringOf_85 rfl ?_
      refine J.iald 2 (i) dX3_stringOf_87 rfl (rfl) (by omega) (by decide) ?_
      refine J.aload_n 0 dX3_stringOf_88 rfl ?_
      refine J.get 0 fl_X3_15 dX3_stringOf_89 rfl rfl ?_
      refine J.iload 6 dX3_stringOf_92 rfl ?_
      refine J.iald 2 (0) dX3_stringOf_94 rfl (rfl) (by omega) (by decide) ?_
      refine J.isub dX3_stringOf_95 ?_
      refine J.callS (st := [.int (Int32.ofInt (strS (ltF L F) (ordK (fun y => y * q % p) (nts L 60)) i))]) B (c_J9_abs_0f7a4 l G _ (a := (Q i) - (Q 0))) ml_X3_39 mf_yJ9_abs_0f7a4 mS_yJ9_abs_0f7a4 dX3_stringOf_96 rfl rfl rfl (fun v_1 w_2 hp_3 => ?_)
      obtain ⟨rfl, rfl⟩ := hp_3
      show J G X mX3_stringOf _ _ _ 99 _ [.int (if 0 ≤ ((Q i) - (Q 0)) then (Q i) - (Q 0) else -((Q i) - (Q 0))), .int (Int32.ofInt (strS (ltF L F) (ordK (fun y => y * q % p) (nts L 60)) i))]
      refine J.iadd dX3_stringOf_99 ?_
      refine J.istore [1, 2, 3, 4, 0, 5, 6] (lv' := [(0, .ref o), (1, .ref c), (2, .int (nI p)), (3, .int (nI q)), (4, .int ((Int32.ofInt (strS (ltF L F) (ordK (fun y => y * q % p) (nts L 60)) i)) + (if 0 ≤ ((Q i) - (Q 0)) then (Q i) - (Q 0) else -((Q i) - (Q 0))))), (5, .int (nI i)), (6, .int (0 : Int32))]) dX3_stringOf_100 rfl rfl ?_
      refine J.iinc 5 [1, 2, 3, 4, 5, 0, 6] (lv' := [(0, .ref o), (1, .ref c), (2, .int (nI p)), (3, .int (nI q)), (4, .int ((Int32.ofInt (strS (ltF L F) (ordK (fun y => y * q % p) (nts L 60)) i)) + (if 0 ≤ ((Q i) - (Q 0)) then (Q i) - (Q 0) else -((Q i) - (Q 0))))), (5, .int (nI (i + 1))), (6, .int (0 : Int32))]) dX3_stringOf_102 rfl (jinc1 _) rfl rfl ?_
      refine J.goto dX3_stringOf_105 ?_
      refine J.loc [0, 1, 2, 3, 4, 5] (lv' := [(0, .ref o), (1, .ref c), (2, .int (nI p)), (3, .int (nI q)), (4, .int ((Int32.ofInt (strS (ltF L F) (ordK (fun y => y * q % p) (nts L 60)) i)) + (if 0 ≤ ((Q i) - (Q 0)) then (Q i) - (Q 0) else -((Q i) - (Q 0))))), (5, .int (nI (i + 1)))]) rfl ?_
      refine J.lveq (l2 := [(0, .ref o), (1, .ref c), (2, .int (nI p)), (3, .int (nI q)), (4, .int (Int32.ofInt (strS (ltF L F) (ordK (fun y => y * q % p) (nts L 60)) (i + 1)))), (5, .int (nI (i + 1)))]) (by rw [str_stepI hb (fun y => y * q % p) (i := i) h9 (AG_rg hQ (by rw [hl]; exact h9)) (hnx.symm ▸ AG_rg hQ (by rw [hl]; omega))]) ?_
      exact X3_str_lp2 B (i + 1) hc hb hp hp2 hq P Q hQ (by omega)
    · skip
      have h8 : ¬ (nN L) ≤ (i + 1) := fun z => h8 ((nI_leI (a := (nN L)) (b := (i + 1)) (by omega) (by omega)).mpr z)
      have hnx : nx (ordK (fun y => y * q % p) (nts L 60)).length i = i + 1 := by unfold nx; rw [hl, if_pos (by omega)]
      refine J.iload 5 dX3_stringOf_69 rfl ?_
      refine J.iconst (1 : Int32) dX3_stringOf_71 rfl ?_
      refine J.iadd dX3_stringOf_72 ?_
      refine J.topi (y := nI (i + 1)) (nI_add i 1) ?_
      refine J.goto dX3_stringOf_73 ?_
      refine J.istore [1, 2, 3, 4, 5, 6, 0] (lv' := [(0, .ref o), (1, .ref c), (2, .int (nI p)), (3, .int (nI q)), (4, .int (Int32.ofInt (strS (ltF L F) (ordK (fun y => y * q % p) (nts L 60)) i))), (5, .int (nI i)), (6, .int (nI (i + 1)))]) dX3_stringOf_77 rfl rfl ?_
      refine J.iload 4 dX3_stringOf_79 rfl ?_
      refine J.aload_n 0 dX3_stringOf_81 rfl ?_
      refine J.get 0 fl_X3_15 dX3_stringOf_82 rfl rfl ?_
      refine J.iload 5 dX3_stringOf_85 rfl ?_
      refine J.iald 2 (i) dX3_stringOf_87 rfl (rfl) (by omega) (by decide) ?_
      refine J.aload_n 0 dX3_stringOf_88 rfl ?_
      refine J.get 0 fl_X3_15 dX3_stringOf_89 rfl rfl ?_
      refine J.iload 6 dX3_stringOf_92 rfl ?_
      refine J.iald 2 (i + 1) dX3_stringOf_94 rfl (rfl) (by omega) (by decide) ?_
      refine J.isub dX3_stringOf_95 ?_
      refine J.callS (st := [.int (Int32.ofInt (strS (ltF L F) (ordK (fun y => y * q % p) (nts L 60)) i))]) B (c_J9_abs_0f7a4 l G _ (a := (Q i) - (Q (i + 1)))) ml_X3_39 mf_yJ9_abs_0f7a4 mS_yJ9_abs_0f7a4 dX3_stringOf_96 rfl rfl rfl (fun v_4 w_5 hp_6 => ?_)
      obtain ⟨rfl, rfl⟩ := hp_6
      show J G X mX3_stringOf _ _ _ 99 _ [.int (if 0 ≤ ((Q i) - (Q (i + 1))) then (Q i) - (Q (i + 1)) else -((Q i) - (Q (i + 1)))), .int (Int32.ofInt (strS (ltF L F) (ordK (fun y => y * q % p) (nts L 60)) i))]
      refine J.iadd dX3_stringOf_99 ?_
      refine J.istore [1, 2, 3, 4, 0, 5, 6] (lv' := [(0, .ref o), (1, .ref c), (2, .int (nI p)), (3, .int (nI q)), (4, .int ((Int32.ofInt (strS (ltF L F) (ordK (fun y => y * q % p) (nts L 60)) i)) + (if 0 ≤ ((Q i) - (Q (i + 1))) then (Q i) - (Q (i + 1)) else -((Q i) - (Q (i + 1)))))), (5, .int (nI i)), (6, .int (nI (i + 1)))]) dX3_stringOf_100 rfl rfl ?_
      refine J.iinc 5 [1, 2, 3, 4, 5, 0, 6] (lv' := [(0, .ref o), (1, .ref c), (2, .int (nI p)), (3, .int (nI q)), (4, .int ((Int32.ofInt (strS (ltF L F) (ordK (fun y => y * q % p) (nts L 60)) i)) + (if 0 ≤ ((Q i) - (Q (i + 1))) then (Q i) - (Q (i + 1)) else -((Q i) - (Q (i + 1)))))), (5, .int (nI (i + 1))), (6, .int (nI (i + 1)))]) dX3_stringOf_102 rfl (jinc1 _) rfl rfl ?_
      refine J.goto dX3_stringOf_105 ?_
      refine J.loc [0, 1, 2, 3, 4, 5] (lv' := [(0, .ref o), (1, .ref c), (2, .int (nI p)), (3, .int (nI q)), (4, .int ((Int32.ofInt (strS (ltF L F) (ordK (fun y => y * q % p) (nts L 60)) i)) + (if 0 ≤ ((Q i) - (Q (i + 1))) then (Q i) - (Q (i + 1)) else -((Q i) - (Q (i + 1)))))), (5, .int (nI (i + 1)))]) rfl ?_
      refine J.lveq (l2 := [(0, .ref o), (1, .ref c), (2, .int (nI p)), (3, .int (nI q)), (4, .int (Int32.ofInt (strS (ltF L F) (ordK (fun y => y * q % p) (nts L 60)) (i + 1)))), (5, .int (nI (i + 1)))]) (by rw [str_stepI hb (fun y => y * q % p) (i := i) h9 (AG_rg hQ (by rw [hl]; exact h9)) (hnx.symm ▸ AG_rg hQ (by rw [hl]; omega))]) ?_
      exact X3_str_lp2 B (i + 1) hc hb hp hp2 hq P Q hQ (by omega)
termination_by nN L - i
decreasing_by all_goals omega
set_option maxHeartbeats 4000000 in
set_option maxRecDepth 100000 in
theorem X3_str_lp1 {l : Launch} {G : jG} {X : jX} {r : va_W} {o pa qa sa c cta cua p q : Nat} {L F t u : Nat → Int32} (B : jB l G X 1 24 0 0 (fun v w => v = some (.int (Int32.ofInt (strV L F p q))) ∧ ∃ P Q, w = oX3 o pa qa sa :: iA G pa 60 P :: iA G qa 60 Q :: oX1 c cta cua (nI (nN L)) :: iA G cta 60 t :: iA G cua 60 u :: r) "stringOf") (i : Nat) (P Q : Nat → Int32) (hc : CV L F t u) (hb : BD L F) (hp : 1 ≤ p) (hp2 : p ≤ 600) (hq : q ≤ 60) (hi : i ≤ nN L) (hP : AG P ((ordK (fun y => y * q % p) ((nts L 60).take i)).map (fun y => nI (y * q % p)))) (hQ : AG Q ((ordK (fun y => y * q % p) ((nts L 60).take i)).map (ltF L F))) : J G X mX3_stringOf ((o, .inr (3, [.ref pa, .ref qa, .ref sa])) :: (pa, .inl (G.2.1.1, 60, .inl P)) :: (qa, .inl (G.2.1.1, 60, .inl Q)) :: (c, .inr (1, [.ref cta, .ref cua, .int (nI (nN L))])) :: (cta, .inl (G.2.1.1, 60, .inl t)) :: (cua, .inl (G.2.1.1, 60, .inl u)) :: r) 0 0 3 [(0, .ref o), (1, .ref c), (2, .int (nI p)), (3, .int (nI q)), (4, .int (nI i))] [] := by
  have hn := nN_le L
  have hlen : (ordK (fun y => y * q % p) ((nts L 60).take i)).length = i := take_ordK_len hi _
  refine J.iload 4 dX3_stringOf_3 rfl ?_
  refine J.aload_n 1 dX3_stringOf_5 rfl ?_
  refine J.get 3 fl_X3_21 dX3_stringOf_6 rfl rfl ?_
  refine J.icmp_ge dX3_stringOf_9 (fun h9 => ?_) (fun h9 => ?_)
  · skip
    have h9 : (nN L) ≤ i := (nI_leI (a := (nN L)) (b := i) (by omega) (by omega)).mp h9
    have e : i = nN L := by omega
    subst e
    rw [List.take_length] at hQ
    refine J.iconst (0 : Int32) dX3_stringOf_43 rfl ?_
    refine J.istore [1, 2, 3, 4, 0] (lv' := [(0, .ref o), (1, .ref c), (2, .int (nI p)), (3, .int (nI q)), (4, .int (0 : Int32))]) dX3_stringOf_44 rfl rfl ?_
    refine J.iconst (0 : Int32) dX3_stringOf_46 rfl ?_
    refine J.istore [1, 2, 3, 4, 5, 0] (lv' := [(0, .ref o), (1, .ref c), (2, .int (nI p)), (3, .int (nI q)), (4, .int (0 : Int32)), (5, .int (0 : Int32))]) dX3_stringOf_47 rfl rfl ?_
    exact X3_str_lp2 B 0 hc hb hp hp2 hq P Q hQ (by omega)
  · skip
    have h9 : ¬ (nN L) ≤ i := fun z => h9 ((nI_leI (a := (nN L)) (b := i) (by omega) (by omega)).mpr z)
    have h9 : i < nN L := by omega
    refine J.aload_n 0 dX3_stringOf_12 rfl ?_
    refine J.iload 4 dX3_stringOf_13 rfl ?_
    refine J.aload_n 1 dX3_stringOf_15 rfl ?_
    refine J.get 3 fl_X3_27 dX3_stringOf_16 rfl rfl ?_
    refine J.iload 4 dX3_stringOf_19 rfl ?_
    refine J.iald 4 (i) dX3_stringOf_21 rfl (rfl) (by omega) (by decide) ?_
    refine J.topi (y := nI (ntN L i)) ((hc i h9).1) ?_
    refine J.iload_n 2 dX3_stringOf_22 rfl ?_
    refine J.iload_n 3 dX3_stringOf_23 rfl ?_
    refine J.callS (st := [.int (nI i), .ref o]) B (c_X7_phaseOfTime l G _ (k := ntN L i) (p := p) (q := q) hp hp2 (ntN_lt h9).1 hq) ml_X3_30 mf_yX7_phaseOfTime mS_yX7_phaseOfTime dX3_stringOf_24 rfl rfl rfl (fun v_1 w_2 hp_3 => ?_)
    obtain ⟨rfl, rfl⟩ := hp_3
    show J G X mX3_stringOf _ _ _ 27 _ [.int (nI ((ntN L i) * q % p)), .int (nI i), .ref o]
    refine J.aload_n 1 dX3_stringOf_27 rfl ?_
    refine J.get 3 fl_X3_34 dX3_stringOf_28 rfl rfl ?_
    refine J.iload 4 dX3_stringOf_31 rfl ?_
    refine J.iald 5 (i) dX3_stringOf_33 rfl (rfl) (by omega) (by decide) ?_
    refine J.topi (y := ltF L F (ntN L i)) ((hc i h9).2) ?_
    refine J.lveq (l2 := [(0, .ref o), (1, .ref c), (2, .int (nI p)), (3, .int (nI q)), (4, .int (nI i))]) rfl ?_
    refine J.callV 0 (st := []) B (hlen ▸ c_X3_put l G _ (k := ntN L i) (key := (fun y => y * q % p)) (w0 := ltF L F (ntN L i)) (ordK (fun y => y * q % p) ((nts L 60).take i)) (key_lt hp hp2) (by rw [hlen]; omega) hP) ml_X3_35 mf_yX3_put mi_yX3_put rfl dX3_stringOf_34 rfl rfl rfl rfl (fun v_4 w_5 hp_6 => ?_)
    obtain ⟨rfl, rfl⟩ := hp_6
    show J G X mX3_stringOf _ _ _ 37 _ []
    refine J.iinc 4 [1, 2, 3, 4, 0] (lv' := [(0, .ref o), (1, .ref c), (2, .int (nI p)), (3, .int (nI q)), (4, .int (nI (i + 1)))]) dX3_stringOf_37 rfl (jinc1 _) rfl rfl ?_
    refine J.goto dX3_stringOf_40 ?_
    have ha := AG_insF (fun y => y * q % p) (ntN L i) (fun y => nI (y * q % p)) (ltF L F) _ P Q hP hQ
    rw [← take_ordK h9 (fun y => y * q % p)] at ha
    exact X3_str_lp1 B (i + 1) _ _ hc hb hp hp2 hq (by omega) ha.1 ha.2
termination_by nN L - i
decreasing_by all_goals omega
set_option maxHeartbeats 4000000 in
set_option maxRecDepth 100000 in
theorem c_X3_stringOf (l : Launch) (G : jG) (r : va_W) {o pa qa sa c cta cua p q : Nat} {L F t u : Nat → Int32} {P Q : Nat → Int32} (hc : CV L F t u) (hb : BD L F) (hp : 1 ≤ p) (hp2 : p ≤ 600) (hq : q ≤ 60) : Mt l G yX3_stringOf mX3_stringOf 1 24 0 0 [.ref o, .ref c, .int (nI p), .int (nI q)] ((o, .inr (3, [.ref pa, .ref qa, .ref sa])) :: (pa, .inl (G.2.1.1, 60, .inl P)) :: (qa, .inl (G.2.1.1, 60, .inl Q)) :: (c, .inr (1, [.ref cta, .ref cua, .int (nI (nN L))])) :: (cta, .inl (G.2.1.1, 60, .inl t)) :: (cua, .inl (G.2.1.1, 60, .inl u)) :: r) (fun v w => v = some (.int (Int32.ofInt (strV L F p q))) ∧ ∃ P Q, w = oX3 o pa qa sa :: iA G pa 60 P :: iA G qa 60 Q :: oX1 c cta cua (nI (nN L)) :: iA G cta 60 t :: iA G cua 60 u :: r) := by
  refine Mt.of (by decide +kernel) rfl rfl (fun X B => ?_)
  show J G X mX3_stringOf ((o, .inr (3, [.ref pa, .ref qa, .ref sa])) :: (pa, .inl (G.2.1.1, 60, .inl P)) :: (qa, .inl (G.2.1.1, 60, .inl Q)) :: (c, .inr (1, [.ref cta, .ref cua, .int (nI (nN L))])) :: (cta, .inl (G.2.1.1, 60, .inl t)) :: (cua, .inl (G.2.1.1, 60, .inl u)) :: r) 0 0 0 [(0, .ref o), (1, .ref c), (2, .int (nI p)), (3, .int (nI q))] []
  refine J.iconst (0 : Int32) dX3_stringOf_0 rfl ?_
  refine J.istore [1, 2, 3, 4, 0] (lv' := [(0, .ref o), (1, .ref c), (2, .int (nI p)), (3, .int (nI q)), (4, .int (0 : Int32))]) dX3_stringOf_1 rfl rfl ?_
  exact X3_str_lp1 B 0 P Q hc hb hp hp2 hq (by omega) trivial trivial
set_option maxHeartbeats 4000000 in
set_option maxRecDepth 100000 in
theorem X3_sft_lp {l : Launch} {G : jG} {X : jX} {r : va_W} {o pa qa sa c cta cua q a b : Nat} {L F t u : Nat → Int32} (B : jB l G X 2 50 0 0 (fun v w => ∃ P Q S, (∀ j, a ≤ j → j ≤ b → S j = Int32.ofInt (strV L F j q)) ∧ v = none ∧ w = oX3 o pa qa sa :: iA G pa 60 P :: iA G qa 60 Q :: iA G sa 601 S :: oX1 c cta cua (nI (nN L)) :: iA G cta 60 t :: iA G cua 60 u :: r) "stringsFromTo") (p : Nat) (P Q S : Nat → Int32) (hc : CV L F t u) (hb : BD L F) (ha : 1 ≤ a) (hb2 : b ≤ 600) (hq : q ≤ 60) (hap : a ≤ p) (hpb : p ≤ b + 1) (hS : ∀ j, a ≤ j → j < p → S j = Int32.ofInt (strV L F j q)) : J G X mX3_stringsFromTo ((o, .inr (3, [.ref pa, .ref qa, .ref sa])) :: (pa, .inl (G.2.1.1, 60, .inl P)) :: (qa, .inl (G.2.1.1, 60, .inl Q)) :: (sa, .inl (G.2.1.1, 601, .inl S)) :: (c, .inr (1, [.ref cta, .ref cua, .int (nI (nN L))])) :: (cta, .inl (G.2.1.1, 60, .inl t)) :: (cua, .inl (G.2.1.1, 60, .inl u)) :: r) 0 0 3 [(0, .ref o), (1, .ref c), (2, .int (nI q)), (3, .int (nI a)), (4, .int (nI b)), (5, .int (nI p))] [] := by
  refine J.iload 5 dX3_stringsFromTo_3 rfl ?_
  refine J.iload 4 dX3_stringsFromTo_5 rfl ?_
  refine J.icmp_gt dX3_stringsFromTo_7 (fun h9 => ?_) (fun h9 => ?_)
  · skip
    have h9 : b < p := (nI_ltI (a := b) (b := p) (by omega) (by omega)).mp h9
    exact J.vret B dX3_stringsFromTo_31 rfl (⟨P, Q, S, fun j h1 h2 => hS j h1 (by omega), rfl, rfl⟩)
  · skip
    have h9 : ¬ b < p := fun z => h9 ((nI_ltI (a := b) (b := p) (by omega) (by omega)).mpr z)
    refine J.aload_n 0 dX3_stringsFromTo_10 rfl ?_
    refine J.get 0 fl_X3_18 dX3_stringsFromTo_11 rfl rfl ?_
    refine J.iload 5 dX3_stringsFromTo_14 rfl ?_
    refine J.aload_n 0 dX3_stringsFromTo_16 rfl ?_
    refine J.aload_n 1 dX3_stringsFromTo_17 rfl ?_
    refine J.iload 5 dX3_stringsFromTo_18 rfl ?_
    refine J.iload_n 2 dX3_stringsFromTo_20 rfl ?_
    refine J.re [0, 1, 2, 4, 5, 6, 3] 7 (ws2 := (o, .inr (3, [.ref pa, .ref qa, .ref sa])) :: (pa, .inl (G.2.1.1, 60, .inl P)) :: (qa, .inl (G.2.1.1, 60, .inl Q)) :: (c, .inr (1, [.ref cta, .ref cua, .int (nI (nN L))])) :: (cta, .inl (G.2.1.1, 60, .inl t)) :: (cua, .inl (G.2.1.1, 60, .inl u)) :: (sa, .inl (G.2.1.1, 601, .inl S)) :: r) rfl rfl ?_
    refine J.callV 0 (st := [.int (nI p), .ref sa]) B (c_X3_stringOf l G _ (p := p) (q := q) hc hb (by omega) (by omega) hq) ml_X3_45 mf_yX3_stringOf mi_yX3_stringOf rfl dX3_stringsFromTo_21 rfl rfl rfl rfl (fun v_1 w_2 hp_3 => ?_)
    obtain ⟨rfl, P1, Q1, rfl⟩ := hp_3
    refine J.re [0, 1, 2, 6, 3, 4, 5] 7 (ws2 := (o, .inr (3, [.ref pa, .ref qa, .ref sa])) :: (pa, .inl (G.2.1.1, 60, .inl P1)) :: (qa, .inl (G.2.1.1, 60, .inl Q1)) :: (sa, .inl (G.2.1.1, 601, .inl S)) :: (c, .inr (1, [.ref cta, .ref cua, .int (nI (nN L))])) :: (cta, .inl (G.2.1.1, 60, .inl t)) :: (cua, .inl (G.2.1.1, 60, .inl u)) :: r) rfl rfl ?_
    show J G X mX3_stringsFromTo _ _ _ 24 _ [.int (Int32.ofInt (strV L F p q)), .int (nI p), .ref sa]
    refine J.iast 3 (p) dX3_stringsFromTo_24 rfl (rfl) (by omega) (by decide) (ws' := (o, .inr (3, [.ref pa, .ref qa, .ref sa])) :: (pa, .inl (G.2.1.1, 60, .inl P1)) :: (qa, .inl (G.2.1.1, 60, .inl Q1)) :: (sa, .inl (G.2.1.1, 601, .inl (upd S p (Int32.ofInt (strV L F p q))))) :: (c, .inr (1, [.ref cta, .ref cua, .int (nI (nN L))])) :: (cta, .inl (G.2.1.1, 60, .inl t)) :: (cua, .inl (G.2.1.1, 60, .inl u)) :: r) rfl ?_
    refine J.iinc 5 [1, 2, 3, 4, 5, 0] (lv' := [(0, .ref o), (1, .ref c), (2, .int (nI q)), (3, .int (nI a)), (4, .int (nI b)), (5, .int (nI (p + 1)))]) dX3_stringsFromTo_25 rfl (jinc1 _) rfl rfl ?_
    refine J.goto dX3_stringsFromTo_28 ?_
    exact X3_sft_lp B (p + 1) _ _ _ hc hb ha hb2 hq (by omega) (by omega) (fun j h1 h2 => by
      rcases Nat.lt_or_ge j p with h3 | h3
      · rw [pk_un (by omega)]; exact hS j h1 h3
      · rw [show j = p by omega]; exact pk_us)
termination_by b + 1 - p
decreasing_by all_goals omega
set_option maxHeartbeats 4000000 in
set_option maxRecDepth 100000 in
theorem c_X3_stringsFromTo (l : Launch) (G : jG) (r : va_W) {o pa qa sa c cta cua q a b : Nat} {L F t u : Nat → Int32} {P Q S : Nat → Int32} (hc : CV L F t u) (hb : BD L F) (ha : 1 ≤ a) (hb2 : b ≤ 600) (hq : q ≤ 60) (hab : a ≤ b) : Mt l G yX3_stringsFromTo mX3_stringsFromTo 2 50 0 0 [.ref o, .ref c, .int (nI q), .int (nI a), .int (nI b)] ((o, .inr (3, [.ref pa, .ref qa, .ref sa])) :: (pa, .inl (G.2.1.1, 60, .inl P)) :: (qa, .inl (G.2.1.1, 60, .inl Q)) :: (sa, .inl (G.2.1.1, 601, .inl S)) :: (c, .inr (1, [.ref cta, .ref cua, .int (nI (nN L))])) :: (cta, .inl (G.2.1.1, 60, .inl t)) :: (cua, .inl (G.2.1.1, 60, .inl u)) :: r) (fun v w => ∃ P Q S, (∀ j, a ≤ j → j ≤ b → S j = Int32.ofInt (strV L F j q)) ∧ v = none ∧ w = oX3 o pa qa sa :: iA G pa 60 P :: iA G qa 60 Q :: iA G sa 601 S :: oX1 c cta cua (nI (nN L)) :: iA G cta 60 t :: iA G cua 60 u :: r) := by
  refine Mt.of (by decide +kernel) rfl rfl (fun X B => ?_)
  show J G X mX3_stringsFromTo ((o, .inr (3, [.ref pa, .ref qa, .ref sa])) :: (pa, .inl (G.2.1.1, 60, .inl P)) :: (qa, .inl (G.2.1.1, 60, .inl Q)) :: (sa, .inl (G.2.1.1, 601, .inl S)) :: (c, .inr (1, [.ref cta, .ref cua, .int (nI (nN L))])) :: (cta, .inl (G.2.1.1, 60, .inl t)) :: (cua, .inl (G.2.1.1, 60, .inl u)) :: r) 0 0 0 [(0, .ref o), (1, .ref c), (2, .int (nI q)), (3, .int (nI a)), (4, .int (nI b))] []
  refine J.iload_n 3 dX3_stringsFromTo_0 rfl ?_
  refine J.istore [1, 2, 3, 4, 5, 0] (lv' := [(0, .ref o), (1, .ref c), (2, .int (nI q)), (3, .int (nI a)), (4, .int (nI b)), (5, .int (nI a))]) dX3_stringsFromTo_1 rfl rfl ?_
  exact X3_sft_lp B a P Q S hc hb ha hb2 hq (Nat.le_refl _) (by omega) (fun j h1 h2 => absurd h2 (by omega))
set_option maxHeartbeats 4000000 in
set_option maxRecDepth 100000 in
theorem X3_lft_lp {l : Launch} {G : jG} {X : jX} {r : va_W} {o pa qa sa a b : Nat} {S : Nat → Int32} {g : Nat → Int} (B : jB l G X 0 0 0 0 (fun v w => v = some (.int (nI (lstN g a (b - a)))) ∧ w = oX3 o pa qa sa :: iA G sa 601 S :: r) "leastFromTo") (d : Nat) (hb2 : b ≤ 600) (hS : ∀ j, a ≤ j → j ≤ b → S j = Int32.ofInt (g j)) (hg : ∀ j, 0 ≤ g j ∧ g j ≤ 2400000) (hd : a + d ≤ b) : J G X mX3_leastFromTo ((o, .inr (3, [.ref pa, .ref qa, .ref sa])) :: (sa, .inl (G.2.1.1, 601, .inl S)) :: r) 0 0 7 [(0, .ref o), (1, .int (nI a)), (2, .int (nI b)), (3, .int (nI (lstN g a d))), (4, .int (nI (a + d + 1)))] [] := by
  have hl := lstN_in g a d
  refine J.iload 4 dX3_leastFromTo_7 rfl ?_
  refine J.iload_n 2 dX3_leastFromTo_9 rfl ?_
  refine J.icmp_gt dX3_leastFromTo_10 (fun h9 => ?_) (fun h9 => ?_)
  · skip
    have h9 : b < (a + d + 1) := (nI_ltI (a := b) (b := (a + d + 1)) (by omega) (by omega)).mp h9
    refine J.iload_n 3 dX3_leastFromTo_38 rfl ?_
    exact J.iret B dX3_leastFromTo_39 rfl (⟨by rw [show b - a = d by omega], rfl⟩)
  · skip
    have h9 : ¬ b < (a + d + 1) := fun z => h9 ((nI_ltI (a := b) (b := (a + d + 1)) (by omega) (by omega)).mpr z)
    refine J.aload_n 0 dX3_leastFromTo_13 rfl ?_
    refine J.get 0 fl_X3_18 dX3_leastFromTo_14 rfl rfl ?_
    refine J.iload 4 dX3_leastFromTo_17 rfl ?_
    refine J.iald 1 (a + d + 1) dX3_leastFromTo_19 rfl (rfl) (by omega) (by decide) ?_
    refine J.aload_n 0 dX3_leastFromTo_20 rfl ?_
    refine J.get 0 fl_X3_18 dX3_leastFromTo_21 rfl rfl ?_
    refine J.iload_n 3 dX3_leastFromTo_24 rfl ?_
    refine J.iald 1 (lstN g a d) dX3_leastFromTo_25 rfl (rfl) (by omega) (by decide) ?_
    refine J.icmp_ge dX3_leastFromTo_26 (fun h8 => ?_) (fun h8 => ?_)
    · skip
      refine J.iinc 4 [1, 2, 3, 4, 0] (lv' := [(0, .ref o), (1, .int (nI a)), (2, .int (nI b)), (3, .int (nI (lstN g a d))), (4, .int (nI (a + d + 1 + 1)))]) dX3_leastFromTo_32 rfl (jinc1 _) rfl rfl ?_
      refine J.goto dX3_leastFromTo_35 ?_
      have he : lstN g a (d + 1) = lstN g a d := by
        rw [hS _ (by omega) (by omega), hS _ (by omega) (by omega)] at h8
        rw [ofI_lt (hg _) (hg _)] at h8
        rw [lstN_s, if_neg (by omega)]
      have hq := X3_lft_lp B (d + 1) hb2 hS hg (by omega)
      rw [he] at hq
      exact hq
    · skip
      refine J.iload 4 dX3_leastFromTo_29 rfl ?_
      refine J.istore_n [1, 2, 3, 0, 4] (lv' := [(0, .ref o), (1, .int (nI a)), (2, .int (nI b)), (3, .int (nI (a + d + 1))), (4, .int (nI (a + d + 1)))]) dX3_leastFromTo_31 rfl rfl ?_
      refine J.iinc 4 [1, 2, 3, 4, 0] (lv' := [(0, .ref o), (1, .int (nI a)), (2, .int (nI b)), (3, .int (nI (a + d + 1))), (4, .int (nI (a + d + 1 + 1)))]) dX3_leastFromTo_32 rfl (jinc1 _) rfl rfl ?_
      refine J.goto dX3_leastFromTo_35 ?_
      have he : lstN g a (d + 1) = a + d + 1 := by
        rw [hS _ (by omega) (by omega), hS _ (by omega) (by omega)] at h8
        rw [ofI_lt (hg _) (hg _)] at h8
        rw [lstN_s, if_pos (by omega)]
      have hq := X3_lft_lp B (d + 1) hb2 hS hg (by omega)
      rw [he] at hq
      exact hq
termination_by b - (a + d)
decreasing_by all_goals omega
set_option maxHeartbeats 4000000 in
set_option maxRecDepth 100000 in
theorem c_X3_leastFromTo (l : Launch) (G : jG) (r : va_W) {o pa qa sa a b : Nat} {S : Nat → Int32} {g : Nat → Int} (hb2 : b ≤ 600) (hS : ∀ j, a ≤ j → j ≤ b → S j = Int32.ofInt (g j)) (hg : ∀ j, 0 ≤ g j ∧ g j ≤ 2400000) (hab : a ≤ b) : Mt l G yX3_leastFromTo mX3_leastFromTo 0 0 0 0 [.ref o, .int (nI a), .int (nI b)] ((o, .inr (3, [.ref pa, .ref qa, .ref sa])) :: (sa, .inl (G.2.1.1, 601, .inl S)) :: r) (fun v w => v = some (.int (nI (lstN g a (b - a)))) ∧ w = oX3 o pa qa sa :: iA G sa 601 S :: r) := by
  refine Mt.of (by decide +kernel) rfl rfl (fun X B => ?_)
  show J G X mX3_leastFromTo ((o, .inr (3, [.ref pa, .ref qa, .ref sa])) :: (sa, .inl (G.2.1.1, 601, .inl S)) :: r) 0 0 0 [(0, .ref o), (1, .int (nI a)), (2, .int (nI b))] []
  refine J.iload_n 1 dX3_leastFromTo_0 rfl ?_
  refine J.istore_n [1, 2, 3, 0] (lv' := [(0, .ref o), (1, .int (nI a)), (2, .int (nI b)), (3, .int (nI a))]) dX3_leastFromTo_1 rfl rfl ?_
  refine J.iload_n 1 dX3_leastFromTo_2 rfl ?_
  refine J.iconst (1 : Int32) dX3_leastFromTo_3 rfl ?_
  refine J.iadd dX3_leastFromTo_4 ?_
  refine J.topi (y := nI (a + 1)) (nI_add a 1) ?_
  refine J.istore [1, 2, 3, 4, 0] (lv' := [(0, .ref o), (1, .int (nI a)), (2, .int (nI b)), (3, .int (nI a)), (4, .int (nI (a + 1)))]) dX3_leastFromTo_5 rfl rfl ?_
  exact X3_lft_lp B 0 hb2 hS hg (by omega)
end
section
/-! DIPS -/
def cnt (P : Nat → Bool) (ks : List Nat) : Nat := (ks.filter P).length
def smI (lt : Nat → Int32) (P : Nat → Bool) (ks : List Nat) : Int := ((ks.filter P).map (fun k => (lt k).toInt)).sum
theorem cnt_snoc (P : Nat → Bool) (ks : List Nat) (k : Nat) : cnt P (ks ++ [k]) = cnt P ks + (if P k then 1 else 0) := by
  unfold cnt
  rw [List.filter_append, List.length_append]
  by_cases h : P k <;> simp [h]
theorem smI_snoc (lt : Nat → Int32) (P : Nat → Bool) (ks : List Nat) (k : Nat) : smI lt P (ks ++ [k]) = smI lt P ks + (if P k then (lt k).toInt else 0) := by
  unfold smI
  rw [List.filter_append, List.map_append, List.sum_append]
  by_cases h : P k <;> simp [h]
theorem cnt_le (P : Nat → Bool) (ks : List Nat) : cnt P ks ≤ ks.length := List.length_filter_le ..
theorem smI_cons (lt : Nat → Int32) (P : Nat → Bool) (k : Nat) (ks : List Nat) : smI lt P (k :: ks) = (if P k then (lt k).toInt else 0) + smI lt P ks := by
  unfold smI
  by_cases h : P k <;> simp [h]
theorem cnt_cons (P : Nat → Bool) (k : Nat) (ks : List Nat) : cnt P (k :: ks) = (if P k then 1 else 0) + cnt P ks := by
  unfold cnt
  by_cases h : P k
  · simp [h]; omega
  · simp [h]
theorem smI_bd {lt : Nat → Int32} (P : Nat → Bool) : ∀ {ks : List Nat}, (∀ k ∈ ks, -20000 ≤ (lt k).toInt ∧ (lt k).toInt ≤ 20000) → -(20000 * (ks.length : Int)) ≤ smI lt P ks ∧ smI lt P ks ≤ 20000 * (ks.length : Int)
  | [], _ => ⟨Int.le_refl _, Int.le_refl _⟩
  | k :: ks, h => by
    have h1 := smI_bd P (fun j hj => h j (List.mem_cons_of_mem _ hj))
    have h2 := h k List.mem_cons_self
    rw [smI_cons, List.length_cons]
    split <;> constructor <;> push_cast <;> omega
theorem cnt_cong {P Q : Nat → Bool} {ks : List Nat} (h : ∀ k ∈ ks, P k = Q k) : cnt P ks = cnt Q ks := by
  unfold cnt
  rw [List.filter_congr h]
theorem smI_cong {lt : Nat → Int32} {P Q : Nat → Bool} {ks : List Nat} (h : ∀ k ∈ ks, P k = Q k) : smI lt P ks = smI lt Q ks := by
  unfold smI
  rw [List.filter_congr h]
theorem cnt_or {P Q R : Nat → Bool} : ∀ {ks : List Nat}, (∀ k ∈ ks, P k = (Q k || R k) ∧ (Q k && R k) = false) → cnt P ks = cnt Q ks + cnt R ks
  | [], _ => rfl
  | k :: ks, h => by
    have h1 := cnt_or (fun j hj => h j (List.mem_cons_of_mem _ hj))
    have h2 := h k List.mem_cons_self
    rw [cnt_cons, cnt_cons, cnt_cons, h1, h2.1]
    have h3 := h2.2
    cases hq : Q k <;> cases hr : R k <;> simp [hq, hr] at h3 ⊢ <;> omega
theorem smI_or {lt : Nat → Int32} {P Q R : Nat → Bool} : ∀ {ks : List Nat}, (∀ k ∈ ks, P k = (Q k || R k) ∧ (Q k && R k) = false) → smI lt P ks = smI lt Q ks + smI lt R ks
  | [], _ => rfl
  | k :: ks, h => by
    have h1 := smI_or (lt := lt) (fun j hj => h j (List.mem_cons_of_mem _ hj))
    have h2 := h k List.mem_cons_self
    rw [smI_cons, smI_cons, smI_cons, h1, h2.1]
    have h3 := h2.2
    cases hq : Q k <;> cases hr : R k <;> simp [hq, hr] at h3 ⊢ <;> omega
def allK : Nat → Bool := fun _ => true
theorem cnt_all (ks : List Nat) : cnt allK ks = ks.length := by
  unfold cnt allK
  simp
/-- IN a DIP of length l from PHASE f on -/
def inP (p l f : Nat) (k : Nat) : Bool := decide ((k % p + p - f) % p < l)
def atP (p j : Nat) (k : Nat) : Bool := decide (k % p = j)
theorem inP_0 (p f k : Nat) : inP p 0 f k = false := by simp [inP]
theorem md {p f x : Nat} (hx : x < p) (hf : f < p) : (x + p - f) % p = if f ≤ x then x - f else x + p - f := by
  split
  · rw [show x + p - f = (x - f) + p by omega, Nat.add_mod_right, Nat.mod_eq_of_lt (by omega)]
  · rw [Nat.mod_eq_of_lt (by omega)]
theorem inP_s {p l f : Nat} (hl : l + 1 < p) (hf : f < p) (k : Nat) : inP p (l + 1) f k = (inP p l f k || atP p (if f + l < p then f + l else f + l - p) k) ∧ (inP p l f k && atP p (if f + l < p then f + l else f + l - p) k) = false := by
  have hx : k % p < p := Nat.mod_lt _ (by omega)
  unfold inP atP
  rw [md hx hf]
  generalize k % p = x at hx ⊢
  constructor
  · rw [← Bool.decide_or, decide_eq_decide]
    constructor
    · intro h
      split at h <;> split <;> (try split) <;> omega
    · intro h
      split at h <;> split at h <;> (try split) <;> omega
  · rw [← Bool.decide_and, decide_eq_false_iff_not]
    intro h
    split at h <;> split at h <;> omega
/-- how many are IN, their sum; DEPTH -/
abbrev cI (L : Nat → Int32) (p l f : Nat) : Nat := cnt (inP p l f) (nts L 60)
abbrev sI (L F : Nat → Int32) (p l f : Nat) : Int := smI (ltF L F) (inP p l f) (nts L 60)
abbrev tI (L F : Nat → Int32) : Int := smI (ltF L F) allK (nts L 60)
def dpI (L F : Nat → Int32) (p l f : Nat) : Int := (tI L F - sI L F p l f) * (cI L p l f : Int) - sI L F p l f * ((nN L : Int) - (cI L p l f : Int))
theorem cI_le (L : Nat → Int32) (p l f : Nat) : cI L p l f ≤ nN L := cnt_le _ _
theorem cI_s {L : Nat → Int32} {p l f : Nat} (hl : l + 1 < p) (hf : f < p) : cI L p (l + 1) f = cI L p l f + cnt (atP p (if f + l < p then f + l else f + l - p)) (nts L 60) := cnt_or (fun k _ => inP_s hl hf k)
theorem sI_s {L F : Nat → Int32} {p l f : Nat} (hl : l + 1 < p) (hf : f < p) : sI L F p (l + 1) f = sI L F p l f + smI (ltF L F) (atP p (if f + l < p then f + l else f + l - p)) (nts L 60) := smI_or (fun k _ => inP_s hl hf k)
theorem cI_0 (L : Nat → Int32) (p f : Nat) : cI L p 0 f = 0 := by
  unfold cI cnt
  rw [List.filter_eq_nil_iff.mpr (fun k _ => by rw [inP_0]; decide)]
  rfl
theorem sI_0 (L F : Nat → Int32) (p f : Nat) : sI L F p 0 f = 0 := by
  unfold sI smI
  rw [List.filter_eq_nil_iff.mpr (fun k _ => by rw [inP_0]; decide)]
  rfl
theorem BD_mem {L F : Nat → Int32} (hb : BD L F) : ∀ k ∈ nts L 60, -20000 ≤ (ltF L F k).toInt ∧ (ltF L F k).toInt ≤ 20000 := fun k hk => hb k (mem_nts.mp hk).1 (mem_nts.mp hk).2
theorem smI_rng {L F : Nat → Int32} (hb : BD L F) (P : Nat → Bool) : -1200000 ≤ smI (ltF L F) P (nts L 60) ∧ smI (ltF L F) P (nts L 60) ≤ 1200000 := by
  have h1 := smI_bd P (BD_mem hb)
  have h2 : (nts L 60).length ≤ 60 := nN_le L
  omega
theorem take_bd {L F : Nat → Int32} (hb : BD L F) (P : Nat → Bool) (i : Nat) : -1200000 ≤ smI (ltF L F) P ((nts L 60).take i) ∧ smI (ltF L F) P ((nts L 60).take i) ≤ 1200000 := by
  have h1 := smI_bd P (lt := ltF L F) (ks := (nts L 60).take i) (fun k hk => BD_mem hb k (List.mem_of_mem_take hk))
  have h2 : (nts L 60).length ≤ 60 := nN_le L
  have h3 : ((nts L 60).take i).length ≤ (nts L 60).length := by rw [List.length_take]; omega
  omega
/-- the search: found at all, the greatest, length, PHASE, how many -/
abbrev dpT : Type := Bool × Int × Nat × Nat × Nat
def dpG (L F : Nat → Int32) (p l : Nat) (s : dpT) (f : Nat) : dpT := if 0 < cI L p l f ∧ cI L p l f < nN L ∧ (s.1 = false ∨ s.2.1 < dpI L F p l f) then (true, dpI L F p l f, l, f, cI L p l f) else s
def dpN (L F : Nat → Int32) (p l : Nat) (s : dpT) (m : Nat) : dpT := (List.range m).foldl (dpG L F p l) s
def dpO (L F : Nat → Int32) (p : Nat) (m : Nat) : dpT := (List.range m).foldl (fun s i => dpN L F p (i + 1) s p) (false, 0, 0, 0, 0)
theorem dpN_s (L F : Nat → Int32) (p l : Nat) (s : dpT) (m : Nat) : dpN L F p l s (m + 1) = dpG L F p l (dpN L F p l s m) m := by
  unfold dpN
  rw [List.range_succ, List.foldl_append]
  rfl
theorem dpO_s (L F : Nat → Int32) (p m : Nat) : dpO L F p (m + 1) = dpN L F p (m + 1) (dpO L F p m) p := by
  unfold dpO
  rw [List.range_succ, List.foldl_append]
  rfl
theorem dpI_bd {L F : Nat → Int32} (hb : BD L F) (p l f : Nat) : -1000000000 ≤ dpI L F p l f ∧ dpI L F p l f ≤ 1000000000 := by
  have h1 := smI_rng hb allK
  have h2 := smI_rng hb (inP p l f)
  have h3 := cI_le L p l f
  have h4 := nN_le L
  unfold dpI tI sI
  generalize smI (ltF L F) allK (nts L 60) = a at *
  generalize smI (ltF L F) (inP p l f) (nts L 60) = b at *
  generalize hc : (cI L p l f : Int) = c at *
  generalize hd : (nN L : Int) - c = d at *
  have c0 : 0 ≤ c ∧ c ≤ 60 := by omega
  have d0 : 0 ≤ d ∧ d ≤ 60 := by omega
  have e1 : (a - b) * c ≤ 2400000 * 60 := Int.le_trans (Int.mul_le_mul_of_nonneg_right (by omega) c0.1) (Int.mul_le_mul_of_nonneg_left c0.2 (by omega))
  have e2 : -(2400000 * 60) ≤ (a - b) * c := by
    have q1 : (-2400000) * c ≤ (a - b) * c := Int.mul_le_mul_of_nonneg_right (by omega) c0.1
    omega
  have e3 : b * d ≤ 1200000 * 60 := Int.le_trans (Int.mul_le_mul_of_nonneg_right (by omega) d0.1) (Int.mul_le_mul_of_nonneg_left d0.2 (by omega))
  have e4 : -(1200000 * 60) ≤ b * d := by
    have q1 : (-1200000) * d ≤ b * d := Int.mul_le_mul_of_nonneg_right (by omega) d0.1
    omega
  omega
theorem i64_ofI {z : Int} (h1 : -9223372036854775808 ≤ z) (h2 : z < 9223372036854775808) : (Int64.ofInt z).toInt = z := by
  rw [Int64.toInt_ofInt]
  exact fb_bmodL h1 h2
theorem i64_eq {x : Int64} {z : Int} (h : x.toInt = z) : x = Int64.ofInt z := by rw [← h, Int64.ofInt_toInt]
/-- DEPTH, as the class reckons it -/
theorem dep_cls {L F : Nat → Int32} (hb : BD L F) (p l f : Nat) : (Int32.ofInt (tI L F) - Int32.ofInt (sI L F p l f)).toInt64 * (nI (cI L p l f)).toInt64 - (Int32.ofInt (sI L F p l f)).toInt64 * (nI (nN L) - nI (cI L p l f)).toInt64 = Int64.ofInt (dpI L F p l f) := by
  have h1 := smI_rng hb allK
  have h2 := smI_rng hb (inP p l f)
  have h3 := cI_le L p l f
  have h4 := nN_le L
  have hd := dpI_bd hb p l f
  have t1 : (Int32.ofInt (tI L F)).toInt = tI L F := fb_ofI (by unfold tI; omega) (by unfold tI; omega)
  have t2 : (Int32.ofInt (sI L F p l f)).toInt = sI L F p l f := fb_ofI (by unfold sI; omega) (by unfold sI; omega)
  have t3 : (nI (cI L p l f)).toInt = (cI L p l f : Int) := nI_toInt (by omega)
  have t4 : (nI (nN L)).toInt = (nN L : Int) := nI_toInt (by omega)
  have t5 : (nI (nN L) - nI (cI L p l f)).toInt = (nN L : Int) - (cI L p l f : Int) := by rw [fb_subI (by rw [t3, t4]; omega) (by rw [t3, t4]; omega), t3, t4]
  have t6 : (Int32.ofInt (tI L F) - Int32.ofInt (sI L F p l f)).toInt = tI L F - sI L F p l f := by rw [fb_subI (by rw [t1, t2]; unfold tI sI; omega) (by rw [t1, t2]; unfold tI sI; omega), t1, t2]
  apply i64_eq
  unfold dpI at hd ⊢
  have k1 : ((Int32.ofInt (tI L F) - Int32.ofInt (sI L F p l f)).toInt64 * (nI (cI L p l f)).toInt64).toInt = (tI L F - sI L F p l f) * (cI L p l f : Int) := by
    have b0 : 0 ≤ (cI L p l f : Int) ∧ (cI L p l f : Int) ≤ 60 := by omega
    have e1 : (tI L F - sI L F p l f) * (cI L p l f : Int) ≤ 2400000 * 60 := Int.le_trans (Int.mul_le_mul_of_nonneg_right (by unfold tI sI; omega) b0.1) (Int.mul_le_mul_of_nonneg_left b0.2 (by omega))
    have e2 : (-2400000) * (cI L p l f : Int) ≤ (tI L F - sI L F p l f) * (cI L p l f : Int) := Int.mul_le_mul_of_nonneg_right (by unfold tI sI; omega) b0.1
    rw [fb_mulL (by rw [Int32.toInt_toInt64, Int32.toInt_toInt64, t6, t3]; omega) (by rw [Int32.toInt_toInt64, Int32.toInt_toInt64, t6, t3]; omega), Int32.toInt_toInt64, Int32.toInt_toInt64, t6, t3]
  have k2 : ((Int32.ofInt (sI L F p l f)).toInt64 * (nI (nN L) - nI (cI L p l f)).toInt64).toInt = sI L F p l f * ((nN L : Int) - (cI L p l f : Int)) := by
    have b0 : 0 ≤ (nN L : Int) - (cI L p l f : Int) ∧ (nN L : Int) - (cI L p l f : Int) ≤ 60 := by omega
    have e1 : sI L F p l f * ((nN L : Int) - (cI L p l f : Int)) ≤ 1200000 * 60 := Int.le_trans (Int.mul_le_mul_of_nonneg_right (by unfold sI; omega) b0.1) (Int.mul_le_mul_of_nonneg_left b0.2 (by omega))
    have e2 : (-1200000) * ((nN L : Int) - (cI L p l f : Int)) ≤ sI L F p l f * ((nN L : Int) - (cI L p l f : Int)) := Int.mul_le_mul_of_nonneg_right (by unfold sI; omega) b0.1
    rw [fb_mulL (by rw [Int32.toInt_toInt64, Int32.toInt_toInt64, t2, t5]; omega) (by rw [Int32.toInt_toInt64, Int32.toInt_toInt64, t2, t5]; omega), Int32.toInt_toInt64, Int32.toInt_toInt64, t2, t5]
  rw [fb_subL (by rw [k1, k2]; omega) (by rw [k1, k2]; omega), k1, k2]
theorem dep_le {x y : Int} (hx : -1000000000 ≤ x ∧ x ≤ 1000000000) (hy : -1000000000 ≤ y ∧ y ≤ 1000000000) : (Int64.ofInt x ≤ Int64.ofInt y) ↔ x ≤ y := by
  rw [fa_le64, i64_ofI (by omega) (by omega), i64_ofI (by omega) (by omega)]
theorem dep_lt {x y : Int} (hx : -1000000000 ≤ x ∧ x ≤ 1000000000) (hy : -1000000000 ≤ y ∧ y ≤ 1000000000) : (Int64.ofInt x < Int64.ofInt y) ↔ x < y := by
  rw [fa_lt64, i64_ofI (by omega) (by omega), i64_ofI (by omega) (by omega)]
def dgb (s : dpT) : Prop := -1000000000 ≤ s.2.1 ∧ s.2.1 ≤ 1000000000
theorem dpG_bd {L F : Nat → Int32} (hb : BD L F) {p l : Nat} {s : dpT} (hs : dgb s) (f : Nat) : dgb (dpG L F p l s f) := by
  unfold dpG
  split
  · exact dpI_bd hb p l f
  · exact hs
theorem dpN_bd {L F : Nat → Int32} (hb : BD L F) {p l : Nat} {s : dpT} (hs : dgb s) : ∀ m, dgb (dpN L F p l s m)
  | 0 => hs
  | m + 1 => by rw [dpN_s]; exact dpG_bd hb (dpN_bd hb hs m) m
theorem dpO_bd {L F : Nat → Int32} (hb : BD L F) {p : Nat} : ∀ m, dgb (dpO L F p m)
  | 0 => by unfold dgb dpO; simp
  | m + 1 => by rw [dpO_s]; exact dpN_bd hb (dpO_bd hb m) p
/-- a field that the search may have set -/
def dpV (b : Bool) (x : Nat) (o : Int32) : Int32 := if b then nI x else o
def SC (L F : Nat → Int32) (p : Nat) (ks : List Nat) (S C : Nat → Int32) : Prop := ∀ j, j < 600 → S j = Int32.ofInt (smI (ltF L F) (atP p j) ks) ∧ C j = nI (cnt (atP p j) ks)
theorem ofI_add (a b : Int) : Int32.ofInt a + Int32.ofInt b = Int32.ofInt (a + b) := (Int32.ofInt_add a b).symm
theorem SC_0 {L F S C : Nat → Int32} {p : Nat} : SC L F p [] (flA S 0 600) (flA C 0 600) := fun j hj => ⟨by rw [flA_in hj]; rfl, by rw [flA_in hj]; rfl⟩
theorem SC_s {L F S C : Nat → Int32} {p i : Nat} (h : SC L F p ((nts L 60).take i) S C) (hi : i < nN L) (hp : 1 ≤ p) (hp2 : p ≤ 600) :
    SC L F p ((nts L 60).take (i + 1)) (upd S (ntN L i * 1 % p) (S (ntN L i * 1 % p) + ltF L F (ntN L i))) (upd C (ntN L i * 1 % p) (C (ntN L i * 1 % p) + 1)) := by
  intro j hj
  rw [take_getD (d := 0) hi, smI_snoc, cnt_snoc, Nat.mul_one]
  have hm : ntN L i % p < 600 := Nat.lt_of_lt_of_le (Nat.mod_lt _ (by omega)) hp2
  by_cases e : j = ntN L i % p
  · subst e
    rw [pk_us, pk_us, (h _ hm).1, (h _ hm).2, show atP p (ntN L i % p) (List.getD (nts L 60) i 0) = true from decide_eq_true rfl, if_pos rfl, if_pos rfl]
    refine ⟨?_, nI_1 _⟩
    rw [← ofI_add, fb_asI]
  · rw [pk_un e, pk_un e, show atP p j (List.getD (nts L 60) i 0) = false from decide_eq_false (fun z => e z.symm), if_neg (by decide), if_neg (by decide)]
    have := h j hj
    rw [Int.add_zero, Nat.add_zero]
    exact this
theorem all_s {L F : Nat → Int32} {i : Nat} (hi : i < nN L) : Int32.ofInt (smI (ltF L F) allK ((nts L 60).take i)) + ltF L F (ntN L i) = Int32.ofInt (smI (ltF L F) allK ((nts L 60).take (i + 1))) := by
  rw [take_getD (d := 0) hi, smI_snoc, show allK (List.getD (nts L 60) i 0) = true from rfl, if_pos rfl, ← ofI_add, fb_asI]
/-- what is IN, while level m + 1 is being reckoned up to PHASE f -/
def SIC (L F : Nat → Int32) (p m f : Nat) (S C : Nat → Int32) : Prop := ∀ j, j < p → S j = Int32.ofInt (sI L F p (if j < f then m + 1 else m) j) ∧ C j = nI (cI L p (if j < f then m + 1 else m) j)
theorem SIC_0 {L F S C : Nat → Int32} {p : Nat} (hp : p ≤ 600) : SIC L F p 0 0 (flA S 0 600) (flA C 0 600) := by
  intro j hj
  rw [if_neg (by omega), flA_in (by omega), flA_in (by omega), sI_0, cI_0]
  exact ⟨rfl, rfl⟩
theorem SIC_up {L F S C : Nat → Int32} {p m : Nat} (h : SIC L F p m p S C) : SIC L F p (m + 1) 0 S C := by
  intro j hj
  have := h j hj
  rw [if_pos hj] at this
  rw [if_neg (by omega)]
  exact this
theorem SIC_s {L F S C S0 C0 : Nat → Int32} {p m f ph : Nat} (h : SIC L F p m f S C) (h0 : SC L F p (nts L 60) S0 C0) (hf : f < p) (hm : m + 1 < p) (hp : p ≤ 600) (hph : ph = if f + m < p then f + m else f + m - p) :
    SIC L F p m (f + 1) (upd S f (S f + S0 ph)) (upd C f (C f + C0 ph)) := by
  intro j hj
  by_cases e : j = f
  · subst e
    have h1 := h j hj
    have hq : ph < 600 := by rw [hph]; split <;> omega
    rw [if_neg (by omega)] at h1
    rw [pk_us, pk_us, if_pos (by omega), h1.1, h1.2, (h0 ph hq).1, (h0 ph hq).2, sI_s hm hf, cI_s hm hf, ← hph, nI_add]
    exact ⟨ofI_add _ _, rfl⟩
  · have h1 := h j hj
    rw [pk_un e, pk_un e]
    by_cases e2 : j < f
    · rw [if_pos e2] at h1; rw [if_pos (by omega)]; exact h1
    · rw [if_neg e2] at h1; rw [if_neg (by omega)]; exact h1
theorem SIC_at {L F S C : Nat → Int32} {p m f : Nat} (h : SIC L F p m (f + 1) S C) (hf : f < p) : S f = Int32.ofInt (sI L F p (m + 1) f) ∧ C f = nI (cI L p (m + 1) f) := by
  have := h f hf
  rw [if_pos (by omega)] at this
  exact this
theorem b01_0 {b : Bool} (h : b01 b = 0) : b = false := by cases b <;> first | rfl | exact absurd h (by decide)
theorem b01_1 {b : Bool} (h : ¬ b01 b = 0) : b = true := by cases b <;> first | rfl | exact absurd rfl h
theorem min_nI {a b : Nat} (ha : a < 2 ^ 31) (hb : b < 2 ^ 31) : (if nI b < nI a then nI b else nI a) = nI (min a b) := by
  by_cases h : b < a
  · rw [if_pos ((nI_ltI hb ha).mpr h), Nat.min_eq_right (by omega)]
  · rw [if_neg (fun z => h ((nI_ltI hb ha).mp z)), Nat.min_eq_left (by omega)]
end
section
set_option maxHeartbeats 4000000 in
set_option maxRecDepth 100000 in
theorem X2_share_lp {l : Launch} {G : jG} {X : jX} {r : va_W} {o sa ca sia cia : Nat} {x0 y0 z0 : Int32} {c cta cua p : Nat} {L F t u : Nat → Int32} {SI CI : Nat → Int32} (B : jB l G X 1 23 0 0 (fun v w => ∃ S C, SC L F p (nts L 60) S C ∧ v = none ∧ w = (o, .inr (2, [.ref sa, .ref ca, .ref sia, .ref cia, .int (Int32.ofInt (tI L F)), .int (nI (nN L)), .int x0, .int y0, .int z0])) :: iA G sa 600 S :: iA G ca 600 C :: iA G sia 600 SI :: iA G cia 600 CI :: oX1 c cta cua (nI (nN L)) :: iA G cta 60 t :: iA G cua 60 u :: r) "share") (i : Nat) (S C : Nat → Int32) (hc : CV L F t u) (hb : BD L F) (hp : 1 ≤ p) (hp2 : p ≤ 600) (hi : i ≤ nN L) (hS : SC L F p ((nts L 60).take i) S C) : J G X mX2_share ((o, .inr (2, [.ref sa, .ref ca, .ref sia, .ref cia, .int (Int32.ofInt (smI (ltF L F) allK ((nts L 60).take i))), .int (nI (nN L)), .int x0, .int y0, .int z0])) :: (sa, .inl (G.2.1.1, 600, .inl S)) :: (ca, .inl (G.2.1.1, 600, .inl C)) :: (sia, .inl (G.2.1.1, 600, .inl SI)) :: (cia, .inl (G.2.1.1, 600, .inl CI)) :: (c, .inr (1, [.ref cta, .ref cua, .int (nI (nN L))])) :: (cta, .inl (G.2.1.1, 60, .inl t)) :: (cua, .inl (G.2.1.1, 60, .inl u)) :: r) 0 0 47 [(0, .ref o), (1, .ref c), (2, .int (nI p)), (3, .int (nI i))] [] := by
  have hn := nN_le L
  refine J.iload_n 3 dX2_share_47 rfl ?_
  refine J.aload_n 1 dX2_share_48 rfl ?_
  refine J.get 5 fl_X2_68 dX2_share_49 rfl rfl ?_
  refine J.icmp_ge dX2_share_52 (fun h9 => ?_) (fun h9 => ?_)
  · skip
    have h9 : (nN L) ≤ i := (nI_leI (a := (nN L)) (b := i) (by omega) (by omega)).mp h9
    have e : i = nN L := by omega
    subst e
    rw [List.take_length] at hS
    rw [List.take_length]
    exact J.vret B dX2_share_116 rfl (⟨S, C, hS, rfl, rfl⟩)
  · skip
    have h9 : ¬ (nN L) ≤ i := fun z => h9 ((nI_leI (a := (nN L)) (b := i) (by omega) (by omega)).mpr z)
    have h9 : i < nN L := by omega
    refine J.aload_n 1 dX2_share_55 rfl ?_
    refine J.get 5 fl_X2_76 dX2_share_56 rfl rfl ?_
    refine J.iload_n 3 dX2_share_59 rfl ?_
    refine J.iald 6 (i) dX2_share_60 rfl (rfl) (by omega) (by decide) ?_
    refine J.topi (y := nI (ntN L i)) ((hc i h9).1) ?_
    refine J.iload_n 2 dX2_share_61 rfl ?_
    refine J.iconst (1 : Int32) dX2_share_62 rfl ?_
    refine J.callS (st := []) B (c_X7_phaseOfTime l G _ (k := ntN L i) (p := p) (q := 1) hp hp2 (ntN_lt h9).1 (by decide)) ml_X2_79 mf_yX7_phaseOfTime mS_yX7_phaseOfTime dX2_share_63 rfl rfl rfl (fun v_1 w_2 hp_3 => ?_)
    obtain ⟨rfl, rfl⟩ := hp_3
    show J G X mX2_share _ _ _ 66 _ [.int (nI ((ntN L i) * 1 % p))]
    refine J.istore [1, 2, 3, 4, 0] (lv' := [(0, .ref o), (1, .ref c), (2, .int (nI p)), (3, .int (nI i)), (4, .int (nI ((ntN L i) * 1 % p)))]) dX2_share_66 rfl rfl ?_
    refine J.aload_n 0 dX2_share_68 rfl ?_
    refine J.get 0 fl_X2_9 dX2_share_69 rfl rfl ?_
    refine J.iload 4 dX2_share_72 rfl ?_
    refine J.dup2 dX2_share_74 rfl rfl ?_
    refine J.iald 1 ((ntN L i) * 1 % p) dX2_share_75 rfl (rfl) (Nat.lt_of_lt_of_le (Nat.mod_lt _ (by omega)) hp2) (by decide) ?_
    refine J.aload_n 1 dX2_share_76 rfl ?_
    refine J.get 5 fl_X2_83 dX2_share_77 rfl rfl ?_
    refine J.iload_n 3 dX2_share_80 rfl ?_
    refine J.iald 7 (i) dX2_share_81 rfl (rfl) (by omega) (by decide) ?_
    refine J.topi (y := ltF L F (ntN L i)) ((hc i h9).2) ?_
    refine J.iadd dX2_share_82 ?_
    refine J.iast 1 ((ntN L i) * 1 % p) dX2_share_83 rfl (rfl) (Nat.lt_of_lt_of_le (Nat.mod_lt _ (by omega)) hp2) (by decide) (ws' := (o, .inr (2, [.ref sa, .ref ca, .ref sia, .ref cia, .int (Int32.ofInt (smI (ltF L F) allK ((nts L 60).take i))), .int (nI (nN L)), .int x0, .int y0, .int z0])) :: (sa, .inl (G.2.1.1, 600, .inl (upd S ((ntN L i) * 1 % p) ((S ((ntN L i) * 1 % p)) + (ltF L F (ntN L i)))))) :: (ca, .inl (G.2.1.1, 600, .inl C)) :: (sia, .inl (G.2.1.1, 600, .inl SI)) :: (cia, .inl (G.2.1.1, 600, .inl CI)) :: (c, .inr (1, [.ref cta, .ref cua, .int (nI (nN L))])) :: (cta, .inl (G.2.1.1, 60, .inl t)) :: (cua, .inl (G.2.1.1, 60, .inl u)) :: r) rfl ?_
    refine J.aload_n 0 dX2_share_84 rfl ?_
    refine J.get 0 fl_X2_15 dX2_share_85 rfl rfl ?_
    refine J.iload 4 dX2_share_88 rfl ?_
    refine J.dup2 dX2_share_90 rfl rfl ?_
    refine J.iald 2 ((ntN L i) * 1 % p) dX2_share_91 rfl (rfl) (Nat.lt_of_lt_of_le (Nat.mod_lt _ (by omega)) hp2) (by decide) ?_
    refine J.iconst (1 : Int32) dX2_share_92 rfl ?_
    refine J.iadd dX2_share_93 ?_
    refine J.iast 2 ((ntN L i) * 1 % p) dX2_share_94 rfl (rfl) (Nat.lt_of_lt_of_le (Nat.mod_lt _ (by omega)) hp2) (by decide) (ws' := (o, .inr (2, [.ref sa, .ref ca, .ref sia, .ref cia, .int (Int32.ofInt (smI (ltF L F) allK ((nts L 60).take i))), .int (nI (nN L)), .int x0, .int y0, .int z0])) :: (sa, .inl (G.2.1.1, 600, .inl (upd S ((ntN L i) * 1 % p) ((S ((ntN L i) * 1 % p)) + (ltF L F (ntN L i)))))) :: (ca, .inl (G.2.1.1, 600, .inl (upd C ((ntN L i) * 1 % p) ((C ((ntN L i) * 1 % p)) + (1 : Int32))))) :: (sia, .inl (G.2.1.1, 600, .inl SI)) :: (cia, .inl (G.2.1.1, 600, .inl CI)) :: (c, .inr (1, [.ref cta, .ref cua, .int (nI (nN L))])) :: (cta, .inl (G.2.1.1, 60, .inl t)) :: (cua, .inl (G.2.1.1, 60, .inl u)) :: r) rfl ?_
    refine J.aload_n 0 dX2_share_95 rfl ?_
    refine J.dup dX2_share_96 rfl ?_
    refine J.get 0 fl_X2_65 dX2_share_97 rfl rfl ?_
    refine J.aload_n 1 dX2_share_100 rfl ?_
    refine J.get 5 fl_X2_83 dX2_share_101 rfl rfl ?_
    refine J.iload_n 3 dX2_share_104 rfl ?_
    refine J.iald 7 (i) dX2_share_105 rfl (rfl) (by omega) (by decide) ?_
    refine J.topi (y := ltF L F (ntN L i)) ((hc i h9).2) ?_
    refine J.iadd dX2_share_106 ?_
    refine J.put 0 fp_X2_65 dX2_share_107 rfl (rfl) (rfl) rfl (ws' := (o, .inr (2, [.ref sa, .ref ca, .ref sia, .ref cia, .int ((Int32.ofInt (smI (ltF L F) allK ((nts L 60).take i))) + (ltF L F (ntN L i))), .int (nI (nN L)), .int x0, .int y0, .int z0])) :: (sa, .inl (G.2.1.1, 600, .inl (upd S ((ntN L i) * 1 % p) ((S ((ntN L i) * 1 % p)) + (ltF L F (ntN L i)))))) :: (ca, .inl (G.2.1.1, 600, .inl (upd C ((ntN L i) * 1 % p) ((C ((ntN L i) * 1 % p)) + (1 : Int32))))) :: (sia, .inl (G.2.1.1, 600, .inl SI)) :: (cia, .inl (G.2.1.1, 600, .inl CI)) :: (c, .inr (1, [.ref cta, .ref cua, .int (nI (nN L))])) :: (cta, .inl (G.2.1.1, 60, .inl t)) :: (cua, .inl (G.2.1.1, 60, .inl u)) :: r) rfl ?_
    refine J.iinc 3 [1, 2, 3, 0, 4] (lv' := [(0, .ref o), (1, .ref c), (2, .int (nI p)), (3, .int (nI (i + 1))), (4, .int (nI ((ntN L i) * 1 % p)))]) dX2_share_110 rfl (jinc1 _) rfl rfl ?_
    refine J.goto dX2_share_113 ?_
    refine J.loc [0, 1, 2, 3] (lv' := [(0, .ref o), (1, .ref c), (2, .int (nI p)), (3, .int (nI (i + 1)))]) rfl ?_
    rw [all_s h9]
    exact X2_share_lp B (i + 1) _ _ hc hb hp hp2 (by omega) (SC_s hS h9 hp hp2)
termination_by nN L - i
decreasing_by all_goals omega
set_option maxHeartbeats 4000000 in
set_option maxRecDepth 100000 in
theorem c_X2_share (l : Launch) (G : jG) (r : va_W) {o sa ca sia cia : Nat} {x0 y0 z0 : Int32} {c cta cua p : Nat} {L F t u : Nat → Int32} {A n : Int32} {S C SI CI : Nat → Int32} (hc : CV L F t u) (hb : BD L F) (hp : 1 ≤ p) (hp2 : p ≤ 600) : Mt l G yX2_share mX2_share 1 23 0 0 [.ref o, .ref c, .int (nI p)] ((o, .inr (2, [.ref sa, .ref ca, .ref sia, .ref cia, .int A, .int n, .int x0, .int y0, .int z0])) :: (sa, .inl (G.2.1.1, 600, .inl S)) :: (ca, .inl (G.2.1.1, 600, .inl C)) :: (sia, .inl (G.2.1.1, 600, .inl SI)) :: (cia, .inl (G.2.1.1, 600, .inl CI)) :: (c, .inr (1, [.ref cta, .ref cua, .int (nI (nN L))])) :: (cta, .inl (G.2.1.1, 60, .inl t)) :: (cua, .inl (G.2.1.1, 60, .inl u)) :: r) (fun v w => ∃ S C, SC L F p (nts L 60) S C ∧ v = none ∧ w = (o, .inr (2, [.ref sa, .ref ca, .ref sia, .ref cia, .int (Int32.ofInt (tI L F)), .int (nI (nN L)), .int x0, .int y0, .int z0])) :: iA G sa 600 S :: iA G ca 600 C :: iA G sia 600 (flA SI 0 600) :: iA G cia 600 (flA CI 0 600) :: oX1 c cta cua (nI (nN L)) :: iA G cta 60 t :: iA G cua 60 u :: r) := by
  refine Mt.of (by decide +kernel) rfl rfl (fun X B => ?_)
  show J G X mX2_share ((o, .inr (2, [.ref sa, .ref ca, .ref sia, .ref cia, .int A, .int n, .int x0, .int y0, .int z0])) :: (sa, .inl (G.2.1.1, 600, .inl S)) :: (ca, .inl (G.2.1.1, 600, .inl C)) :: (sia, .inl (G.2.1.1, 600, .inl SI)) :: (cia, .inl (G.2.1.1, 600, .inl CI)) :: (c, .inr (1, [.ref cta, .ref cua, .int (nI (nN L))])) :: (cta, .inl (G.2.1.1, 60, .inl t)) :: (cua, .inl (G.2.1.1, 60, .inl u)) :: r) 0 0 0 [(0, .ref o), (1, .ref c), (2, .int (nI p))] []
  refine J.aload_n 0 dX2_share_0 rfl ?_
  refine J.get 0 fl_X2_9 dX2_share_1 rfl rfl ?_
  refine J.iconst (0 : Int32) dX2_share_4 rfl ?_
  refine J.re [1, 0, 2, 3, 4, 5, 6, 7] 8 (ws2 := (sa, .inl (G.2.1.1, 600, .inl S)) :: (o, .inr (2, [.ref sa, .ref ca, .ref sia, .ref cia, .int A, .int n, .int x0, .int y0, .int z0])) :: (ca, .inl (G.2.1.1, 600, .inl C)) :: (sia, .inl (G.2.1.1, 600, .inl SI)) :: (cia, .inl (G.2.1.1, 600, .inl CI)) :: (c, .inr (1, [.ref cta, .ref cua, .int (nI (nN L))])) :: (cta, .inl (G.2.1.1, 60, .inl t)) :: (cua, .inl (G.2.1.1, 60, .inl u)) :: r) rfl rfl ?_
  refine J.callS (st := []) B (c_J7_fill_53178 l G _ (n := 600) (by decide)) ml_X2_59 mf_yJ7_fill_53178 mS_yJ7_fill_53178 dX2_share_5 rfl rfl rfl (fun v_1 w_2 hp_3 => ?_)
  obtain ⟨rfl, rfl⟩ := hp_3
  refine J.re [1, 0, 2, 3, 4, 5, 6, 7] 8 (ws2 := (o, .inr (2, [.ref sa, .ref ca, .ref sia, .ref cia, .int A, .int n, .int x0, .int y0, .int z0])) :: (sa, .inl (G.2.1.1, 600, .inl (flA S (0 : Int32) 600))) :: (ca, .inl (G.2.1.1, 600, .inl C)) :: (sia, .inl (G.2.1.1, 600, .inl SI)) :: (cia, .inl (G.2.1.1, 600, .inl CI)) :: (c, .inr (1, [.ref cta, .ref cua, .int (nI (nN L))])) :: (cta, .inl (G.2.1.1, 60, .inl t)) :: (cua, .inl (G.2.1.1, 60, .inl u)) :: r) rfl rfl ?_
  show J G X mX2_share _ _ _ 8 _ []
  refine J.aload_n 0 dX2_share_8 rfl ?_
  refine J.get 0 fl_X2_15 dX2_share_9 rfl rfl ?_
  refine J.iconst (0 : Int32) dX2_share_12 rfl ?_
  refine J.re [2, 0, 1, 3, 4, 5, 6, 7] 8 (ws2 := (ca, .inl (G.2.1.1, 600, .inl C)) :: (o, .inr (2, [.ref sa, .ref ca, .ref sia, .ref cia, .int A, .int n, .int x0, .int y0, .int z0])) :: (sa, .inl (G.2.1.1, 600, .inl (flA S (0 : Int32) 600))) :: (sia, .inl (G.2.1.1, 600, .inl SI)) :: (cia, .inl (G.2.1.1, 600, .inl CI)) :: (c, .inr (1, [.ref cta, .ref cua, .int (nI (nN L))])) :: (cta, .inl (G.2.1.1, 60, .inl t)) :: (cua, .inl (G.2.1.1, 60, .inl u)) :: r) rfl rfl ?_
  refine J.callS (st := []) B (c_J7_fill_53178 l G _ (n := 600) (by decide)) ml_X2_59 mf_yJ7_fill_53178 mS_yJ7_fill_53178 dX2_share_13 rfl rfl rfl (fun v_4 w_5 hp_6 => ?_)
  obtain ⟨rfl, rfl⟩ := hp_6
  refine J.re [1, 2, 0, 3, 4, 5, 6, 7] 8 (ws2 := (o, .inr (2, [.ref sa, .ref ca, .ref sia, .ref cia, .int A, .int n, .int x0, .int y0, .int z0])) :: (sa, .inl (G.2.1.1, 600, .inl (flA S (0 : Int32) 600))) :: (ca, .inl (G.2.1.1, 600, .inl (flA C (0 : Int32) 600))) :: (sia, .inl (G.2.1.1, 600, .inl SI)) :: (cia, .inl (G.2.1.1, 600, .inl CI)) :: (c, .inr (1, [.ref cta, .ref cua, .int (nI (nN L))])) :: (cta, .inl (G.2.1.1, 60, .inl t)) :: (cua, .inl (G.2.1.1, 60, .inl u)) :: r) rfl rfl ?_
  show J G X mX2_share _ _ _ 16 _ []
  refine J.aload_n 0 dX2_share_16 rfl ?_
  refine J.get 0 fl_X2_18 dX2_share_17 rfl rfl ?_
  refine J.iconst (0 : Int32) dX2_share_20 rfl ?_
  refine J.re [3, 0, 1, 2, 4, 5, 6, 7] 8 (ws2 := (sia, .inl (G.2.1.1, 600, .inl SI)) :: (o, .inr (2, [.ref sa, .ref ca, .ref sia, .ref cia, .int A, .int n, .int x0, .int y0, .int z0])) :: (sa, .inl (G.2.1.1, 600, .inl (flA S (0 : Int32) 600))) :: (ca, .inl (G.2.1.1, 600, .inl (flA C (0 : Int32) 600))) :: (cia, .inl (G.2.1.1, 600, .inl CI)) :: (c, .inr (1, [.ref cta, .ref cua, .int (nI (nN L))])) :: (cta, .inl (G.2.1.1, 60, .inl t)) :: (cua, .inl (G.2.1.1, 60, .inl u)) :: r) rfl rfl ?_
  refine J.callS (st := []) B (c_J7_fill_53178 l G _ (n := 600) (by decide)) ml_X2_59 mf_yJ7_fill_53178 mS_yJ7_fill_53178 dX2_share_21 rfl rfl rfl (fun v_7 w_8 hp_9 => ?_)
  obtain ⟨rfl, rfl⟩ := hp_9
  refine J.re [1, 2, 3, 0, 4, 5, 6, 7] 8 (ws2 := (o, .inr (2, [.ref sa, .ref ca, .ref sia, .ref cia, .int A, .int n, .int x0, .int y0, .int z0])) :: (sa, .inl (G.2.1.1, 600, .inl (flA S (0 : Int32) 600))) :: (ca, .inl (G.2.1.1, 600, .inl (flA C (0 : Int32) 600))) :: (sia, .inl (G.2.1.1, 600, .inl (flA SI (0 : Int32) 600))) :: (cia, .inl (G.2.1.1, 600, .inl CI)) :: (c, .inr (1, [.ref cta, .ref cua, .int (nI (nN L))])) :: (cta, .inl (G.2.1.1, 60, .inl t)) :: (cua, .inl (G.2.1.1, 60, .inl u)) :: r) rfl rfl ?_
  show J G X mX2_share _ _ _ 24 _ []
  refine J.aload_n 0 dX2_share_24 rfl ?_
  refine J.get 0 fl_X2_21 dX2_share_25 rfl rfl ?_
  refine J.iconst (0 : Int32) dX2_share_28 rfl ?_
  refine J.re [4, 0, 1, 2, 3, 5, 6, 7] 8 (ws2 := (cia, .inl (G.2.1.1, 600, .inl CI)) :: (o, .inr (2, [.ref sa, .ref ca, .ref sia, .ref cia, .int A, .int n, .int x0, .int y0, .int z0])) :: (sa, .inl (G.2.1.1, 600, .inl (flA S (0 : Int32) 600))) :: (ca, .inl (G.2.1.1, 600, .inl (flA C (0 : Int32) 600))) :: (sia, .inl (G.2.1.1, 600, .inl (flA SI (0 : Int32) 600))) :: (c, .inr (1, [.ref cta, .ref cua, .int (nI (nN L))])) :: (cta, .inl (G.2.1.1, 60, .inl t)) :: (cua, .inl (G.2.1.1, 60, .inl u)) :: r) rfl rfl ?_
  refine J.callS (st := []) B (c_J7_fill_53178 l G _ (n := 600) (by decide)) ml_X2_59 mf_yJ7_fill_53178 mS_yJ7_fill_53178 dX2_share_29 rfl rfl rfl (fun v_10 w_11 hp_12 => ?_)
  obtain ⟨rfl, rfl⟩ := hp_12
  refine J.re [1, 2, 3, 4, 0, 5, 6, 7] 8 (ws2 := (o, .inr (2, [.ref sa, .ref ca, .ref sia, .ref cia, .int A, .int n, .int x0, .int y0, .int z0])) :: (sa, .inl (G.2.1.1, 600, .inl (flA S (0 : Int32) 600))) :: (ca, .inl (G.2.1.1, 600, .inl (flA C (0 : Int32) 600))) :: (sia, .inl (G.2.1.1, 600, .inl (flA SI (0 : Int32) 600))) :: (cia, .inl (G.2.1.1, 600, .inl (flA CI (0 : Int32) 600))) :: (c, .inr (1, [.ref cta, .ref cua, .int (nI (nN L))])) :: (cta, .inl (G.2.1.1, 60, .inl t)) :: (cua, .inl (G.2.1.1, 60, .inl u)) :: r) rfl rfl ?_
  show J G X mX2_share _ _ _ 32 _ []
  refine J.aload_n 0 dX2_share_32 rfl ?_
  refine J.iconst (0 : Int32) dX2_share_33 rfl ?_
  refine J.put 0 fp_X2_65 dX2_share_34 rfl (rfl) (rfl) rfl (ws' := (o, .inr (2, [.ref sa, .ref ca, .ref sia, .ref cia, .int (0 : Int32), .int n, .int x0, .int y0, .int z0])) :: (sa, .inl (G.2.1.1, 600, .inl (flA S (0 : Int32) 600))) :: (ca, .inl (G.2.1.1, 600, .inl (flA C (0 : Int32) 600))) :: (sia, .inl (G.2.1.1, 600, .inl (flA SI (0 : Int32) 600))) :: (cia, .inl (G.2.1.1, 600, .inl (flA CI (0 : Int32) 600))) :: (c, .inr (1, [.ref cta, .ref cua, .int (nI (nN L))])) :: (cta, .inl (G.2.1.1, 60, .inl t)) :: (cua, .inl (G.2.1.1, 60, .inl u)) :: r) rfl ?_
  refine J.aload_n 0 dX2_share_37 rfl ?_
  refine J.aload_n 1 dX2_share_38 rfl ?_
  refine J.get 5 fl_X2_68 dX2_share_39 rfl rfl ?_
  refine J.put 0 fp_X2_73 dX2_share_42 rfl (rfl) (rfl) rfl (ws' := (o, .inr (2, [.ref sa, .ref ca, .ref sia, .ref cia, .int (0 : Int32), .int (nI (nN L)), .int x0, .int y0, .int z0])) :: (sa, .inl (G.2.1.1, 600, .inl (flA S (0 : Int32) 600))) :: (ca, .inl (G.2.1.1, 600, .inl (flA C (0 : Int32) 600))) :: (sia, .inl (G.2.1.1, 600, .inl (flA SI (0 : Int32) 600))) :: (cia, .inl (G.2.1.1, 600, .inl (flA CI (0 : Int32) 600))) :: (c, .inr (1, [.ref cta, .ref cua, .int (nI (nN L))])) :: (cta, .inl (G.2.1.1, 60, .inl t)) :: (cua, .inl (G.2.1.1, 60, .inl u)) :: r) rfl ?_
  refine J.iconst (0 : Int32) dX2_share_45 rfl ?_
  refine J.istore_n [1, 2, 3, 0] (lv' := [(0, .ref o), (1, .ref c), (2, .int (nI p)), (3, .int (0 : Int32))]) dX2_share_46 rfl rfl ?_
  exact X2_share_lp B 0 _ _ hc hb hp hp2 (by omega) SC_0
set_option maxHeartbeats 4000000 in
set_option maxRecDepth 100000 in
theorem c_X2_widen (l : Launch) (G : jG) (r : va_W) {o sa ca sia cia : Nat} {x0 y0 z0 : Int32} {A n : Int32} {S C SI CI : Nat → Int32} {f h : Nat} (hf : f < 600) (hh : h < 600) : Mt l G yX2_widen mX2_widen 0 0 0 0 [.ref o, .int (nI f), .int (nI h)] ((o, .inr (2, [.ref sa, .ref ca, .ref sia, .ref cia, .int A, .int n, .int x0, .int y0, .int z0])) :: (sa, .inl (G.2.1.1, 600, .inl S)) :: (ca, .inl (G.2.1.1, 600, .inl C)) :: (sia, .inl (G.2.1.1, 600, .inl SI)) :: (cia, .inl (G.2.1.1, 600, .inl CI)) :: r) (fun v w => v = none ∧ w = (o, .inr (2, [.ref sa, .ref ca, .ref sia, .ref cia, .int A, .int n, .int x0, .int y0, .int z0])) :: iA G sa 600 S :: iA G ca 600 C :: iA G sia 600 (upd SI f (SI f + S h)) :: iA G cia 600 (upd CI f (CI f + C h)) :: r) := by
  refine Mt.of (by decide +kernel) rfl rfl (fun X B => ?_)
  show J G X mX2_widen ((o, .inr (2, [.ref sa, .ref ca, .ref sia, .ref cia, .int A, .int n, .int x0, .int y0, .int z0])) :: (sa, .inl (G.2.1.1, 600, .inl S)) :: (ca, .inl (G.2.1.1, 600, .inl C)) :: (sia, .inl (G.2.1.1, 600, .inl SI)) :: (cia, .inl (G.2.1.1, 600, .inl CI)) :: r) 0 0 0 [(0, .ref o), (1, .int (nI f)), (2, .int (nI h))] []
  refine J.aload_n 0 dX2_widen_0 rfl ?_
  refine J.get 0 fl_X2_18 dX2_widen_1 rfl rfl ?_
  refine J.iload_n 1 dX2_widen_4 rfl ?_
  refine J.dup2 dX2_widen_5 rfl rfl ?_
  refine J.iald 3 (f) dX2_widen_6 rfl (rfl) (by omega) (by decide) ?_
  refine J.aload_n 0 dX2_widen_7 rfl ?_
  refine J.get 0 fl_X2_9 dX2_widen_8 rfl rfl ?_
  refine J.iload_n 2 dX2_widen_11 rfl ?_
  refine J.iald 1 (h) dX2_widen_12 rfl (rfl) (by omega) (by decide) ?_
  refine J.iadd dX2_widen_13 ?_
  refine J.iast 3 (f) dX2_widen_14 rfl (rfl) (by omega) (by decide) (ws' := (o, .inr (2, [.ref sa, .ref ca, .ref sia, .ref cia, .int A, .int n, .int x0, .int y0, .int z0])) :: (sa, .inl (G.2.1.1, 600, .inl S)) :: (ca, .inl (G.2.1.1, 600, .inl C)) :: (sia, .inl (G.2.1.1, 600, .inl (upd SI f ((SI f) + (S h))))) :: (cia, .inl (G.2.1.1, 600, .inl CI)) :: r) rfl ?_
  refine J.aload_n 0 dX2_widen_15 rfl ?_
  refine J.get 0 fl_X2_21 dX2_widen_16 rfl rfl ?_
  refine J.iload_n 1 dX2_widen_19 rfl ?_
  refine J.dup2 dX2_widen_20 rfl rfl ?_
  refine J.iald 4 (f) dX2_widen_21 rfl (rfl) (by omega) (by decide) ?_
  refine J.aload_n 0 dX2_widen_22 rfl ?_
  refine J.get 0 fl_X2_15 dX2_widen_23 rfl rfl ?_
  refine J.iload_n 2 dX2_widen_26 rfl ?_
  refine J.iald 2 (h) dX2_widen_27 rfl (rfl) (by omega) (by decide) ?_
  refine J.iadd dX2_widen_28 ?_
  refine J.iast 4 (f) dX2_widen_29 rfl (rfl) (by omega) (by decide) (ws' := (o, .inr (2, [.ref sa, .ref ca, .ref sia, .ref cia, .int A, .int n, .int x0, .int y0, .int z0])) :: (sa, .inl (G.2.1.1, 600, .inl S)) :: (ca, .inl (G.2.1.1, 600, .inl C)) :: (sia, .inl (G.2.1.1, 600, .inl (upd SI f ((SI f) + (S h))))) :: (cia, .inl (G.2.1.1, 600, .inl (upd CI f ((CI f) + (C h))))) :: r) rfl ?_
  exact J.vret B dX2_widen_30 rfl (⟨rfl, rfl⟩)
set_option maxHeartbeats 4000000 in
set_option maxRecDepth 100000 in
theorem c_X2_countsHere (l : Launch) (G : jG) (r : va_W) {o sa ca sia cia : Nat} {x0 y0 z0 : Int32} {A : Int32} {CI : Nat → Int32} {f cc n : Nat} (hf : f < 600) (hc : CI f = nI cc) (h1 : cc ≤ 60) (h2 : n ≤ 60) : Mt l G yX2_countsHere mX2_countsHere 0 0 0 0 [.ref o, .int (nI f)] ((o, .inr (2, [.ref sa, .ref ca, .ref sia, .ref cia, .int A, .int (nI n), .int x0, .int y0, .int z0])) :: (cia, .inl (G.2.1.1, 600, .inl CI)) :: r) (fun v w => v = some (.int (b01 (decide (0 < cc ∧ cc < n)))) ∧ w = (o, .inr (2, [.ref sa, .ref ca, .ref sia, .ref cia, .int A, .int (nI n), .int x0, .int y0, .int z0])) :: iA G cia 600 CI :: r) := by
  refine Mt.of (by decide +kernel) rfl rfl (fun X B => ?_)
  show J G X mX2_countsHere ((o, .inr (2, [.ref sa, .ref ca, .ref sia, .ref cia, .int A, .int (nI n), .int x0, .int y0, .int z0])) :: (cia, .inl (G.2.1.1, 600, .inl CI)) :: r) 0 0 0 [(0, .ref o), (1, .int (nI f))] []
  refine J.aload_n 0 dX2_countsHere_0 rfl ?_
  refine J.get 0 fl_X2_21 dX2_countsHere_1 rfl rfl ?_
  refine J.iload_n 1 dX2_countsHere_4 rfl ?_
  refine J.iald 1 (f) dX2_countsHere_5 rfl (rfl) (by omega) (by decide) ?_
  refine J.topi (y := nI cc) (hc) ?_
  refine J.if_le dX2_countsHere_6 (fun h9 => ?_) (fun h9 => ?_)
  · skip
    have h9 : cc ≤ 0 := (nI_leI (a := cc) (b := 0) (by omega) (by omega)).mp h9
    refine J.iconst (0 : Int32) dX2_countsHere_26 rfl ?_
    exact J.zret B dX2_countsHere_27 rfl (by decide) (⟨by rw [decide_eq_false (by omega)]; rfl, rfl⟩)
  · skip
    have h9 : ¬ cc ≤ 0 := fun z => h9 ((nI_leI (a := cc) (b := 0) (by omega) (by omega)).mpr z)
    refine J.aload_n 0 dX2_countsHere_9 rfl ?_
    refine J.get 0 fl_X2_21 dX2_countsHere_10 rfl rfl ?_
    refine J.iload_n 1 dX2_countsHere_13 rfl ?_
    refine J.iald 1 (f) dX2_countsHere_14 rfl (rfl) (by omega) (by decide) ?_
    refine J.topi (y := nI cc) (hc) ?_
    refine J.aload_n 0 dX2_countsHere_15 rfl ?_
    refine J.get 0 fl_X2_73 dX2_countsHere_16 rfl rfl ?_
    refine J.icmp_ge dX2_countsHere_19 (fun h8 => ?_) (fun h8 => ?_)
    · skip
      have h8 : n ≤ cc := (nI_leI (a := n) (b := cc) (by omega) (by omega)).mp h8
      refine J.iconst (0 : Int32) dX2_countsHere_26 rfl ?_
      exact J.zret B dX2_countsHere_27 rfl (by decide) (⟨by rw [decide_eq_false (by omega)]; rfl, rfl⟩)
    · skip
      have h8 : ¬ n ≤ cc := fun z => h8 ((nI_leI (a := n) (b := cc) (by omega) (by omega)).mpr z)
      refine J.iconst (1 : Int32) dX2_countsHere_22 rfl ?_
      refine J.goto dX2_countsHere_23 ?_
      exact J.zret B dX2_countsHere_27 rfl (by decide) (⟨by rw [decide_eq_true ⟨by omega, by omega⟩]; rfl, rfl⟩)
set_option maxHeartbeats 4000000 in
set_option maxRecDepth 100000 in
theorem c_X2_depthFrom (l : Launch) (G : jG) (r : va_W) {o sa ca sia cia : Nat} {x0 y0 z0 : Int32} {L F SI CI : Nat → Int32} {p d f : Nat} (hb : BD L F) (hf : f < 600) (hS : SI f = Int32.ofInt (sI L F p d f)) (hC : CI f = nI (cI L p d f)) : Mt l G yX2_depthFrom mX2_depthFrom 0 0 0 0 [.ref o, .int (nI f)] ((o, .inr (2, [.ref sa, .ref ca, .ref sia, .ref cia, .int (Int32.ofInt (tI L F)), .int (nI (nN L)), .int x0, .int y0, .int z0])) :: (sia, .inl (G.2.1.1, 600, .inl SI)) :: (cia, .inl (G.2.1.1, 600, .inl CI)) :: r) (fun v w => v = some (.long (Int64.ofInt (dpI L F p d f))) ∧ w = (o, .inr (2, [.ref sa, .ref ca, .ref sia, .ref cia, .int (Int32.ofInt (tI L F)), .int (nI (nN L)), .int x0, .int y0, .int z0])) :: iA G sia 600 SI :: iA G cia 600 CI :: r) := by
  refine Mt.of (by decide +kernel) rfl rfl (fun X B => ?_)
  show J G X mX2_depthFrom ((o, .inr (2, [.ref sa, .ref ca, .ref sia, .ref cia, .int (Int32.ofInt (tI L F)), .int (nI (nN L)), .int x0, .int y0, .int z0])) :: (sia, .inl (G.2.1.1, 600, .inl SI)) :: (cia, .inl (G.2.1.1, 600, .inl CI)) :: r) 0 0 0 [(0, .ref o), (1, .int (nI f))] []
  refine J.aload_n 0 dX2_depthFrom_0 rfl ?_
  refine J.get 0 fl_X2_65 dX2_depthFrom_1 rfl rfl ?_
  refine J.aload_n 0 dX2_depthFrom_4 rfl ?_
  refine J.get 0 fl_X2_18 dX2_depthFrom_5 rfl rfl ?_
  refine J.iload_n 1 dX2_depthFrom_8 rfl ?_
  refine J.iald 1 (f) dX2_depthFrom_9 rfl (rfl) (by omega) (by decide) ?_
  refine J.topi (y := Int32.ofInt (sI L F p d f)) (hS) ?_
  refine J.isub dX2_depthFrom_10 ?_
  refine J.i2l dX2_depthFrom_11 ?_
  refine J.lstore_n [1, 2, 0] (lv' := [(0, .ref o), (1, .int (nI f)), (2, .long (((Int32.ofInt (tI L F)) - (Int32.ofInt (sI L F p d f))).toInt64))]) dX2_depthFrom_12 rfl rfl ?_
  refine J.aload_n 0 dX2_depthFrom_13 rfl ?_
  refine J.get 0 fl_X2_18 dX2_depthFrom_14 rfl rfl ?_
  refine J.iload_n 1 dX2_depthFrom_17 rfl ?_
  refine J.iald 1 (f) dX2_depthFrom_18 rfl (rfl) (by omega) (by decide) ?_
  refine J.topi (y := Int32.ofInt (sI L F p d f)) (hS) ?_
  refine J.i2l dX2_depthFrom_19 ?_
  refine J.lstore [1, 2, 3, 0] (lv' := [(0, .ref o), (1, .int (nI f)), (2, .long (((Int32.ofInt (tI L F)) - (Int32.ofInt (sI L F p d f))).toInt64)), (4, .long ((Int32.ofInt (sI L F p d f)).toInt64))]) dX2_depthFrom_20 rfl rfl ?_
  refine J.lload_n 2 dX2_depthFrom_22 rfl ?_
  refine J.aload_n 0 dX2_depthFrom_23 rfl ?_
  refine J.get 0 fl_X2_21 dX2_depthFrom_24 rfl rfl ?_
  refine J.iload_n 1 dX2_depthFrom_27 rfl ?_
  refine J.iald 2 (f) dX2_depthFrom_28 rfl (rfl) (by omega) (by decide) ?_
  refine J.topi (y := nI (cI L p d f)) (hC) ?_
  refine J.i2l dX2_depthFrom_29 ?_
  refine J.lmul dX2_depthFrom_30 ?_
  refine J.lload 3 dX2_depthFrom_31 rfl ?_
  refine J.aload_n 0 dX2_depthFrom_33 rfl ?_
  refine J.get 0 fl_X2_73 dX2_depthFrom_34 rfl rfl ?_
  refine J.aload_n 0 dX2_depthFrom_37 rfl ?_
  refine J.get 0 fl_X2_21 dX2_depthFrom_38 rfl rfl ?_
  refine J.iload_n 1 dX2_depthFrom_41 rfl ?_
  refine J.iald 2 (f) dX2_depthFrom_42 rfl (rfl) (by omega) (by decide) ?_
  refine J.topi (y := nI (cI L p d f)) (hC) ?_
  refine J.isub dX2_depthFrom_43 ?_
  refine J.i2l dX2_depthFrom_44 ?_
  refine J.lmul dX2_depthFrom_45 ?_
  refine J.lsub dX2_depthFrom_46 ?_
  exact J.lret B dX2_depthFrom_47 rfl (⟨by rw [dep_cls hb], rfl⟩)
set_option maxHeartbeats 4000000 in
set_option maxRecDepth 100000 in
theorem c_X2_keep (l : Launch) (G : jG) (r : va_W) {o sa ca sia cia : Nat} {x0 y0 z0 : Int32} {A n : Int32} {CI : Nat → Int32} {d f cc : Nat} (hf : f < 600) (hC : CI f = nI cc) : Mt l G yX2_keep mX2_keep 0 0 0 0 [.ref o, .int (nI d), .int (nI f)] ((o, .inr (2, [.ref sa, .ref ca, .ref sia, .ref cia, .int A, .int n, .int x0, .int y0, .int z0])) :: (cia, .inl (G.2.1.1, 600, .inl CI)) :: r) (fun v w => v = none ∧ w = (o, .inr (2, [.ref sa, .ref ca, .ref sia, .ref cia, .int A, .int n, .int (nI d), .int (nI f), .int (nI cc)])) :: iA G cia 600 CI :: r) := by
  refine Mt.of (by decide +kernel) rfl rfl (fun X B => ?_)
  show J G X mX2_keep ((o, .inr (2, [.ref sa, .ref ca, .ref sia, .ref cia, .int A, .int n, .int x0, .int y0, .int z0])) :: (cia, .inl (G.2.1.1, 600, .inl CI)) :: r) 0 0 0 [(0, .ref o), (1, .int (nI d)), (2, .int (nI f))] []
  refine J.aload_n 0 dX2_keep_0 rfl ?_
  refine J.iload_n 1 dX2_keep_1 rfl ?_
  refine J.put 0 fp_X2_24 dX2_keep_2 rfl (rfl) (rfl) rfl (ws' := (o, .inr (2, [.ref sa, .ref ca, .ref sia, .ref cia, .int A, .int n, .int (nI d), .int y0, .int z0])) :: (cia, .inl (G.2.1.1, 600, .inl CI)) :: r) rfl ?_
  refine J.aload_n 0 dX2_keep_5 rfl ?_
  refine J.iload_n 2 dX2_keep_6 rfl ?_
  refine J.put 0 fp_X2_28 dX2_keep_7 rfl (rfl) (rfl) rfl (ws' := (o, .inr (2, [.ref sa, .ref ca, .ref sia, .ref cia, .int A, .int n, .int (nI d), .int (nI f), .int z0])) :: (cia, .inl (G.2.1.1, 600, .inl CI)) :: r) rfl ?_
  refine J.aload_n 0 dX2_keep_10 rfl ?_
  refine J.aload_n 0 dX2_keep_11 rfl ?_
  refine J.get 0 fl_X2_21 dX2_keep_12 rfl rfl ?_
  refine J.iload_n 2 dX2_keep_15 rfl ?_
  refine J.iald 1 (f) dX2_keep_16 rfl (rfl) (by omega) (by decide) ?_
  refine J.topi (y := nI cc) (hC) ?_
  refine J.put 0 fp_X2_31 dX2_keep_17 rfl (rfl) (rfl) rfl (ws' := (o, .inr (2, [.ref sa, .ref ca, .ref sia, .ref cia, .int A, .int n, .int (nI d), .int (nI f), .int (nI cc)])) :: (cia, .inl (G.2.1.1, 600, .inl CI)) :: r) rfl ?_
  exact J.vret B dX2_keep_20 rfl (⟨rfl, rfl⟩)
set_option maxHeartbeats 4000000 in
set_option maxRecDepth 100000 in
theorem X2_search_in {l : Launch} {G : jG} {X : jX} {r : va_W} {o sa ca sia cia : Nat} {x0 y0 z0 : Int32} {c cta cua p mo M : Nat} {L F t u S C : Nat → Int32} (B : jB l G X 2 47 0 0 (fun v w => v = some (.int (b01 (dpO L F p M).1)) ∧ ∃ S C SI CI, w = (o, .inr (2, [.ref sa, .ref ca, .ref sia, .ref cia, .int (Int32.ofInt (tI L F)), .int (nI (nN L)), .int (dpV (dpO L F p M).1 (dpO L F p M).2.2.1 x0), .int (dpV (dpO L F p M).1 (dpO L F p M).2.2.2.1 y0), .int (dpV (dpO L F p M).1 (dpO L F p M).2.2.2.2 z0)])) :: iA G sa 600 S :: iA G ca 600 C :: iA G sia 600 SI :: iA G cia 600 CI :: oX1 c cta cua (nI (nN L)) :: iA G cta 60 t :: iA G cua 60 u :: r) "search") (hc : CV L F t u) (hb : BD L F) (hp : 2 ≤ p) (hp2 : p ≤ 600) (hM : M < p) (hmo : mo ≤ 30) (hS : SC L F p (nts L 60) S C) (m : Nat) (hm : m + 1 ≤ M) (hK : ∀ (s : dpT) (SI CI : Nat → Int32), s = dpN L F p (m + 1) (dpO L F p m) p → SIC L F p m p SI CI → J G X mX2_search ((o, .inr (2, [.ref sa, .ref ca, .ref sia, .ref cia, .int (Int32.ofInt (tI L F)), .int (nI (nN L)), .int (dpV s.1 s.2.2.1 x0), .int (dpV s.1 s.2.2.2.1 y0), .int (dpV s.1 s.2.2.2.2 z0)])) :: (sa, .inl (G.2.1.1, 600, .inl S)) :: (ca, .inl (G.2.1.1, 600, .inl C)) :: (sia, .inl (G.2.1.1, 600, .inl SI)) :: (cia, .inl (G.2.1.1, 600, .inl CI)) :: (c, .inr (1, [.ref cta, .ref cua, .int (nI (nN L))])) :: (cta, .inl (G.2.1.1, 60, .inl t)) :: (cua, .inl (G.2.1.1, 60, .inl u)) :: r) 0 0 127 [(0, .ref o), (1, .ref c), (2, .int (nI p)), (3, .int (nI mo)), (4, .int (nI M)), (5, .int (b01 s.1)), (6, .long (Int64.ofInt s.2.1)), (8, .int (nI (m + 1)))] []) (f : Nat) (s : dpT) (SI CI : Nat → Int32) (hf : f ≤ p) (hs : s = dpN L F p (m + 1) (dpO L F p m) f) (hI : SIC L F p m f SI CI) : J G X mX2_search ((o, .inr (2, [.ref sa, .ref ca, .ref sia, .ref cia, .int (Int32.ofInt (tI L F)), .int (nI (nN L)), .int (dpV s.1 s.2.2.1 x0), .int (dpV s.1 s.2.2.2.1 y0), .int (dpV s.1 s.2.2.2.2 z0)])) :: (sa, .inl (G.2.1.1, 600, .inl S)) :: (ca, .inl (G.2.1.1, 600, .inl C)) :: (sia, .inl (G.2.1.1, 600, .inl SI)) :: (cia, .inl (G.2.1.1, 600, .inl CI)) :: (c, .inr (1, [.ref cta, .ref cua, .int (nI (nN L))])) :: (cta, .inl (G.2.1.1, 60, .inl t)) :: (cua, .inl (G.2.1.1, 60, .inl u)) :: r) 0 0 34 [(0, .ref o), (1, .ref c), (2, .int (nI p)), (3, .int (nI mo)), (4, .int (nI M)), (5, .int (b01 s.1)), (6, .long (Int64.ofInt s.2.1)), (8, .int (nI (m + 1))), (9, .int (nI f))] [] := by
  have hn := nN_le L
  have hgb : dgb s := by rw [hs]; exact dpN_bd hb (dpO_bd hb m) f
  obtain ⟨sb, g, x, y, z⟩ := s
  cases sb with
  | false =>
    have hgb : -1000000000 ≤ g ∧ g ≤ 1000000000 := hgb
    show J G X mX2_search ((o, .inr (2, [.ref sa, .ref ca, .ref sia, .ref cia, .int (Int32.ofInt (tI L F)), .int (nI (nN L)), .int x0, .int y0, .int z0])) :: (sa, .inl (G.2.1.1, 600, .inl S)) :: (ca, .inl (G.2.1.1, 600, .inl C)) :: (sia, .inl (G.2.1.1, 600, .inl SI)) :: (cia, .inl (G.2.1.1, 600, .inl CI)) :: (c, .inr (1, [.ref cta, .ref cua, .int (nI (nN L))])) :: (cta, .inl (G.2.1.1, 60, .inl t)) :: (cua, .inl (G.2.1.1, 60, .inl u)) :: r) 0 0 34 [(0, .ref o), (1, .ref c), (2, .int (nI p)), (3, .int (nI mo)), (4, .int (nI M)), (5, .int (0 : Int32)), (6, .long (Int64.ofInt g)), (8, .int (nI (m + 1))), (9, .int (nI f))] []
    refine J.iload 8 dX2_search_34 rfl ?_
    refine J.iload_n 2 dX2_search_36 rfl ?_
    refine J.icmp_ge dX2_search_37 (fun h9 => ?_) (fun h9 => ?_)
    · skip
      have h9 : p ≤ f := (nI_leI (a := p) (b := f) (by omega) (by omega)).mp h9
      have e : p = f := by omega
      subst e
      refine J.loc [0, 1, 2, 3, 4, 5, 6, 7] (lv' := [(0, .ref o), (1, .ref c), (2, .int (nI p)), (3, .int (nI mo)), (4, .int (nI M)), (5, .int (0 : Int32)), (6, .long (Int64.ofInt g)), (8, .int (nI (m + 1)))]) rfl ?_
      exact hK (false, g, x, y, z) SI CI hs hI
    · skip
      have h9 : ¬ p ≤ f := fun z => h9 ((nI_leI (a := p) (b := f) (by omega) (by omega)).mpr z)
      have h9 : f < p := by omega
      refine J.aload_n 0 dX2_search_40 rfl ?_
      refine J.iload 8 dX2_search_41 rfl ?_
      refine J.iload 8 dX2_search_43 rfl ?_
      refine J.iload 7 dX2_search_45 rfl ?_
      refine J.iadd dX2_search_47 ?_
      refine J.topi (y := nI (f + (m + 1))) (nI_add f (m + 1)) ?_
      refine J.iconst (1 : Int32) dX2_search_48 rfl ?_
      refine J.isub dX2_search_49 ?_
      refine J.topi (y := nI ((f + (m + 1)) - 1)) (pk_sub (a := f + (m + 1)) (b := 1) (by omega)) ?_
      refine J.iload_n 2 dX2_search_50 rfl ?_
      refine J.icmp_ge dX2_search_51 (fun h8 => ?_) (fun h8 => ?_)
      · skip
        have h8 : p ≤ ((f + (m + 1)) - 1) := (nI_leI (a := p) (b := ((f + (m + 1)) - 1)) (by omega) (by omega)).mp h8
        refine J.iload 8 dX2_search_64 rfl ?_
        refine J.iload 7 dX2_search_66 rfl ?_
        refine J.iadd dX2_search_68 ?_
        refine J.topi (y := nI (f + (m + 1))) (nI_add f (m + 1)) ?_
        refine J.iconst (1 : Int32) dX2_search_69 rfl ?_
        refine J.isub dX2_search_70 ?_
        refine J.topi (y := nI ((f + (m + 1)) - 1)) (pk_sub (a := f + (m + 1)) (b := 1) (by omega)) ?_
        refine J.iload_n 2 dX2_search_71 rfl ?_
        refine J.isub dX2_search_72 ?_
        refine J.topi (y := nI (((f + (m + 1)) - 1) - p)) (pk_sub (a := (f + (m + 1)) - 1) (b := p) (by omega)) ?_
        refine J.callV 0 (st := []) B (c_X2_widen l G _ (f := f) (h := ((f + (m + 1)) - 1) - p) (by omega) (by omega)) ml_X2_44 mf_yX2_widen mi_yX2_widen rfl dX2_search_73 rfl rfl rfl rfl (fun v_1 w_2 hp_3 => ?_)
        obtain ⟨rfl, rfl⟩ := hp_3
        have hI1 := SIC_s (ph := ((f + (m + 1)) - 1) - p) hI hS h9 (by omega) hp2 (by split <;> omega)
        generalize upd SI f (SI f + S (((f + (m + 1)) - 1) - p)) = SI1 at hI1 ⊢
        generalize upd CI f (CI f + C (((f + (m + 1)) - 1) - p)) = CI1 at hI1 ⊢
        have hat := SIC_at hI1 h9
        have hcle := cI_le L p (m + 1) f
        show J G X mX2_search ((o, .inr (2, [.ref sa, .ref ca, .ref sia, .ref cia, .int (Int32.ofInt (tI L F)), .int (nI (nN L)), .int x0, .int y0, .int z0])) :: (sa, .inl (G.2.1.1, 600, .inl S)) :: (ca, .inl (G.2.1.1, 600, .inl C)) :: (sia, .inl (G.2.1.1, 600, .inl SI1)) :: (cia, .inl (G.2.1.1, 600, .inl CI1)) :: (c, .inr (1, [.ref cta, .ref cua, .int (nI (nN L))])) :: (cta, .inl (G.2.1.1, 60, .inl t)) :: (cua, .inl (G.2.1.1, 60, .inl u)) :: r) 0 0 76 [(0, .ref o), (1, .ref c), (2, .int (nI p)), (3, .int (nI mo)), (4, .int (nI M)), (5, .int (0 : Int32)), (6, .long (Int64.ofInt g)), (8, .int (nI (m + 1))), (9, .int (nI f))] []
        refine J.aload_n 0 dX2_search_76 rfl ?_
        refine J.iload 8 dX2_search_77 rfl ?_
        refine J.re [0, 4, 1, 2, 3, 5, 6, 7] 8 (ws2 := (o, .inr (2, [.ref sa, .ref ca, .ref sia, .ref cia, .int (Int32.ofInt (tI L F)), .int (nI (nN L)), .int x0, .int y0, .int z0])) :: (cia, .inl (G.2.1.1, 600, .inl CI1)) :: (sa, .inl (G.2.1.1, 600, .inl S)) :: (ca, .inl (G.2.1.1, 600, .inl C)) :: (sia, .inl (G.2.1.1, 600, .inl SI1)) :: (c, .inr (1, [.ref cta, .ref cua, .int (nI (nN L))])) :: (cta, .inl (G.2.1.1, 60, .inl t)) :: (cua, .inl (G.2.1.1, 60, .inl u)) :: r) rfl rfl ?_
        refine J.callV 0 (st := []) B (c_X2_countsHere l G _ (f := f) (cc := cI L p (m + 1) f) (n := nN L) (by omega) hat.2 (by omega) (by omega)) ml_X2_48 mf_yX2_countsHere mi_yX2_countsHere rfl dX2_search_79 rfl rfl rfl rfl (fun v_4 w_5 hp_6 => ?_)
        obtain ⟨rfl, rfl⟩ := hp_6
        refine J.re [0, 2, 3, 4, 1, 5, 6, 7] 8 (ws2 := (o, .inr (2, [.ref sa, .ref ca, .ref sia, .ref cia, .int (Int32.ofInt (tI L F)), .int (nI (nN L)), .int x0, .int y0, .int z0])) :: (sa, .inl (G.2.1.1, 600, .inl S)) :: (ca, .inl (G.2.1.1, 600, .inl C)) :: (sia, .inl (G.2.1.1, 600, .inl SI1)) :: (cia, .inl (G.2.1.1, 600, .inl CI1)) :: (c, .inr (1, [.ref cta, .ref cua, .int (nI (nN L))])) :: (cta, .inl (G.2.1.1, 60, .inl t)) :: (cua, .inl (G.2.1.1, 60, .inl u)) :: r) rfl rfl ?_
        show J G X mX2_search _ _ _ 82 _ [.int (b01 (decide (0 < cI L p (m + 1) f ∧ cI L p (m + 1) f < nN L)))]
        refine J.if_eq dX2_search_82 (fun h7 => ?_) (fun h7 => ?_)
        · skip
          have h7 := of_decide_eq_false (b01_0 h7)
          refine J.iinc 8 [1, 2, 3, 4, 5, 6, 7, 8, 0] (lv' := [(0, .ref o), (1, .ref c), (2, .int (nI p)), (3, .int (nI mo)), (4, .int (nI M)), (5, .int (0 : Int32)), (6, .long (Int64.ofInt g)), (8, .int (nI (m + 1))), (9, .int (nI (f + 1)))]) dX2_search_121 rfl (jinc1 _) rfl rfl ?_
          refine J.goto dX2_search_124 ?_
          exact X2_search_in B hc hb hp hp2 hM hmo hS m hm hK (f + 1) (false, g, x, y, z) SI1 CI1 (by omega) (by rw [dpN_s, ← hs]; unfold dpG; rw [if_neg (fun z => by first | exact h7 ⟨z.1, z.2.1⟩ | exact z.2.2.elim (fun q => by cases q) (fun q => absurd (show g < dpI L F p (m + 1) f from q) (by omega)))]) hI1
        · skip
          have h7 := of_decide_eq_true (b01_1 h7)
          refine J.iload 5 dX2_search_85 rfl ?_
          refine J.if_eq dX2_search_87 (fun _ => ?_) (fun z => absurd z (by decide))
          refine J.iconst (1 : Int32) dX2_search_102 rfl ?_
          refine J.istore [1, 2, 3, 4, 5, 0, 6, 7, 8] (lv' := [(0, .ref o), (1, .ref c), (2, .int (nI p)), (3, .int (nI mo)), (4, .int (nI M)), (5, .int (1 : Int32)), (6, .long (Int64.ofInt g)), (8, .int (nI (m + 1))), (9, .int (nI f))]) dX2_search_103 rfl rfl ?_
          refine J.aload_n 0 dX2_search_105 rfl ?_
          refine J.iload 8 dX2_search_106 rfl ?_
          refine J.re [0, 3, 4, 1, 2, 5, 6, 7] 8 (ws2 := (o, .inr (2, [.ref sa, .ref ca, .ref sia, .ref cia, .int (Int32.ofInt (tI L F)), .int (nI (nN L)), .int x0, .int y0, .int z0])) :: (sia, .inl (G.2.1.1, 600, .inl SI1)) :: (cia, .inl (G.2.1.1, 600, .inl CI1)) :: (sa, .inl (G.2.1.1, 600, .inl S)) :: (ca, .inl (G.2.1.1, 600, .inl C)) :: (c, .inr (1, [.ref cta, .ref cua, .int (nI (nN L))])) :: (cta, .inl (G.2.1.1, 60, .inl t)) :: (cua, .inl (G.2.1.1, 60, .inl u)) :: r) rfl rfl ?_
          refine J.callV 0 (st := []) B (c_X2_depthFrom l G _ (p := p) (d := m + 1) (f := f) hb (by omega) hat.1 hat.2) ml_X2_52 mf_yX2_depthFrom mi_yX2_depthFrom rfl dX2_search_108 rfl rfl rfl rfl (fun v_7 w_8 hp_9 => ?_)
          obtain ⟨rfl, rfl⟩ := hp_9
          refine J.re [0, 3, 4, 1, 2, 5, 6, 7] 8 (ws2 := (o, .inr (2, [.ref sa, .ref ca, .ref sia, .ref cia, .int (Int32.ofInt (tI L F)), .int (nI (nN L)), .int x0, .int y0, .int z0])) :: (sa, .inl (G.2.1.1, 600, .inl S)) :: (ca, .inl (G.2.1.1, 600, .inl C)) :: (sia, .inl (G.2.1.1, 600, .inl SI1)) :: (cia, .inl (G.2.1.1, 600, .inl CI1)) :: (c, .inr (1, [.ref cta, .ref cua, .int (nI (nN L))])) :: (cta, .inl (G.2.1.1, 60, .inl t)) :: (cua, .inl (G.2.1.1, 60, .inl u)) :: r) rfl rfl ?_
          show J G X mX2_search _ _ _ 111 _ [.long (Int64.ofInt (dpI L F p (m + 1) f))]
          refine J.lstore [1, 2, 3, 4, 5, 6, 0, 7, 8] (lv' := [(0, .ref o), (1, .ref c), (2, .int (nI p)), (3, .int (nI mo)), (4, .int (nI M)), (5, .int (1 : Int32)), (6, .long (Int64.ofInt (dpI L F p (m + 1) f))), (8, .int (nI (m + 1))), (9, .int (nI f))]) dX2_search_111 rfl rfl ?_
          refine J.aload_n 0 dX2_search_113 rfl ?_
          refine J.iload 7 dX2_search_114 rfl ?_
          refine J.iload 8 dX2_search_116 rfl ?_
          refine J.re [0, 4, 1, 2, 3, 5, 6, 7] 8 (ws2 := (o, .inr (2, [.ref sa, .ref ca, .ref sia, .ref cia, .int (Int32.ofInt (tI L F)), .int (nI (nN L)), .int x0, .int y0, .int z0])) :: (cia, .inl (G.2.1.1, 600, .inl CI1)) :: (sa, .inl (G.2.1.1, 600, .inl S)) :: (ca, .inl (G.2.1.1, 600, .inl C)) :: (sia, .inl (G.2.1.1, 600, .inl SI1)) :: (c, .inr (1, [.ref cta, .ref cua, .int (nI (nN L))])) :: (cta, .inl (G.2.1.1, 60, .inl t)) :: (cua, .inl (G.2.1.1, 60, .inl u)) :: r) rfl rfl ?_
          refine J.callV 0 (st := []) B (c_X2_keep l G _ (d := m + 1) (f := f) (cc := cI L p (m + 1) f) (by omega) hat.2) ml_X2_56 mf_yX2_keep mi_yX2_keep rfl dX2_search_118 rfl rfl rfl rfl (fun v_10 w_11 hp_12 => ?_)
          obtain ⟨rfl, rfl⟩ := hp_12
          refine J.re [0, 2, 3, 4, 1, 5, 6, 7] 8 (ws2 := (o, .inr (2, [.ref sa, .ref ca, .ref sia, .ref cia, .int (Int32.ofInt (tI L F)), .int (nI (nN L)), .int (nI (m + 1)), .int (nI f), .int (nI (cI L p (m + 1) f))])) :: (sa, .inl (G.2.1.1, 600, .inl S)) :: (ca, .inl (G.2.1.1, 600, .inl C)) :: (sia, .inl (G.2.1.1, 600, .inl SI1)) :: (cia, .inl (G.2.1.1, 600, .inl CI1)) :: (c, .inr (1, [.ref cta, .ref cua, .int (nI (nN L))])) :: (cta, .inl (G.2.1.1, 60, .inl t)) :: (cua, .inl (G.2.1.1, 60, .inl u)) :: r) rfl rfl ?_
          show J G X mX2_search _ _ _ 121 _ []
          refine J.iinc 8 [1, 2, 3, 4, 5, 6, 7, 8, 0] (lv' := [(0, .ref o), (1, .ref c), (2, .int (nI p)), (3, .int (nI mo)), (4, .int (nI M)), (5, .int (1 : Int32)), (6, .long (Int64.ofInt (dpI L F p (m + 1) f))), (8, .int (nI (m + 1))), (9, .int (nI (f + 1)))]) dX2_search_121 rfl (jinc1 _) rfl rfl ?_
          refine J.goto dX2_search_124 ?_
          exact X2_search_in B hc hb hp hp2 hM hmo hS m hm hK (f + 1) (true, dpI L F p (m + 1) f, m + 1, f, cI L p (m + 1) f) SI1 CI1 (by omega) (by rw [dpN_s, ← hs]; unfold dpG; rw [if_pos ⟨h7.1, h7.2, Or.inl rfl⟩]) hI1
      · skip
        have h8 : ¬ p ≤ ((f + (m + 1)) - 1) := fun z => h8 ((nI_leI (a := p) (b := ((f + (m + 1)) - 1)) (by omega) (by omega)).mpr z)
        refine J.iload 8 dX2_search_54 rfl ?_
        refine J.iload 7 dX2_search_56 rfl ?_
        refine J.iadd dX2_search_58 ?_
        refine J.topi (y := nI (f + (m + 1))) (nI_add f (m + 1)) ?_
        refine J.iconst (1 : Int32) dX2_search_59 rfl ?_
        refine J.isub dX2_search_60 ?_
        refine J.topi (y := nI ((f + (m + 1)) - 1)) (pk_sub (a := f + (m + 1)) (b := 1) (by omega)) ?_
        refine J.goto dX2_search_61 ?_
        refine J.callV 0 (st := []) B (c_X2_widen l G _ (f := f) (h := (f + (m + 1)) - 1) (by omega) (by omega)) ml_X2_44 mf_yX2_widen mi_yX2_widen rfl dX2_search_73 rfl rfl rfl rfl (fun v_13 w_14 hp_15 => ?_)
        obtain ⟨rfl, rfl⟩ := hp_15
        have hI1 := SIC_s (ph := (f + (m + 1)) - 1) hI hS h9 (by omega) hp2 (by split <;> omega)
        generalize upd SI f (SI f + S ((f + (m + 1)) - 1)) = SI1 at hI1 ⊢
        generalize upd CI f (CI f + C ((f + (m + 1)) - 1)) = CI1 at hI1 ⊢
        have hat := SIC_at hI1 h9
        have hcle := cI_le L p (m + 1) f
        show J G X mX2_search ((o, .inr (2, [.ref sa, .ref ca, .ref sia, .ref cia, .int (Int32.ofInt (tI L F)), .int (nI (nN L)), .int x0, .int y0, .int z0])) :: (sa, .inl (G.2.1.1, 600, .inl S)) :: (ca, .inl (G.2.1.1, 600, .inl C)) :: (sia, .inl (G.2.1.1, 600, .inl SI1)) :: (cia, .inl (G.2.1.1, 600, .inl CI1)) :: (c, .inr (1, [.ref cta, .ref cua, .int (nI (nN L))])) :: (cta, .inl (G.2.1.1, 60, .inl t)) :: (cua, .inl (G.2.1.1, 60, .inl u)) :: r) 0 0 76 [(0, .ref o), (1, .ref c), (2, .int (nI p)), (3, .int (nI mo)), (4, .int (nI M)), (5, .int (0 : Int32)), (6, .long (Int64.ofInt g)), (8, .int (nI (m + 1))), (9, .int (nI f))] []
        refine J.aload_n 0 dX2_search_76 rfl ?_
        refine J.iload 8 dX2_search_77 rfl ?_
        refine J.re [0, 4, 1, 2, 3, 5, 6, 7] 8 (ws2 := (o, .inr (2, [.ref sa, .ref ca, .ref sia, .ref cia, .int (Int32.ofInt (tI L F)), .int (nI (nN L)), .int x0, .int y0, .int z0])) :: (cia, .inl (G.2.1.1, 600, .inl CI1)) :: (sa, .inl (G.2.1.1, 600, .inl S)) :: (ca, .inl (G.2.1.1, 600, .inl C)) :: (sia, .inl (G.2.1.1, 600, .inl SI1)) :: (c, .inr (1, [.ref cta, .ref cua, .int (nI (nN L))])) :: (cta, .inl (G.2.1.1, 60, .inl t)) :: (cua, .inl (G.2.1.1, 60, .inl u)) :: r) rfl rfl ?_
        refine J.callV 0 (st := []) B (c_X2_countsHere l G _ (f := f) (cc := cI L p (m + 1) f) (n := nN L) (by omega) hat.2 (by omega) (by omega)) ml_X2_48 mf_yX2_countsHere mi_yX2_countsHere rfl dX2_search_79 rfl rfl rfl rfl (fun v_16 w_17 hp_18 => ?_)
        obtain ⟨rfl, rfl⟩ := hp_18
        refine J.re [0, 2, 3, 4, 1, 5, 6, 7] 8 (ws2 := (o, .inr (2, [.ref sa, .ref ca, .ref sia, .ref cia, .int (Int32.ofInt (tI L F)), .int (nI (nN L)), .int x0, .int y0, .int z0])) :: (sa, .inl (G.2.1.1, 600, .inl S)) :: (ca, .inl (G.2.1.1, 600, .inl C)) :: (sia, .inl (G.2.1.1, 600, .inl SI1)) :: (cia, .inl (G.2.1.1, 600, .inl CI1)) :: (c, .inr (1, [.ref cta, .ref cua, .int (nI (nN L))])) :: (cta, .inl (G.2.1.1, 60, .inl t)) :: (cua, .inl (G.2.1.1, 60, .inl u)) :: r) rfl rfl ?_
        show J G X mX2_search _ _ _ 82 _ [.int (b01 (decide (0 < cI L p (m + 1) f ∧ cI L p (m + 1) f < nN L)))]
        refine J.if_eq dX2_search_82 (fun h7 => ?_) (fun h7 => ?_)
        · skip
          have h7 := of_decide_eq_false (b01_0 h7)
          refine J.iinc 8 [1, 2, 3, 4, 5, 6, 7, 8, 0] (lv' := [(0, .ref o), (1, .ref c), (2, .int (nI p)), (3, .int (nI mo)), (4, .int (nI M)), (5, .int (0 : Int32)), (6, .long (Int64.ofInt g)), (8, .int (nI (m + 1))), (9, .int (nI (f + 1)))]) dX2_search_121 rfl (jinc1 _) rfl rfl ?_
          refine J.goto dX2_search_124 ?_
          exact X2_search_in B hc hb hp hp2 hM hmo hS m hm hK (f + 1) (false, g, x, y, z) SI1 CI1 (by omega) (by rw [dpN_s, ← hs]; unfold dpG; rw [if_neg (fun z => by first | exact h7 ⟨z.1, z.2.1⟩ | exact z.2.2.elim (fun q => by cases q) (fun q => absurd (show g < dpI L F p (m + 1) f from q) (by omega)))]) hI1
        · skip
          have h7 := of_decide_eq_true (b01_1 h7)
          refine J.iload 5 dX2_search_85 rfl ?_
          refine J.if_eq dX2_search_87 (fun _ => ?_) (fun z => absurd z (by decide))
          refine J.iconst (1 : Int32) dX2_search_102 rfl ?_
          refine J.istore [1, 2, 3, 4, 5, 0, 6, 7, 8] (lv' := [(0, .ref o), (1, .ref c), (2, .int (nI p)), (3, .int (nI mo)), (4, .int (nI M)), (5, .int (1 : Int32)), (6, .long (Int64.ofInt g)), (8, .int (nI (m + 1))), (9, .int (nI f))]) dX2_search_103 rfl rfl ?_
          refine J.aload_n 0 dX2_search_105 rfl ?_
          refine J.iload 8 dX2_search_106 rfl ?_
          refine J.re [0, 3, 4, 1, 2, 5, 6, 7] 8 (ws2 := (o, .inr (2, [.ref sa, .ref ca, .ref sia, .ref cia, .int (Int32.ofInt (tI L F)), .int (nI (nN L)), .int x0, .int y0, .int z0])) :: (sia, .inl (G.2.1.1, 600, .inl SI1)) :: (cia, .inl (G.2.1.1, 600, .inl CI1)) :: (sa, .inl (G.2.1.1, 600, .inl S)) :: (ca, .inl (G.2.1.1, 600, .inl C)) :: (c, .inr (1, [.ref cta, .ref cua, .int (nI (nN L))])) :: (cta, .inl (G.2.1.1, 60, .inl t)) :: (cua, .inl (G.2.1.1, 60, .inl u)) :: r) rfl rfl ?_
          refine J.callV 0 (st := []) B (c_X2_depthFrom l G _ (p := p) (d := m + 1) (f := f) hb (by omega) hat.1 hat.2) ml_X2_52 mf_yX2_depthFrom mi_yX2_depthFrom rfl dX2_search_108 rfl rfl rfl rfl (fun v_19 w_20 hp_21 => ?_)
          obtain ⟨rfl, rfl⟩ := hp_21
          refine J.re [0, 3, 4, 1, 2, 5, 6, 7] 8 (ws2 := (o, .inr (2, [.ref sa, .ref ca, .ref sia, .ref cia, .int (Int32.ofInt (tI L F)), .int (nI (nN L)), .int x0, .int y0, .int z0])) :: (sa, .inl (G.2.1.1, 600, .inl S)) :: (ca, .inl (G.2.1.1, 600, .inl C)) :: (sia, .inl (G.2.1.1, 600, .inl SI1)) :: (cia, .inl (G.2.1.1, 600, .inl CI1)) :: (c, .inr (1, [.ref cta, .ref cua, .int (nI (nN L))])) :: (cta, .inl (G.2.1.1, 60, .inl t)) :: (cua, .inl (G.2.1.1, 60, .inl u)) :: r) rfl rfl ?_
          show J G X mX2_search _ _ _ 111 _ [.long (Int64.ofInt (dpI L F p (m + 1) f))]
          refine J.lstore [1, 2, 3, 4, 5, 6, 0, 7, 8] (lv' := [(0, .ref o), (1, .ref c), (2, .int (nI p)), (3, .int (nI mo)), (4, .int (nI M)), (5, .int (1 : Int32)), (6, .long (Int64.ofInt (dpI L F p (m + 1) f))), (8, .int (nI (m + 1))), (9, .int (nI f))]) dX2_search_111 rfl rfl ?_
          refine J.aload_n 0 dX2_search_113 rfl ?_
          refine J.iload 7 dX2_search_114 rfl ?_
          refine J.iload 8 dX2_search_116 rfl ?_
          refine J.re [0, 4, 1, 2, 3, 5, 6, 7] 8 (ws2 := (o, .inr (2, [.ref sa, .ref ca, .ref sia, .ref cia, .int (Int32.ofInt (tI L F)), .int (nI (nN L)), .int x0, .int y0, .int z0])) :: (cia, .inl (G.2.1.1, 600, .inl CI1)) :: (sa, .inl (G.2.1.1, 600, .inl S)) :: (ca, .inl (G.2.1.1, 600, .inl C)) :: (sia, .inl (G.2.1.1, 600, .inl SI1)) :: (c, .inr (1, [.ref cta, .ref cua, .int (nI (nN L))])) :: (cta, .inl (G.2.1.1, 60, .inl t)) :: (cua, .inl (G.2.1.1, 60, .inl u)) :: r) rfl rfl ?_
          refine J.callV 0 (st := []) B (c_X2_keep l G _ (d := m + 1) (f := f) (cc := cI L p (m + 1) f) (by omega) hat.2) ml_X2_56 mf_yX2_keep mi_yX2_keep rfl dX2_search_118 rfl rfl rfl rfl (fun v_22 w_23 hp_24 => ?_)
          obtain ⟨rfl, rfl⟩ := hp_24
          refine J.re [0, 2, 3, 4, 1, 5, 6, 7] 8 (ws2 := (o, .inr (2, [.ref sa, .ref ca, .ref sia, .ref cia, .int (Int32.ofInt (tI L F)), .int (nI (nN L)), .int (nI (m + 1)), .int (nI f), .int (nI (cI L p (m + 1) f))])) :: (sa, .inl (G.2.1.1, 600, .inl S)) :: (ca, .inl (G.2.1.1, 600, .inl C)) :: (sia, .inl (G.2.1.1, 600, .inl SI1)) :: (cia, .inl (G.2.1.1, 600, .inl CI1)) :: (c, .inr (1, [.ref cta, .ref cua, .int (nI (nN L))])) :: (cta, .inl (G.2.1.1, 60, .inl t)) :: (cua, .inl (G.2.1.1, 60, .inl u)) :: r) rfl rfl ?_
          show J G X mX2_search _ _ _ 121 _ []
          refine J.iinc 8 [1, 2, 3, 4, 5, 6, 7, 8, 0] (lv' := [(0, .ref o), (1, .ref c), (2, .int (nI p)), (3, .int (nI mo)), (4, .int (nI M)), (5, .int (1 : Int32)), (6, .long (Int64.ofInt (dpI L F p (m + 1) f))), (8, .int (nI (m + 1))), (9, .int (nI (f + 1)))]) dX2_search_121 rfl (jinc1 _) rfl rfl ?_
          refine J.goto dX2_search_124 ?_
          exact X2_search_in B hc hb hp hp2 hM hmo hS m hm hK (f + 1) (true, dpI L F p (m + 1) f, m + 1, f, cI L p (m + 1) f) SI1 CI1 (by omega) (by rw [dpN_s, ← hs]; unfold dpG; rw [if_pos ⟨h7.1, h7.2, Or.inl rfl⟩]) hI1
  | true =>
    have hgb : -1000000000 ≤ g ∧ g ≤ 1000000000 := hgb
    show J G X mX2_search ((o, .inr (2, [.ref sa, .ref ca, .ref sia, .ref cia, .int (Int32.ofInt (tI L F)), .int (nI (nN L)), .int (nI x), .int (nI y), .int (nI z)])) :: (sa, .inl (G.2.1.1, 600, .inl S)) :: (ca, .inl (G.2.1.1, 600, .inl C)) :: (sia, .inl (G.2.1.1, 600, .inl SI)) :: (cia, .inl (G.2.1.1, 600, .inl CI)) :: (c, .inr (1, [.ref cta, .ref cua, .int (nI (nN L))])) :: (cta, .inl (G.2.1.1, 60, .inl t)) :: (cua, .inl (G.2.1.1, 60, .inl u)) :: r) 0 0 34 [(0, .ref o), (1, .ref c), (2, .int (nI p)), (3, .int (nI mo)), (4, .int (nI M)), (5, .int (1 : Int32)), (6, .long (Int64.ofInt g)), (8, .int (nI (m + 1))), (9, .int (nI f))] []
    refine J.iload 8 dX2_search_34 rfl ?_
    refine J.iload_n 2 dX2_search_36 rfl ?_
    refine J.icmp_ge dX2_search_37 (fun h9 => ?_) (fun h9 => ?_)
    · skip
      have h9 : p ≤ f := (nI_leI (a := p) (b := f) (by omega) (by omega)).mp h9
      have e : p = f := by omega
      subst e
      refine J.loc [0, 1, 2, 3, 4, 5, 6, 7] (lv' := [(0, .ref o), (1, .ref c), (2, .int (nI p)), (3, .int (nI mo)), (4, .int (nI M)), (5, .int (1 : Int32)), (6, .long (Int64.ofInt g)), (8, .int (nI (m + 1)))]) rfl ?_
      exact hK (true, g, x, y, z) SI CI hs hI
    · skip
      have h9 : ¬ p ≤ f := fun z => h9 ((nI_leI (a := p) (b := f) (by omega) (by omega)).mpr z)
      have h9 : f < p := by omega
      refine J.aload_n 0 dX2_search_40 rfl ?_
      refine J.iload 8 dX2_search_41 rfl ?_
      refine J.iload 8 dX2_search_43 rfl ?_
      refine J.iload 7 dX2_search_45 rfl ?_
      refine J.iadd dX2_search_47 ?_
      refine J.topi (y := nI (f + (m + 1))) (nI_add f (m + 1)) ?_
      refine J.iconst (1 : Int32) dX2_search_48 rfl ?_
      refine J.isub dX2_search_49 ?_
      refine J.topi (y := nI ((f + (m + 1)) - 1)) (pk_sub (a := f + (m + 1)) (b := 1) (by omega)) ?_
      refine J.iload_n 2 dX2_search_50 rfl ?_
      refine J.icmp_ge dX2_search_51 (fun h8 => ?_) (fun h8 => ?_)
      · skip
        have h8 : p ≤ ((f + (m + 1)) - 1) := (nI_leI (a := p) (b := ((f + (m + 1)) - 1)) (by omega) (by omega)).mp h8
        refine J.iload 8 dX2_search_64 rfl ?_
        refine J.iload 7 dX2_search_66 rfl ?_
        refine J.iadd dX2_search_68 ?_
        refine J.topi (y := nI (f + (m + 1))) (nI_add f (m + 1)) ?_
        refine J.iconst (1 : Int32) dX2_search_69 rfl ?_
        refine J.isub dX2_search_70 ?_
        refine J.topi (y := nI ((f + (m + 1)) - 1)) (pk_sub (a := f + (m + 1)) (b := 1) (by omega)) ?_
        refine J.iload_n 2 dX2_search_71 rfl ?_
        refine J.isub dX2_search_72 ?_
        refine J.topi (y := nI (((f + (m + 1)) - 1) - p)) (pk_sub (a := (f + (m + 1)) - 1) (b := p) (by omega)) ?_
        refine J.callV 0 (st := []) B (c_X2_widen l G _ (f := f) (h := ((f + (m + 1)) - 1) - p) (by omega) (by omega)) ml_X2_44 mf_yX2_widen mi_yX2_widen rfl dX2_search_73 rfl rfl rfl rfl (fun v_1 w_2 hp_3 => ?_)
        obtain ⟨rfl, rfl⟩ := hp_3
        have hI1 := SIC_s (ph := ((f + (m + 1)) - 1) - p) hI hS h9 (by omega) hp2 (by split <;> omega)
        generalize upd SI f (SI f + S (((f + (m + 1)) - 1) - p)) = SI1 at hI1 ⊢
        generalize upd CI f (CI f + C (((f + (m + 1)) - 1) - p)) = CI1 at hI1 ⊢
        have hat := SIC_at hI1 h9
        have hcle := cI_le L p (m + 1) f
        show J G X mX2_search ((o, .inr (2, [.ref sa, .ref ca, .ref sia, .ref cia, .int (Int32.ofInt (tI L F)), .int (nI (nN L)), .int (nI x), .int (nI y), .int (nI z)])) :: (sa, .inl (G.2.1.1, 600, .inl S)) :: (ca, .inl (G.2.1.1, 600, .inl C)) :: (sia, .inl (G.2.1.1, 600, .inl SI1)) :: (cia, .inl (G.2.1.1, 600, .inl CI1)) :: (c, .inr (1, [.ref cta, .ref cua, .int (nI (nN L))])) :: (cta, .inl (G.2.1.1, 60, .inl t)) :: (cua, .inl (G.2.1.1, 60, .inl u)) :: r) 0 0 76 [(0, .ref o), (1, .ref c), (2, .int (nI p)), (3, .int (nI mo)), (4, .int (nI M)), (5, .int (1 : Int32)), (6, .long (Int64.ofInt g)), (8, .int (nI (m + 1))), (9, .int (nI f))] []
        refine J.aload_n 0 dX2_search_76 rfl ?_
        refine J.iload 8 dX2_search_77 rfl ?_
        refine J.re [0, 4, 1, 2, 3, 5, 6, 7] 8 (ws2 := (o, .inr (2, [.ref sa, .ref ca, .ref sia, .ref cia, .int (Int32.ofInt (tI L F)), .int (nI (nN L)), .int (nI x), .int (nI y), .int (nI z)])) :: (cia, .inl (G.2.1.1, 600, .inl CI1)) :: (sa, .inl (G.2.1.1, 600, .inl S)) :: (ca, .inl (G.2.1.1, 600, .inl C)) :: (sia, .inl (G.2.1.1, 600, .inl SI1)) :: (c, .inr (1, [.ref cta, .ref cua, .int (nI (nN L))])) :: (cta, .inl (G.2.1.1, 60, .inl t)) :: (cua, .inl (G.2.1.1, 60, .inl u)) :: r) rfl rfl ?_
        refine J.callV 0 (st := []) B (c_X2_countsHere l G _ (f := f) (cc := cI L p (m + 1) f) (n := nN L) (by omega) hat.2 (by omega) (by omega)) ml_X2_48 mf_yX2_countsHere mi_yX2_countsHere rfl dX2_search_79 rfl rfl rfl rfl (fun v_4 w_5 hp_6 => ?_)
        obtain ⟨rfl, rfl⟩ := hp_6
        refine J.re [0, 2, 3, 4, 1, 5, 6, 7] 8 (ws2 := (o, .inr (2, [.ref sa, .ref ca, .ref sia, .ref cia, .int (Int32.ofInt (tI L F)), .int (nI (nN L)), .int (nI x), .int (nI y), .int (nI z)])) :: (sa, .inl (G.2.1.1, 600, .inl S)) :: (ca, .inl (G.2.1.1, 600, .inl C)) :: (sia, .inl (G.2.1.1, 600, .inl SI1)) :: (cia, .inl (G.2.1.1, 600, .inl CI1)) :: (c, .inr (1, [.ref cta, .ref cua, .int (nI (nN L))])) :: (cta, .inl (G.2.1.1, 60, .inl t)) :: (cua, .inl (G.2.1.1, 60, .inl u)) :: r) rfl rfl ?_
        show J G X mX2_search _ _ _ 82 _ [.int (b01 (decide (0 < cI L p (m + 1) f ∧ cI L p (m + 1) f < nN L)))]
        refine J.if_eq dX2_search_82 (fun h7 => ?_) (fun h7 => ?_)
        · skip
          have h7 := of_decide_eq_false (b01_0 h7)
          refine J.iinc 8 [1, 2, 3, 4, 5, 6, 7, 8, 0] (lv' := [(0, .ref o), (1, .ref c), (2, .int (nI p)), (3, .int (nI mo)), (4, .int (nI M)), (5, .int (1 : Int32)), (6, .long (Int64.ofInt g)), (8, .int (nI (m + 1))), (9, .int (nI (f + 1)))]) dX2_search_121 rfl (jinc1 _) rfl rfl ?_
          refine J.goto dX2_search_124 ?_
          exact X2_search_in B hc hb hp hp2 hM hmo hS m hm hK (f + 1) (true, g, x, y, z) SI1 CI1 (by omega) (by rw [dpN_s, ← hs]; unfold dpG; rw [if_neg (fun z => by first | exact h7 ⟨z.1, z.2.1⟩ | exact z.2.2.elim (fun q => by cases q) (fun q => absurd (show g < dpI L F p (m + 1) f from q) (by omega)))]) hI1
        · skip
          have h7 := of_decide_eq_true (b01_1 h7)
          refine J.iload 5 dX2_search_85 rfl ?_
          refine J.if_eq dX2_search_87 (fun z => absurd z (by decide)) (fun _ => ?_)
          refine J.aload_n 0 dX2_search_90 rfl ?_
          refine J.iload 8 dX2_search_91 rfl ?_
          refine J.re [0, 3, 4, 1, 2, 5, 6, 7] 8 (ws2 := (o, .inr (2, [.ref sa, .ref ca, .ref sia, .ref cia, .int (Int32.ofInt (tI L F)), .int (nI (nN L)), .int (nI x), .int (nI y), .int (nI z)])) :: (sia, .inl (G.2.1.1, 600, .inl SI1)) :: (cia, .inl (G.2.1.1, 600, .inl CI1)) :: (sa, .inl (G.2.1.1, 600, .inl S)) :: (ca, .inl (G.2.1.1, 600, .inl C)) :: (c, .inr (1, [.ref cta, .ref cua, .int (nI (nN L))])) :: (cta, .inl (G.2.1.1, 60, .inl t)) :: (cua, .inl (G.2.1.1, 60, .inl u)) :: r) rfl rfl ?_
          refine J.callV 0 (st := []) B (c_X2_depthFrom l G _ (p := p) (d := m + 1) (f := f) hb (by omega) hat.1 hat.2) ml_X2_52 mf_yX2_depthFrom mi_yX2_depthFrom rfl dX2_search_93 rfl rfl rfl rfl (fun v_7 w_8 hp_9 => ?_)
          obtain ⟨rfl, rfl⟩ := hp_9
          refine J.re [0, 3, 4, 1, 2, 5, 6, 7] 8 (ws2 := (o, .inr (2, [.ref sa, .ref ca, .ref sia, .ref cia, .int (Int32.ofInt (tI L F)), .int (nI (nN L)), .int (nI x), .int (nI y), .int (nI z)])) :: (sa, .inl (G.2.1.1, 600, .inl S)) :: (ca, .inl (G.2.1.1, 600, .inl C)) :: (sia, .inl (G.2.1.1, 600, .inl SI1)) :: (cia, .inl (G.2.1.1, 600, .inl CI1)) :: (c, .inr (1, [.ref cta, .ref cua, .int (nI (nN L))])) :: (cta, .inl (G.2.1.1, 60, .inl t)) :: (cua, .inl (G.2.1.1, 60, .inl u)) :: r) rfl rfl ?_
          show J G X mX2_search _ _ _ 96 _ [.long (Int64.ofInt (dpI L F p (m + 1) f))]
          refine J.lload 6 dX2_search_96 rfl ?_
          refine J.lcmp dX2_search_98 ?_
          refine J.if_le dX2_search_99 (fun h6 => ?_) (fun h6 => ?_)
          · skip
            have h6 := jc_le_t h6
            rw [dep_le (dpI_bd hb p (m + 1) f) hgb] at h6
            refine J.iinc 8 [1, 2, 3, 4, 5, 6, 7, 8, 0] (lv' := [(0, .ref o), (1, .ref c), (2, .int (nI p)), (3, .int (nI mo)), (4, .int (nI M)), (5, .int (1 : Int32)), (6, .long (Int64.ofInt g)), (8, .int (nI (m + 1))), (9, .int (nI (f + 1)))]) dX2_search_121 rfl (jinc1 _) rfl rfl ?_
            refine J.goto dX2_search_124 ?_
            exact X2_search_in B hc hb hp hp2 hM hmo hS m hm hK (f + 1) (true, g, x, y, z) SI1 CI1 (by omega) (by rw [dpN_s, ← hs]; unfold dpG; rw [if_neg (fun z => by first | exact h7 ⟨z.1, z.2.1⟩ | exact z.2.2.elim (fun q => by cases q) (fun q => absurd (show g < dpI L F p (m + 1) f from q) (by omega)))]) hI1
          · skip
            have h6 := jc_le_f h6
            rw [dep_le (dpI_bd hb p (m + 1) f) hgb] at h6
            refine J.iconst (1 : Int32) dX2_search_102 rfl ?_
            refine J.istore [1, 2, 3, 4, 5, 0, 6, 7, 8] (lv' := [(0, .ref o), (1, .ref c), (2, .int (nI p)), (3, .int (nI mo)), (4, .int (nI M)), (5, .int (1 : Int32)), (6, .long (Int64.ofInt g)), (8, .int (nI (m + 1))), (9, .int (nI f))]) dX2_search_103 rfl rfl ?_
            refine J.aload_n 0 dX2_search_105 rfl ?_
            refine J.iload 8 dX2_search_106 rfl ?_
            refine J.re [0, 3, 4, 1, 2, 5, 6, 7] 8 (ws2 := (o, .inr (2, [.ref sa, .ref ca, .ref sia, .ref cia, .int (Int32.ofInt (tI L F)), .int (nI (nN L)), .int (nI x), .int (nI y), .int (nI z)])) :: (sia, .inl (G.2.1.1, 600, .inl SI1)) :: (cia, .inl (G.2.1.1, 600, .inl CI1)) :: (sa, .inl (G.2.1.1, 600, .inl S)) :: (ca, .inl (G.2.1.1, 600, .inl C)) :: (c, .inr (1, [.ref cta, .ref cua, .int (nI (nN L))])) :: (cta, .inl (G.2.1.1, 60, .inl t)) :: (cua, .inl (G.2.1.1, 60, .inl u)) :: r) rfl rfl ?_
            refine J.callV 0 (st := []) B (c_X2_depthFrom l G _ (p := p) (d := m + 1) (f := f) hb (by omega) hat.1 hat.2) ml_X2_52 mf_yX2_depthFrom mi_yX2_depthFrom rfl dX2_search_108 rfl rfl rfl rfl (fun v_10 w_11 hp_12 => ?_)
            obtain ⟨rfl, rfl⟩ := hp_12
            refine J.re [0, 3, 4, 1, 2, 5, 6, 7] 8 (ws2 := (o, .inr (2, [.ref sa, .ref ca, .ref sia, .ref cia, .int (Int32.ofInt (tI L F)), .int (nI (nN L)), .int (nI x), .int (nI y), .int (nI z)])) :: (sa, .inl (G.2.1.1, 600, .inl S)) :: (ca, .inl (G.2.1.1, 600, .inl C)) :: (sia, .inl (G.2.1.1, 600, .inl SI1)) :: (cia, .inl (G.2.1.1, 600, .inl CI1)) :: (c, .inr (1, [.ref cta, .ref cua, .int (nI (nN L))])) :: (cta, .inl (G.2.1.1, 60, .inl t)) :: (cua, .inl (G.2.1.1, 60, .inl u)) :: r) rfl rfl ?_
            show J G X mX2_search _ _ _ 111 _ [.long (Int64.ofInt (dpI L F p (m + 1) f))]
            refine J.lstore [1, 2, 3, 4, 5, 6, 0, 7, 8] (lv' := [(0, .ref o), (1, .ref c), (2, .int (nI p)), (3, .int (nI mo)), (4, .int (nI M)), (5, .int (1 : Int32)), (6, .long (Int64.ofInt (dpI L F p (m + 1) f))), (8, .int (nI (m + 1))), (9, .int (nI f))]) dX2_search_111 rfl rfl ?_
            refine J.aload_n 0 dX2_search_113 rfl ?_
            refine J.iload 7 dX2_search_114 rfl ?_
            refine J.iload 8 dX2_search_116 rfl ?_
            refine J.re [0, 4, 1, 2, 3, 5, 6, 7] 8 (ws2 := (o, .inr (2, [.ref sa, .ref ca, .ref sia, .ref cia, .int (Int32.ofInt (tI L F)), .int (nI (nN L)), .int (nI x), .int (nI y), .int (nI z)])) :: (cia, .inl (G.2.1.1, 600, .inl CI1)) :: (sa, .inl (G.2.1.1, 600, .inl S)) :: (ca, .inl (G.2.1.1, 600, .inl C)) :: (sia, .inl (G.2.1.1, 600, .inl SI1)) :: (c, .inr (1, [.ref cta, .ref cua, .int (nI (nN L))])) :: (cta, .inl (G.2.1.1, 60, .inl t)) :: (cua, .inl (G.2.1.1, 60, .inl u)) :: r) rfl rfl ?_
            refine J.callV 0 (st := []) B (c_X2_keep l G _ (d := m + 1) (f := f) (cc := cI L p (m + 1) f) (by omega) hat.2) ml_X2_56 mf_yX2_keep mi_yX2_keep rfl dX2_search_118 rfl rfl rfl rfl (fun v_13 w_14 hp_15 => ?_)
            obtain ⟨rfl, rfl⟩ := hp_15
            refine J.re [0, 2, 3, 4, 1, 5, 6, 7] 8 (ws2 := (o, .inr (2, [.ref sa, .ref ca, .ref sia, .ref cia, .int (Int32.ofInt (tI L F)), .int (nI (nN L)), .int (nI (m + 1)), .int (nI f), .int (nI (cI L p (m + 1) f))])) :: (sa, .inl (G.2.1.1, 600, .inl S)) :: (ca, .inl (G.2.1.1, 600, .inl C)) :: (sia, .inl (G.2.1.1, 600, .inl SI1)) :: (cia, .inl (G.2.1.1, 600, .inl CI1)) :: (c, .inr (1, [.ref cta, .ref cua, .int (nI (nN L))])) :: (cta, .inl (G.2.1.1, 60, .inl t)) :: (cua, .inl (G.2.1.1, 60, .inl u)) :: r) rfl rfl ?_
            show J G X mX2_search _ _ _ 121 _ []
            refine J.iinc 8 [1, 2, 3, 4, 5, 6, 7, 8, 0] (lv' := [(0, .ref o), (1, .ref c), (2, .int (nI p)), (3, .int (nI mo)), (4, .int (nI M)), (5, .int (1 : Int32)), (6, .long (Int64.ofInt (dpI L F p (m + 1) f))), (8, .int (nI (m + 1))), (9, .int (nI (f + 1)))]) dX2_search_121 rfl (jinc1 _) rfl rfl ?_
            refine J.goto dX2_search_124 ?_
            exact X2_search_in B hc hb hp hp2 hM hmo hS m hm hK (f + 1) (true, dpI L F p (m + 1) f, m + 1, f, cI L p (m + 1) f) SI1 CI1 (by omega) (by rw [dpN_s, ← hs]; unfold dpG; rw [if_pos ⟨h7.1, h7.2, Or.inr (show g < dpI L F p (m + 1) f by omega)⟩]) hI1
      · skip
        have h8 : ¬ p ≤ ((f + (m + 1)) - 1) := fun z => h8 ((nI_leI (a := p) (b := ((f + (m + 1)) - 1)) (by omega) (by omega)).mpr z)
        refine J.iload 8 dX2_search_54 rfl ?_
        refine J.iload 7 dX2_search_56 rfl ?_
        refine J.iadd dX2_search_58 ?_
        refine J.topi (y := nI (f + (m + 1))) (nI_add f (m + 1)) ?_
        refine J.iconst (1 : Int32) dX2_search_59 rfl ?_
        refine J.isub dX2_search_60 ?_
        refine J.topi (y := nI ((f + (m + 1)) - 1)) (pk_sub (a := f + (m + 1)) (b := 1) (by omega)) ?_
        refine J.goto dX2_search_61 ?_
        refine J.callV 0 (st := []) B (c_X2_widen l G _ (f := f) (h := (f + (m + 1)) - 1) (by omega) (by omega)) ml_X2_44 mf_yX2_widen mi_yX2_widen rfl dX2_search_73 rfl rfl rfl rfl (fun v_16 w_17 hp_18 => ?_)
        obtain ⟨rfl, rfl⟩ := hp_18
        have hI1 := SIC_s (ph := (f + (m + 1)) - 1) hI hS h9 (by omega) hp2 (by split <;> omega)
        generalize upd SI f (SI f + S ((f + (m + 1)) - 1)) = SI1 at hI1 ⊢
        generalize upd CI f (CI f + C ((f + (m + 1)) - 1)) = CI1 at hI1 ⊢
        have hat := SIC_at hI1 h9
        have hcle := cI_le L p (m + 1) f
        show J G X mX2_search ((o, .inr (2, [.ref sa, .ref ca, .ref sia, .ref cia, .int (Int32.ofInt (tI L F)), .int (nI (nN L)), .int (nI x), .int (nI y), .int (nI z)])) :: (sa, .inl (G.2.1.1, 600, .inl S)) :: (ca, .inl (G.2.1.1, 600, .inl C)) :: (sia, .inl (G.2.1.1, 600, .inl SI1)) :: (cia, .inl (G.2.1.1, 600, .inl CI1)) :: (c, .inr (1, [.ref cta, .ref cua, .int (nI (nN L))])) :: (cta, .inl (G.2.1.1, 60, .inl t)) :: (cua, .inl (G.2.1.1, 60, .inl u)) :: r) 0 0 76 [(0, .ref o), (1, .ref c), (2, .int (nI p)), (3, .int (nI mo)), (4, .int (nI M)), (5, .int (1 : Int32)), (6, .long (Int64.ofInt g)), (8, .int (nI (m + 1))), (9, .int (nI f))] []
        refine J.aload_n 0 dX2_search_76 rfl ?_
        refine J.iload 8 dX2_search_77 rfl ?_
        refine J.re [0, 4, 1, 2, 3, 5, 6, 7] 8 (ws2 := (o, .inr (2, [.ref sa, .ref ca, .ref sia, .ref cia, .int (Int32.ofInt (tI L F)), .int (nI (nN L)), .int (nI x), .int (nI y), .int (nI z)])) :: (cia, .inl (G.2.1.1, 600, .inl CI1)) :: (sa, .inl (G.2.1.1, 600, .inl S)) :: (ca, .inl (G.2.1.1, 600, .inl C)) :: (sia, .inl (G.2.1.1, 600, .inl SI1)) :: (c, .inr (1, [.ref cta, .ref cua, .int (nI (nN L))])) :: (cta, .inl (G.2.1.1, 60, .inl t)) :: (cua, .inl (G.2.1.1, 60, .inl u)) :: r) rfl rfl ?_
        refine J.callV 0 (st := []) B (c_X2_countsHere l G _ (f := f) (cc := cI L p (m + 1) f) (n := nN L) (by omega) hat.2 (by omega) (by omega)) ml_X2_48 mf_yX2_countsHere mi_yX2_countsHere rfl dX2_search_79 rfl rfl rfl rfl (fun v_19 w_20 hp_21 => ?_)
        obtain ⟨rfl, rfl⟩ := hp_21
        refine J.re [0, 2, 3, 4, 1, 5, 6, 7] 8 (ws2 := (o, .inr (2, [.ref sa, .ref ca, .ref sia, .ref cia, .int (Int32.ofInt (tI L F)), .int (nI (nN L)), .int (nI x), .int (nI y), .int (nI z)])) :: (sa, .inl (G.2.1.1, 600, .inl S)) :: (ca, .inl (G.2.1.1, 600, .inl C)) :: (sia, .inl (G.2.1.1, 600, .inl SI1)) :: (cia, .inl (G.2.1.1, 600, .inl CI1)) :: (c, .inr (1, [.ref cta, .ref cua, .int (nI (nN L))])) :: (cta, .inl (G.2.1.1, 60, .inl t)) :: (cua, .inl (G.2.1.1, 60, .inl u)) :: r) rfl rfl ?_
        show J G X mX2_search _ _ _ 82 _ [.int (b01 (decide (0 < cI L p (m + 1) f ∧ cI L p (m + 1) f < nN L)))]
        refine J.if_eq dX2_search_82 (fun h7 => ?_) (fun h7 => ?_)
        · skip
          have h7 := of_decide_eq_false (b01_0 h7)
          refine J.iinc 8 [1, 2, 3, 4, 5, 6, 7, 8, 0] (lv' := [(0, .ref o), (1, .ref c), (2, .int (nI p)), (3, .int (nI mo)), (4, .int (nI M)), (5, .int (1 : Int32)), (6, .long (Int64.ofInt g)), (8, .int (nI (m + 1))), (9, .int (nI (f + 1)))]) dX2_search_121 rfl (jinc1 _) rfl rfl ?_
          refine J.goto dX2_search_124 ?_
          exact X2_search_in B hc hb hp hp2 hM hmo hS m hm hK (f + 1) (true, g, x, y, z) SI1 CI1 (by omega) (by rw [dpN_s, ← hs]; unfold dpG; rw [if_neg (fun z => by first | exact h7 ⟨z.1, z.2.1⟩ | exact z.2.2.elim (fun q => by cases q) (fun q => absurd (show g < dpI L F p (m + 1) f from q) (by omega)))]) hI1
        · skip
          have h7 := of_decide_eq_true (b01_1 h7)
          refine J.iload 5 dX2_search_85 rfl ?_
          refine J.if_eq dX2_search_87 (fun z => absurd z (by decide)) (fun _ => ?_)
          refine J.aload_n 0 dX2_search_90 rfl ?_
          refine J.iload 8 dX2_search_91 rfl ?_
          refine J.re [0, 3, 4, 1, 2, 5, 6, 7] 8 (ws2 := (o, .inr (2, [.ref sa, .ref ca, .ref sia, .ref cia, .int (Int32.ofInt (tI L F)), .int (nI (nN L)), .int (nI x), .int (nI y), .int (nI z)])) :: (sia, .inl (G.2.1.1, 600, .inl SI1)) :: (cia, .inl (G.2.1.1, 600, .inl CI1)) :: (sa, .inl (G.2.1.1, 600, .inl S)) :: (ca, .inl (G.2.1.1, 600, .inl C)) :: (c, .inr (1, [.ref cta, .ref cua, .int (nI (nN L))])) :: (cta, .inl (G.2.1.1, 60, .inl t)) :: (cua, .inl (G.2.1.1, 60, .inl u)) :: r) rfl rfl ?_
          refine J.callV 0 (st := []) B (c_X2_depthFrom l G _ (p := p) (d := m + 1) (f := f) hb (by omega) hat.1 hat.2) ml_X2_52 mf_yX2_depthFrom mi_yX2_depthFrom rfl dX2_search_93 rfl rfl rfl rfl (fun v_22 w_23 hp_24 => ?_)
          obtain ⟨rfl, rfl⟩ := hp_24
          refine J.re [0, 3, 4, 1, 2, 5, 6, 7] 8 (ws2 := (o, .inr (2, [.ref sa, .ref ca, .ref sia, .ref cia, .int (Int32.ofInt (tI L F)), .int (nI (nN L)), .int (nI x), .int (nI y), .int (nI z)])) :: (sa, .inl (G.2.1.1, 600, .inl S)) :: (ca, .inl (G.2.1.1, 600, .inl C)) :: (sia, .inl (G.2.1.1, 600, .inl SI1)) :: (cia, .inl (G.2.1.1, 600, .inl CI1)) :: (c, .inr (1, [.ref cta, .ref cua, .int (nI (nN L))])) :: (cta, .inl (G.2.1.1, 60, .inl t)) :: (cua, .inl (G.2.1.1, 60, .inl u)) :: r) rfl rfl ?_
          show J G X mX2_search _ _ _ 96 _ [.long (Int64.ofInt (dpI L F p (m + 1) f))]
          refine J.lload 6 dX2_search_96 rfl ?_
          refine J.lcmp dX2_search_98 ?_
          refine J.if_le dX2_search_99 (fun h6 => ?_) (fun h6 => ?_)
          · skip
            have h6 := jc_le_t h6
            rw [dep_le (dpI_bd hb p (m + 1) f) hgb] at h6
            refine J.iinc 8 [1, 2, 3, 4, 5, 6, 7, 8, 0] (lv' := [(0, .ref o), (1, .ref c), (2, .int (nI p)), (3, .int (nI mo)), (4, .int (nI M)), (5, .int (1 : Int32)), (6, .long (Int64.ofInt g)), (8, .int (nI (m + 1))), (9, .int (nI (f + 1)))]) dX2_search_121 rfl (jinc1 _) rfl rfl ?_
            refine J.goto dX2_search_124 ?_
            exact X2_search_in B hc hb hp hp2 hM hmo hS m hm hK (f + 1) (true, g, x, y, z) SI1 CI1 (by omega) (by rw [dpN_s, ← hs]; unfold dpG; rw [if_neg (fun z => by first | exact h7 ⟨z.1, z.2.1⟩ | exact z.2.2.elim (fun q => by cases q) (fun q => absurd (show g < dpI L F p (m + 1) f from q) (by omega)))]) hI1
          · skip
            have h6 := jc_le_f h6
            rw [dep_le (dpI_bd hb p (m + 1) f) hgb] at h6
            refine J.iconst (1 : Int32) dX2_search_102 rfl ?_
            refine J.istore [1, 2, 3, 4, 5, 0, 6, 7, 8] (lv' := [(0, .ref o), (1, .ref c), (2, .int (nI p)), (3, .int (nI mo)), (4, .int (nI M)), (5, .int (1 : Int32)), (6, .long (Int64.ofInt g)), (8, .int (nI (m + 1))), (9, .int (nI f))]) dX2_search_103 rfl rfl ?_
            refine J.aload_n 0 dX2_search_105 rfl ?_
            refine J.iload 8 dX2_search_106 rfl ?_
            refine J.re [0, 3, 4, 1, 2, 5, 6, 7] 8 (ws2 := (o, .inr (2, [.ref sa, .ref ca, .ref sia, .ref cia, .int (Int32.ofInt (tI L F)), .int (nI (nN L)), .int (nI x), .int (nI y), .int (nI z)])) :: (sia, .inl (G.2.1.1, 600, .inl SI1)) :: (cia, .inl (G.2.1.1, 600, .inl CI1)) :: (sa, .inl (G.2.1.1, 600, .inl S)) :: (ca, .inl (G.2.1.1, 600, .inl C)) :: (c, .inr (1, [.ref cta, .ref cua, .int (nI (nN L))])) :: (cta, .inl (G.2.1.1, 60, .inl t)) :: (cua, .inl (G.2.1.1, 60, .inl u)) :: r) rfl rfl ?_
            refine J.callV 0 (st := []) B (c_X2_depthFrom l G _ (p := p) (d := m + 1) (f := f) hb (by omega) hat.1 hat.2) ml_X2_52 mf_yX2_depthFrom mi_yX2_depthFrom rfl dX2_search_108 rfl rfl rfl rfl (fun v_25 w_26 hp_27 => ?_)
            obtain ⟨rfl, rfl⟩ := hp_27
            refine J.re [0, 3, 4, 1, 2, 5, 6, 7] 8 (ws2 := (o, .inr (2, [.ref sa, .ref ca, .ref sia, .ref cia, .int (Int32.ofInt (tI L F)), .int (nI (nN L)), .int (nI x), .int (nI y), .int (nI z)])) :: (sa, .inl (G.2.1.1, 600, .inl S)) :: (ca, .inl (G.2.1.1, 600, .inl C)) :: (sia, .inl (G.2.1.1, 600, .inl SI1)) :: (cia, .inl (G.2.1.1, 600, .inl CI1)) :: (c, .inr (1, [.ref cta, .ref cua, .int (nI (nN L))])) :: (cta, .inl (G.2.1.1, 60, .inl t)) :: (cua, .inl (G.2.1.1, 60, .inl u)) :: r) rfl rfl ?_
            show J G X mX2_search _ _ _ 111 _ [.long (Int64.ofInt (dpI L F p (m + 1) f))]
            refine J.lstore [1, 2, 3, 4, 5, 6, 0, 7, 8] (lv' := [(0, .ref o), (1, .ref c), (2, .int (nI p)), (3, .int (nI mo)), (4, .int (nI M)), (5, .int (1 : Int32)), (6, .long (Int64.ofInt (dpI L F p (m + 1) f))), (8, .int (nI (m + 1))), (9, .int (nI f))]) dX2_search_111 rfl rfl ?_
            refine J.aload_n 0 dX2_search_113 rfl ?_
            refine J.iload 7 dX2_search_114 rfl ?_
            refine J.iload 8 dX2_search_116 rfl ?_
            refine J.re [0, 4, 1, 2, 3, 5, 6, 7] 8 (ws2 := (o, .inr (2, [.ref sa, .ref ca, .ref sia, .ref cia, .int (Int32.ofInt (tI L F)), .int (nI (nN L)), .int (nI x), .int (nI y), .int (nI z)])) :: (cia, .inl (G.2.1.1, 600, .inl CI1)) :: (sa, .inl (G.2.1.1, 600, .inl S)) :: (ca, .inl (G.2.1.1, 600, .inl C)) :: (sia, .inl (G.2.1.1, 600, .inl SI1)) :: (c, .inr (1, [.ref cta, .ref cua, .int (nI (nN L))])) :: (cta, .inl (G.2.1.1, 60, .inl t)) :: (cua, .inl (G.2.1.1, 60, .inl u)) :: r) rfl rfl ?_
            refine J.callV 0 (st := []) B (c_X2_keep l G _ (d := m + 1) (f := f) (cc := cI L p (m + 1) f) (by omega) hat.2) ml_X2_56 mf_yX2_keep mi_yX2_keep rfl dX2_search_118 rfl rfl rfl rfl (fun v_28 w_29 hp_30 => ?_)
            obtain ⟨rfl, rfl⟩ := hp_30
            refine J.re [0, 2, 3, 4, 1, 5, 6, 7] 8 (ws2 := (o, .inr (2, [.ref sa, .ref ca, .ref sia, .ref cia, .int (Int32.ofInt (tI L F)), .int (nI (nN L)), .int (nI (m + 1)), .int (nI f), .int (nI (cI L p (m + 1) f))])) :: (sa, .inl (G.2.1.1, 600, .inl S)) :: (ca, .inl (G.2.1.1, 600, .inl C)) :: (sia, .inl (G.2.1.1, 600, .inl SI1)) :: (cia, .inl (G.2.1.1, 600, .inl CI1)) :: (c, .inr (1, [.ref cta, .ref cua, .int (nI (nN L))])) :: (cta, .inl (G.2.1.1, 60, .inl t)) :: (cua, .inl (G.2.1.1, 60, .inl u)) :: r) rfl rfl ?_
            show J G X mX2_search _ _ _ 121 _ []
            refine J.iinc 8 [1, 2, 3, 4, 5, 6, 7, 8, 0] (lv' := [(0, .ref o), (1, .ref c), (2, .int (nI p)), (3, .int (nI mo)), (4, .int (nI M)), (5, .int (1 : Int32)), (6, .long (Int64.ofInt (dpI L F p (m + 1) f))), (8, .int (nI (m + 1))), (9, .int (nI (f + 1)))]) dX2_search_121 rfl (jinc1 _) rfl rfl ?_
            refine J.goto dX2_search_124 ?_
            exact X2_search_in B hc hb hp hp2 hM hmo hS m hm hK (f + 1) (true, dpI L F p (m + 1) f, m + 1, f, cI L p (m + 1) f) SI1 CI1 (by omega) (by rw [dpN_s, ← hs]; unfold dpG; rw [if_pos ⟨h7.1, h7.2, Or.inr (show g < dpI L F p (m + 1) f by omega)⟩]) hI1
termination_by p - f
decreasing_by all_goals omega
set_option maxHeartbeats 4000000 in
set_option maxRecDepth 100000 in
theorem X2_search_out {l : Launch} {G : jG} {X : jX} {r : va_W} {o sa ca sia cia : Nat} {x0 y0 z0 : Int32} {c cta cua p mo M : Nat} {L F t u S C : Nat → Int32} (B : jB l G X 2 47 0 0 (fun v w => v = some (.int (b01 (dpO L F p M).1)) ∧ ∃ S C SI CI, w = (o, .inr (2, [.ref sa, .ref ca, .ref sia, .ref cia, .int (Int32.ofInt (tI L F)), .int (nI (nN L)), .int (dpV (dpO L F p M).1 (dpO L F p M).2.2.1 x0), .int (dpV (dpO L F p M).1 (dpO L F p M).2.2.2.1 y0), .int (dpV (dpO L F p M).1 (dpO L F p M).2.2.2.2 z0)])) :: iA G sa 600 S :: iA G ca 600 C :: iA G sia 600 SI :: iA G cia 600 CI :: oX1 c cta cua (nI (nN L)) :: iA G cta 60 t :: iA G cua 60 u :: r) "search") (m : Nat) (SI CI : Nat → Int32) (hc : CV L F t u) (hb : BD L F) (hp : 2 ≤ p) (hp2 : p ≤ 600) (hM : M < p) (hmo : mo ≤ 30) (hS : SC L F p (nts L 60) S C) (hm : m ≤ M) (hI : SIC L F p m 0 SI CI) : J G X mX2_search ((o, .inr (2, [.ref sa, .ref ca, .ref sia, .ref cia, .int (Int32.ofInt (tI L F)), .int (nI (nN L)), .int (dpV (dpO L F p m).1 (dpO L F p m).2.2.1 x0), .int (dpV (dpO L F p m).1 (dpO L F p m).2.2.2.1 y0), .int (dpV (dpO L F p m).1 (dpO L F p m).2.2.2.2 z0)])) :: (sa, .inl (G.2.1.1, 600, .inl S)) :: (ca, .inl (G.2.1.1, 600, .inl C)) :: (sia, .inl (G.2.1.1, 600, .inl SI)) :: (cia, .inl (G.2.1.1, 600, .inl CI)) :: (c, .inr (1, [.ref cta, .ref cua, .int (nI (nN L))])) :: (cta, .inl (G.2.1.1, 60, .inl t)) :: (cua, .inl (G.2.1.1, 60, .inl u)) :: r) 0 0 24 [(0, .ref o), (1, .ref c), (2, .int (nI p)), (3, .int (nI mo)), (4, .int (nI M)), (5, .int (b01 (dpO L F p m).1)), (6, .long (Int64.ofInt (dpO L F p m).2.1)), (8, .int (nI (m + 1)))] [] := by
  refine J.iload 7 dX2_search_24 rfl ?_
  refine J.iload 4 dX2_search_26 rfl ?_
  refine J.icmp_gt dX2_search_28 (fun h9 => ?_) (fun h9 => ?_)
  · skip
    have h9 : M < (m + 1) := (nI_ltI (a := M) (b := (m + 1)) (by omega) (by omega)).mp h9
    have e : m = M := by omega
    subst e
    refine J.iload 5 dX2_search_133 rfl ?_
    exact J.zret B dX2_search_135 rfl (b01_z _) (⟨rfl, S, C, SI, CI, rfl⟩)
  · skip
    have h9 : ¬ M < (m + 1) := fun z => h9 ((nI_ltI (a := M) (b := (m + 1)) (by omega) (by omega)).mpr z)
    refine J.iconst (0 : Int32) dX2_search_31 rfl ?_
    refine J.istore [1, 2, 3, 4, 5, 6, 7, 8, 0] (lv' := [(0, .ref o), (1, .ref c), (2, .int (nI p)), (3, .int (nI mo)), (4, .int (nI M)), (5, .int (b01 (dpO L F p m).1)), (6, .long (Int64.ofInt (dpO L F p m).2.1)), (8, .int (nI (m + 1))), (9, .int (0 : Int32))]) dX2_search_32 rfl rfl ?_
    refine X2_search_in B hc hb hp hp2 hM hmo hS m (by omega) (fun s SI CI hs hI => ?_) 0 (dpO L F p m) SI CI (by omega) rfl hI
    rw [hs, ← dpO_s]
    refine J.iinc 7 [1, 2, 3, 4, 5, 6, 7, 0] (lv' := [(0, .ref o), (1, .ref c), (2, .int (nI p)), (3, .int (nI mo)), (4, .int (nI M)), (5, .int (b01 (dpO L F p (m + 1)).1)), (6, .long (Int64.ofInt (dpO L F p (m + 1)).2.1)), (8, .int (nI (m + 1 + 1)))]) dX2_search_127 rfl (jinc1 _) rfl rfl ?_
    refine J.goto dX2_search_130 ?_
    exact X2_search_out B (m + 1) SI CI hc hb hp hp2 hM hmo hS (by omega) (SIC_up hI)
termination_by M - m
decreasing_by all_goals omega
set_option maxHeartbeats 4000000 in
set_option maxRecDepth 100000 in
theorem c_X2_search (l : Launch) (G : jG) (r : va_W) {o sa ca sia cia : Nat} {x0 y0 z0 : Int32} {c cta cua p mo : Nat} {L F t u S C SI CI : Nat → Int32} {A n : Int32} (hc : CV L F t u) (hb : BD L F) (hp : 2 ≤ p) (hp2 : p ≤ 600) (hmo : mo ≤ 30) : Mt l G yX2_search mX2_search 2 47 0 0 [.ref o, .ref c, .int (nI p), .int (nI mo)] ((o, .inr (2, [.ref sa, .ref ca, .ref sia, .ref cia, .int A, .int n, .int x0, .int y0, .int z0])) :: (sa, .inl (G.2.1.1, 600, .inl S)) :: (ca, .inl (G.2.1.1, 600, .inl C)) :: (sia, .inl (G.2.1.1, 600, .inl SI)) :: (cia, .inl (G.2.1.1, 600, .inl CI)) :: (c, .inr (1, [.ref cta, .ref cua, .int (nI (nN L))])) :: (cta, .inl (G.2.1.1, 60, .inl t)) :: (cua, .inl (G.2.1.1, 60, .inl u)) :: r) (fun v w => v = some (.int (b01 (dpO L F p (min mo (p - 1))).1)) ∧ ∃ S C SI CI, w = (o, .inr (2, [.ref sa, .ref ca, .ref sia, .ref cia, .int (Int32.ofInt (tI L F)), .int (nI (nN L)), .int (dpV (dpO L F p (min mo (p - 1))).1 (dpO L F p (min mo (p - 1))).2.2.1 x0), .int (dpV (dpO L F p (min mo (p - 1))).1 (dpO L F p (min mo (p - 1))).2.2.2.1 y0), .int (dpV (dpO L F p (min mo (p - 1))).1 (dpO L F p (min mo (p - 1))).2.2.2.2 z0)])) :: iA G sa 600 S :: iA G ca 600 C :: iA G sia 600 SI :: iA G cia 600 CI :: oX1 c cta cua (nI (nN L)) :: iA G cta 60 t :: iA G cua 60 u :: r) := by
  refine Mt.of (by decide +kernel) rfl rfl (fun X B => ?_)
  show J G X mX2_search ((o, .inr (2, [.ref sa, .ref ca, .ref sia, .ref cia, .int A, .int n, .int x0, .int y0, .int z0])) :: (sa, .inl (G.2.1.1, 600, .inl S)) :: (ca, .inl (G.2.1.1, 600, .inl C)) :: (sia, .inl (G.2.1.1, 600, .inl SI)) :: (cia, .inl (G.2.1.1, 600, .inl CI)) :: (c, .inr (1, [.ref cta, .ref cua, .int (nI (nN L))])) :: (cta, .inl (G.2.1.1, 60, .inl t)) :: (cua, .inl (G.2.1.1, 60, .inl u)) :: r) 0 0 0 [(0, .ref o), (1, .ref c), (2, .int (nI p)), (3, .int (nI mo))] []
  refine J.aload_n 0 dX2_search_0 rfl ?_
  refine J.aload_n 1 dX2_search_1 rfl ?_
  refine J.iload_n 2 dX2_search_2 rfl ?_
  refine J.callV 0 (st := []) B (c_X2_share l G _ (p := p) hc hb (by omega) hp2) ml_X2_34 mf_yX2_share mi_yX2_share rfl dX2_search_3 rfl rfl rfl rfl (fun v_1 w_2 hp_3 => ?_)
  obtain ⟨S1, C1, hS1, rfl, rfl⟩ := hp_3
  show J G X mX2_search _ _ _ 6 _ []
  refine J.iload_n 3 dX2_search_6 rfl ?_
  refine J.iload_n 2 dX2_search_7 rfl ?_
  refine J.iconst (1 : Int32) dX2_search_8 rfl ?_
  refine J.isub dX2_search_9 ?_
  refine J.topi (y := nI (p - 1)) (pk_sub (a := p) (b := 1) (by omega)) ?_
  refine J.callS (st := []) B (c_J9_min_7cf53 l G _ (a := nI mo) (b := nI (p - 1))) ml_X2_38 mf_yJ9_min_7cf53 mS_yJ9_min_7cf53 dX2_search_10 rfl rfl rfl (fun v_4 w_5 hp_6 => ?_)
  obtain ⟨rfl, rfl⟩ := hp_6
  rw [min_nI (a := mo) (b := p - 1) (by omega) (by omega)]
  show J G X mX2_search _ _ _ 13 _ [.int (nI (min mo (p - 1)))]
  refine J.istore [1, 2, 3, 4, 0] (lv' := [(0, .ref o), (1, .ref c), (2, .int (nI p)), (3, .int (nI mo)), (4, .int (nI (min mo (p - 1))))]) dX2_search_13 rfl rfl ?_
  refine J.iconst (0 : Int32) dX2_search_15 rfl ?_
  refine J.istore [1, 2, 3, 4, 5, 0] (lv' := [(0, .ref o), (1, .ref c), (2, .int (nI p)), (3, .int (nI mo)), (4, .int (nI (min mo (p - 1)))), (5, .int (0 : Int32))]) dX2_search_16 rfl rfl ?_
  refine J.lconst 0 dX2_search_18 rfl ?_
  refine J.lstore [1, 2, 3, 4, 5, 6, 0] (lv' := [(0, .ref o), (1, .ref c), (2, .int (nI p)), (3, .int (nI mo)), (4, .int (nI (min mo (p - 1)))), (5, .int (0 : Int32)), (6, .long (0 : Int64))]) dX2_search_19 rfl rfl ?_
  refine J.iconst (1 : Int32) dX2_search_21 rfl ?_
  refine J.istore [1, 2, 3, 4, 5, 6, 7, 0] (lv' := [(0, .ref o), (1, .ref c), (2, .int (nI p)), (3, .int (nI mo)), (4, .int (nI (min mo (p - 1)))), (5, .int (0 : Int32)), (6, .long (0 : Int64)), (8, .int (1 : Int32))]) dX2_search_22 rfl rfl ?_
  exact X2_search_out B 0 _ _ hc hb hp hp2 (by omega) hmo hS1 (by omega) (SIC_0 hp2)
end
section
/-! ranges -/
def inR (v : Int32) (lo hi : Int) : Bool := decide (lo ≤ v.toInt ∧ v.toInt ≤ hi)
theorem inR_t {v : Int32} {lo hi : Int} (h : lo ≤ v.toInt ∧ v.toInt ≤ hi) : inR v lo hi = true := decide_eq_true h
theorem inR_f {v : Int32} {lo hi : Int} (h : ¬ (lo ≤ v.toInt ∧ v.toInt ≤ hi)) : inR v lo hi = false := decide_eq_false h
theorem inR_of {v : Int32} {lo hi : Int} (h : inR v lo hi = true) : lo ≤ v.toInt ∧ v.toInt ≤ hi := of_decide_eq_true h
theorem inR_no {v : Int32} {lo hi : Int} (h : inR v lo hi = false) : ¬ (lo ≤ v.toInt ∧ v.toInt ≤ hi) := of_decide_eq_false h
theorem ix_of {v : Int32} {n : Nat} (h : 0 ≤ v.toInt ∧ v.toInt ≤ (n : Int)) : ∃ j : Nat, j ≤ n ∧ v = nI j := by
  obtain ⟨j, hj, e⟩ := nI_of (x := v) (by rw [fa_lt]; show ¬ v.toInt < 0; omega)
  refine ⟨j, ?_, e⟩
  rw [e, nI_toInt hj] at h
  omega
theorem nI_inR {j : Nat} {lo hi : Int} (hj : j < 2 ^ 31) : inR (nI j) lo hi = decide (lo ≤ (j : Int) ∧ (j : Int) ≤ hi) := by
  unfold inR
  rw [nI_toInt hj]
theorem b01_t : b01 true = 1 := rfl
theorem b01_f : b01 false = 0 := rfl
theorem vp_b01 (b : Bool) : vp_nar .boolean (b01 b) = b01 b := by cases b <;> rfl
end
section
set_option maxHeartbeats 4000000 in
set_option maxRecDepth 100000 in
theorem c_X7_isKind (l : Launch) (G : jG) (r : va_W) {k : Int32} : Mt l G yX7_isKind mX7_isKind 0 0 0 0 [.int k] (r) (fun v w => v = some (.int (b01 (inR k 0 3))) ∧ w = r) := by
  refine Mt.of (by decide +kernel) rfl rfl (fun X B => ?_)
  show J G X mX7_isKind (r) 0 0 0 [(0, .int k)] []
  refine J.iload_n 0 dX7_isKind_0 rfl ?_
  refine J.if_lt dX7_isKind_1 (fun h_1 => ?_) (fun h_1 => ?_)
  · skip
    have h_1 : k.toInt < (0 : Int) := (fa_lt _ _).mp h_1
    refine J.iconst (0 : Int32) dX7_isKind_13 rfl ?_
    exact J.zret B dX7_isKind_14 rfl (by decide) (⟨by rw [show (inR k 0 3) = false by exact inR_f (by omega)]; rfl, rfl⟩)
  · skip
    have h_1 : ¬ k.toInt < (0 : Int) := fun z => h_1 ((fa_lt _ _).mpr z)
    refine J.iload_n 0 dX7_isKind_4 rfl ?_
    refine J.iconst (3 : Int32) dX7_isKind_5 rfl ?_
    refine J.icmp_gt dX7_isKind_6 (fun h_2 => ?_) (fun h_2 => ?_)
    · skip
      have h_2 : (3 : Int) < k.toInt := (fa_lt _ _).mp h_2
      refine J.iconst (0 : Int32) dX7_isKind_13 rfl ?_
      exact J.zret B dX7_isKind_14 rfl (by decide) (⟨by rw [show (inR k 0 3) = false by exact inR_f (by omega)]; rfl, rfl⟩)
    · skip
      have h_2 : ¬ (3 : Int) < k.toInt := fun z => h_2 ((fa_lt _ _).mpr z)
      refine J.iconst (1 : Int32) dX7_isKind_9 rfl ?_
      refine J.goto dX7_isKind_10 ?_
      exact J.zret B dX7_isKind_14 rfl (by decide) (⟨by rw [show (inR k 0 3) = true by exact inR_t (by omega)]; rfl, rfl⟩)
set_option maxHeartbeats 4000000 in
set_option maxRecDepth 100000 in
theorem c_X7_isNight (l : Launch) (G : jG) (r : va_W) {k : Int32} : Mt l G yX7_isNight mX7_isNight 0 0 0 0 [.int k] (r) (fun v w => v = some (.int (b01 (inR k 0 59))) ∧ w = r) := by
  refine Mt.of (by decide +kernel) rfl rfl (fun X B => ?_)
  show J G X mX7_isNight (r) 0 0 0 [(0, .int k)] []
  refine J.iload_n 0 dX7_isNight_0 rfl ?_
  refine J.if_lt dX7_isNight_1 (fun h_1 => ?_) (fun h_1 => ?_)
  · skip
    have h_1 : k.toInt < (0 : Int) := (fa_lt _ _).mp h_1
    refine J.iconst (0 : Int32) dX7_isNight_14 rfl ?_
    exact J.zret B dX7_isNight_15 rfl (by decide) (⟨by rw [show (inR k 0 59) = false by exact inR_f (by omega)]; rfl, rfl⟩)
  · skip
    have h_1 : ¬ k.toInt < (0 : Int) := fun z => h_1 ((fa_lt _ _).mpr z)
    refine J.iload_n 0 dX7_isNight_4 rfl ?_
    refine J.bipush (60 : Int32) dX7_isNight_5 rfl ?_
    refine J.icmp_ge dX7_isNight_7 (fun h_2 => ?_) (fun h_2 => ?_)
    · skip
      have h_2 : (60 : Int) ≤ k.toInt := (fa_le _ _).mp h_2
      refine J.iconst (0 : Int32) dX7_isNight_14 rfl ?_
      exact J.zret B dX7_isNight_15 rfl (by decide) (⟨by rw [show (inR k 0 59) = false by exact inR_f (by omega)]; rfl, rfl⟩)
    · skip
      have h_2 : ¬ (60 : Int) ≤ k.toInt := fun z => h_2 ((fa_le _ _).mpr z)
      refine J.iconst (1 : Int32) dX7_isNight_10 rfl ?_
      refine J.goto dX7_isNight_11 ?_
      exact J.zret B dX7_isNight_15 rfl (by decide) (⟨by rw [show (inR k 0 59) = true by exact inR_t (by omega)]; rfl, rfl⟩)
set_option maxHeartbeats 4000000 in
set_option maxRecDepth 100000 in
theorem c_X7_isPeriod (l : Launch) (G : jG) (r : va_W) {p q : Int32} : Mt l G yX7_isPeriod mX7_isPeriod 0 0 0 0 [.int p, .int q] (r) (fun v w => v = some (.int (b01 (inR p 1 600 && inR q 1 60))) ∧ w = r) := by
  refine Mt.of (by decide +kernel) rfl rfl (fun X B => ?_)
  show J G X mX7_isPeriod (r) 0 0 0 [(0, .int p), (1, .int q)] []
  refine J.iload_n 0 dX7_isPeriod_0 rfl ?_
  refine J.iconst (1 : Int32) dX7_isPeriod_1 rfl ?_
  refine J.icmp_lt dX7_isPeriod_2 (fun h_1 => ?_) (fun h_1 => ?_)
  · skip
    have h_1 : p.toInt < (1 : Int) := (fa_lt _ _).mp h_1
    refine J.iconst (0 : Int32) dX7_isPeriod_27 rfl ?_
    exact J.zret B dX7_isPeriod_28 rfl (by decide) (⟨by rw [show (inR p 1 600 && inR q 1 60) = false by first | (rw [inR_f (v := p) (by omega)]; rfl) | (rw [inR_f (v := q) (by omega)]; exact Bool.and_false _)]; rfl, rfl⟩)
  · skip
    have h_1 : ¬ p.toInt < (1 : Int) := fun z => h_1 ((fa_lt _ _).mpr z)
    refine J.iload_n 0 dX7_isPeriod_5 rfl ?_
    refine J.sipush (600 : Int32) dX7_isPeriod_6 rfl ?_
    refine J.icmp_gt dX7_isPeriod_9 (fun h_2 => ?_) (fun h_2 => ?_)
    · skip
      have h_2 : (600 : Int) < p.toInt := (fa_lt _ _).mp h_2
      refine J.iconst (0 : Int32) dX7_isPeriod_27 rfl ?_
      exact J.zret B dX7_isPeriod_28 rfl (by decide) (⟨by rw [show (inR p 1 600 && inR q 1 60) = false by first | (rw [inR_f (v := p) (by omega)]; rfl) | (rw [inR_f (v := q) (by omega)]; exact Bool.and_false _)]; rfl, rfl⟩)
    · skip
      have h_2 : ¬ (600 : Int) < p.toInt := fun z => h_2 ((fa_lt _ _).mpr z)
      refine J.iload_n 1 dX7_isPeriod_12 rfl ?_
      refine J.iconst (1 : Int32) dX7_isPeriod_13 rfl ?_
      refine J.icmp_lt dX7_isPeriod_14 (fun h_3 => ?_) (fun h_3 => ?_)
      · skip
        have h_3 : q.toInt < (1 : Int) := (fa_lt _ _).mp h_3
        refine J.iconst (0 : Int32) dX7_isPeriod_27 rfl ?_
        exact J.zret B dX7_isPeriod_28 rfl (by decide) (⟨by rw [show (inR p 1 600 && inR q 1 60) = false by first | (rw [inR_f (v := p) (by omega)]; rfl) | (rw [inR_f (v := q) (by omega)]; exact Bool.and_false _)]; rfl, rfl⟩)
      · skip
        have h_3 : ¬ q.toInt < (1 : Int) := fun z => h_3 ((fa_lt _ _).mpr z)
        refine J.iload_n 1 dX7_isPeriod_17 rfl ?_
        refine J.bipush (60 : Int32) dX7_isPeriod_18 rfl ?_
        refine J.icmp_gt dX7_isPeriod_20 (fun h_4 => ?_) (fun h_4 => ?_)
        · skip
          have h_4 : (60 : Int) < q.toInt := (fa_lt _ _).mp h_4
          refine J.iconst (0 : Int32) dX7_isPeriod_27 rfl ?_
          exact J.zret B dX7_isPeriod_28 rfl (by decide) (⟨by rw [show (inR p 1 600 && inR q 1 60) = false by first | (rw [inR_f (v := p) (by omega)]; rfl) | (rw [inR_f (v := q) (by omega)]; exact Bool.and_false _)]; rfl, rfl⟩)
        · skip
          have h_4 : ¬ (60 : Int) < q.toInt := fun z => h_4 ((fa_lt _ _).mpr z)
          refine J.iconst (1 : Int32) dX7_isPeriod_23 rfl ?_
          refine J.goto dX7_isPeriod_24 ?_
          exact J.zret B dX7_isPeriod_28 rfl (by decide) (⟨by rw [show (inR p 1 600 && inR q 1 60) = true by rw [inR_t (by omega), inR_t (by omega)]; rfl]; rfl, rfl⟩)
set_option maxHeartbeats 4000000 in
set_option maxRecDepth 100000 in
theorem c_X7_areNights (l : Launch) (G : jG) (r : va_W) {f n : Int32} (hn : 0 ≤ n.toInt) : Mt l G yX7_areNights mX7_areNights 0 0 0 0 [.int f, .int n] (r) (fun v w => v = some (.int (b01 (decide (0 ≤ f.toInt ∧ f.toInt + n.toInt ≤ 60)))) ∧ w = r) := by
  refine Mt.of (by decide +kernel) rfl rfl (fun X B => ?_)
  show J G X mX7_areNights (r) 0 0 0 [(0, .int f), (1, .int n)] []
  refine J.iload_n 0 dX7_areNights_0 rfl ?_
  refine J.if_lt dX7_areNights_1 (fun h_1 => ?_) (fun h_1 => ?_)
  · skip
    have h_1 : f.toInt < (0 : Int) := (fa_lt _ _).mp h_1
    refine J.iconst (0 : Int32) dX7_areNights_22 rfl ?_
    exact J.zret B dX7_areNights_23 rfl (by decide) (⟨by rw [decide_eq_false (by omega)]; rfl, rfl⟩)
  · skip
    have h_1 : ¬ f.toInt < (0 : Int) := fun z => h_1 ((fa_lt _ _).mpr z)
    refine J.iload_n 0 dX7_areNights_4 rfl ?_
    refine J.bipush (60 : Int32) dX7_areNights_5 rfl ?_
    refine J.icmp_gt dX7_areNights_7 (fun h_2 => ?_) (fun h_2 => ?_)
    · skip
      have h_2 : (60 : Int) < f.toInt := (fa_lt _ _).mp h_2
      refine J.iconst (0 : Int32) dX7_areNights_22 rfl ?_
      exact J.zret B dX7_areNights_23 rfl (by decide) (⟨by rw [decide_eq_false (by omega)]; rfl, rfl⟩)
    · skip
      have h_2 : ¬ (60 : Int) < f.toInt := fun z => h_2 ((fa_lt _ _).mpr z)
      refine J.iload_n 1 dX7_areNights_10 rfl ?_
      refine J.bipush (60 : Int32) dX7_areNights_11 rfl ?_
      refine J.iload_n 0 dX7_areNights_13 rfl ?_
      refine J.isub dX7_areNights_14 ?_
      refine J.icmp_gt dX7_areNights_15 (fun h8 => ?_) (fun h8 => ?_)
      · skip
        have hsub : ((60 : Int32) - f).toInt = 60 - f.toInt := by rw [fb_subI (by show _ ≤ (60 : Int) - _; omega) (by show (60 : Int) - _ < _; omega)]; rfl
        have h8 : 60 - f.toInt < n.toInt := by rw [fa_lt, hsub] at h8; exact h8
        refine J.iconst (0 : Int32) dX7_areNights_22 rfl ?_
        exact J.zret B dX7_areNights_23 rfl (by decide) (⟨by rw [decide_eq_false (by omega)]; rfl, rfl⟩)
      · skip
        have hsub : ((60 : Int32) - f).toInt = 60 - f.toInt := by rw [fb_subI (by show _ ≤ (60 : Int) - _; omega) (by show (60 : Int) - _ < _; omega)]; rfl
        have h8 : ¬ 60 - f.toInt < n.toInt := by rw [fa_lt, hsub] at h8; exact h8
        refine J.iconst (1 : Int32) dX7_areNights_18 rfl ?_
        refine J.goto dX7_areNights_19 ?_
        exact J.zret B dX7_areNights_23 rfl (by decide) (⟨by rw [decide_eq_true ⟨by omega, by omega⟩]; rfl, rfl⟩)
set_option maxHeartbeats 4000000 in
set_option maxRecDepth 100000 in
theorem c_X7_found (l : Launch) (G : jG) (r : va_W) {x : Nat} {A : Nat → Nat} {ns nr : Nat} {to : Int64} {al wa lf : Int32} {fc : Nat → Int32} {c : Nat} (h1 : 1 ≤ c) (h2 : c ≤ 5) : Mt l G yX7_found mX7_found 0 0 0 0 [.ref x, .int (nI c)] ((x, .inr (7, [.ref (A 0), .int (nI ns), .ref (A 1), .int (nI nr), .ref (A 2), .ref (A 3), .ref (A 4), .ref (A 5), .ref (A 6), .ref (A 7), .ref (A 8), .ref (A 9), .long to, .int al, .int wa, .int lf, .ref (A 10)])) :: (A 10, .inl (G.2.1.1, 6, .inl fc)) :: r) (fun v w => v = some (.int (-3 : Int32)) ∧ w = (x, .inr (7, [.ref (A 0), .int (nI ns), .ref (A 1), .int (nI nr), .ref (A 2), .ref (A 3), .ref (A 4), .ref (A 5), .ref (A 6), .ref (A 7), .ref (A 8), .ref (A 9), .long to, .int al, .int wa, .int (nI c), .ref (A 10)])) :: (A 10, .inl (G.2.1.1, 6, .inl (upd fc c (fc c + 1)))) :: r) := by
  refine Mt.of (by decide +kernel) rfl rfl (fun X B => ?_)
  show J G X mX7_found ((x, .inr (7, [.ref (A 0), .int (nI ns), .ref (A 1), .int (nI nr), .ref (A 2), .ref (A 3), .ref (A 4), .ref (A 5), .ref (A 6), .ref (A 7), .ref (A 8), .ref (A 9), .long to, .int al, .int wa, .int lf, .ref (A 10)])) :: (A 10, .inl (G.2.1.1, 6, .inl fc)) :: r) 0 0 0 [(0, .ref x), (1, .int (nI c))] []
  refine J.aload_n 0 dX7_found_0 rfl ?_
  refine J.iload_n 1 dX7_found_1 rfl ?_
  refine J.put 0 fp_X7_254 dX7_found_2 rfl (rfl) (rfl) rfl (ws' := (x, .inr (7, [.ref (A 0), .int (nI ns), .ref (A 1), .int (nI nr), .ref (A 2), .ref (A 3), .ref (A 4), .ref (A 5), .ref (A 6), .ref (A 7), .ref (A 8), .ref (A 9), .long to, .int al, .int wa, .int (nI c), .ref (A 10)])) :: (A 10, .inl (G.2.1.1, 6, .inl fc)) :: r) rfl ?_
  refine J.iload_n 1 dX7_found_5 rfl ?_
  refine J.iconst (1 : Int32) dX7_found_6 rfl ?_
  refine J.icmp_lt dX7_found_7 (fun h9 => ?_) (fun h9 => ?_)
  · skip
    have h9 : c < 1 := (nI_ltI (a := c) (b := 1) (by omega) (by omega)).mp h9
    omega
  · skip
    have h9 : ¬ c < 1 := fun z => h9 ((nI_ltI (a := c) (b := 1) (by omega) (by omega)).mpr z)
    refine J.iload_n 1 dX7_found_10 rfl ?_
    refine J.iconst (5 : Int32) dX7_found_11 rfl ?_
    refine J.icmp_gt dX7_found_12 (fun h8 => ?_) (fun h8 => ?_)
    · skip
      have h8 : 5 < c := (nI_ltI (a := 5) (b := c) (by omega) (by omega)).mp h8
      omega
    · skip
      have h8 : ¬ 5 < c := fun z => h8 ((nI_ltI (a := 5) (b := c) (by omega) (by omega)).mpr z)
      refine J.aload_n 0 dX7_found_15 rfl ?_
      refine J.get 0 fl_X7_66 dX7_found_16 rfl rfl ?_
      refine J.iload_n 1 dX7_found_19 rfl ?_
      refine J.dup2 dX7_found_20 rfl rfl ?_
      refine J.iald 1 (c) dX7_found_21 rfl (rfl) (by omega) (by decide) ?_
      refine J.iconst (1 : Int32) dX7_found_22 rfl ?_
      refine J.iadd dX7_found_23 ?_
      refine J.iast 1 (c) dX7_found_24 rfl (rfl) (by omega) (by decide) (ws' := (x, .inr (7, [.ref (A 0), .int (nI ns), .ref (A 1), .int (nI nr), .ref (A 2), .ref (A 3), .ref (A 4), .ref (A 5), .ref (A 6), .ref (A 7), .ref (A 8), .ref (A 9), .long to, .int al, .int wa, .int (nI c), .ref (A 10)])) :: (A 10, .inl (G.2.1.1, 6, .inl (upd fc c ((fc c) + (1 : Int32))))) :: r) rfl ?_
      refine J.bipush (-3 : Int32) dX7_found_25 rfl ?_
      exact J.iret B dX7_found_27 rfl (⟨rfl, rfl⟩)
set_option maxHeartbeats 4000000 in
set_option maxRecDepth 100000 in
theorem c_X7_tell (l : Launch) (G : jG) (r : va_W) {x : Nat} {A : Nat → Nat} {ns nr : Nat} {to : Int64} {al wa lf : Int32} {t0 : Int64} : Mt l G yX7_tell mX7_tell 0 0 0 0 [.ref x, .long t0] ((x, .inr (7, [.ref (A 0), .int (nI ns), .ref (A 1), .int (nI nr), .ref (A 2), .ref (A 3), .ref (A 4), .ref (A 5), .ref (A 6), .ref (A 7), .ref (A 8), .ref (A 9), .long to, .int al, .int wa, .int lf, .ref (A 10)])) :: r) (fun v w => v = some (.int (1 : Int32)) ∧ w = (x, .inr (7, [.ref (A 0), .int (nI ns), .ref (A 1), .int (nI nr), .ref (A 2), .ref (A 3), .ref (A 4), .ref (A 5), .ref (A 6), .ref (A 7), .ref (A 8), .ref (A 9), .long t0, .int al, .int wa, .int lf, .ref (A 10)])) :: r) := by
  refine Mt.of (by decide +kernel) rfl rfl (fun X B => ?_)
  show J G X mX7_tell ((x, .inr (7, [.ref (A 0), .int (nI ns), .ref (A 1), .int (nI nr), .ref (A 2), .ref (A 3), .ref (A 4), .ref (A 5), .ref (A 6), .ref (A 7), .ref (A 8), .ref (A 9), .long to, .int al, .int wa, .int lf, .ref (A 10)])) :: r) 0 0 0 [(0, .ref x), (1, .long t0)] []
  refine J.aload_n 0 dX7_tell_0 rfl ?_
  refine J.lload_n 1 dX7_tell_1 rfl ?_
  refine J.put 0 fp_X7_244 dX7_tell_2 rfl (rfl) (rfl) rfl (ws' := (x, .inr (7, [.ref (A 0), .int (nI ns), .ref (A 1), .int (nI nr), .ref (A 2), .ref (A 3), .ref (A 4), .ref (A 5), .ref (A 6), .ref (A 7), .ref (A 8), .ref (A 9), .long t0, .int al, .int wa, .int lf, .ref (A 10)])) :: r) rfl ?_
  refine J.iconst (1 : Int32) dX7_tell_5 rfl ?_
  exact J.iret B dX7_tell_6 rfl (⟨rfl, rfl⟩)
set_option maxHeartbeats 4000000 in
set_option maxRecDepth 100000 in
theorem c_X7_starNumbered (l : Launch) (G : jG) (r : va_W) {x : Nat} {A : Nat → Nat} {ns nr : Nat} {to : Int64} {al wa lf : Int32} {sa : Nat → Option Nat} {k s : Nat} (hk : k < ns) (hns : ns ≤ 12) (hsa : sa k = some s) : Mt l G yX7_starNumbered mX7_starNumbered 0 0 0 0 [.ref x, .int (nI k)] ((x, .inr (7, [.ref (A 0), .int (nI ns), .ref (A 1), .int (nI nr), .ref (A 2), .ref (A 3), .ref (A 4), .ref (A 5), .ref (A 6), .ref (A 7), .ref (A 8), .ref (A 9), .long to, .int al, .int wa, .int lf, .ref (A 10)])) :: (A 0, .inl (G.2.1.2.2.1, 12, .inr (.inr (.inr (.inr sa))))) :: r) (fun v w => v = some (.ref s) ∧ w = (x, .inr (7, [.ref (A 0), .int (nI ns), .ref (A 1), .int (nI nr), .ref (A 2), .ref (A 3), .ref (A 4), .ref (A 5), .ref (A 6), .ref (A 7), .ref (A 8), .ref (A 9), .long to, .int al, .int wa, .int lf, .ref (A 10)])) :: (A 0, .inl (G.2.1.2.2.1, 12, .inr (.inr (.inr (.inr sa))))) :: r) := by
  refine Mt.of (by decide +kernel) rfl rfl (fun X B => ?_)
  show J G X mX7_starNumbered ((x, .inr (7, [.ref (A 0), .int (nI ns), .ref (A 1), .int (nI nr), .ref (A 2), .ref (A 3), .ref (A 4), .ref (A 5), .ref (A 6), .ref (A 7), .ref (A 8), .ref (A 9), .long to, .int al, .int wa, .int lf, .ref (A 10)])) :: (A 0, .inl (G.2.1.2.2.1, 12, .inr (.inr (.inr (.inr sa))))) :: r) 0 0 0 [(0, .ref x), (1, .int (nI k))] []
  refine J.iload_n 1 dX7_starNumbered_0 rfl ?_
  refine J.if_lt dX7_starNumbered_1 (fun h9 => ?_) (fun h9 => ?_)
  · skip
    have h9 : k < 0 := (nI_ltI (a := k) (b := 0) (by omega) (by omega)).mp h9
    omega
  · skip
    have h9 : ¬ k < 0 := fun z => h9 ((nI_ltI (a := k) (b := 0) (by omega) (by omega)).mpr z)
    refine J.iload_n 1 dX7_starNumbered_4 rfl ?_
    refine J.aload_n 0 dX7_starNumbered_5 rfl ?_
    refine J.get 0 fl_X7_73 dX7_starNumbered_6 rfl rfl ?_
    refine J.icmp_ge dX7_starNumbered_9 (fun h8 => ?_) (fun h8 => ?_)
    · skip
      have h8 : ns ≤ k := (nI_leI (a := ns) (b := k) (by omega) (by omega)).mp h8
      omega
    · skip
      have h8 : ¬ ns ≤ k := fun z => h8 ((nI_leI (a := ns) (b := k) (by omega) (by omega)).mpr z)
      refine J.aload_n 0 dX7_starNumbered_12 rfl ?_
      refine J.get 0 fl_X7_11 dX7_starNumbered_13 rfl rfl ?_
      refine J.iload_n 1 dX7_starNumbered_16 rfl ?_
      refine J.aald 1 2 (k) dX7_starNumbered_17 rfl rfl (rfl) (by omega) (by decide) (hsa) ?_
      refine J.goto dX7_starNumbered_18 ?_
      exact J.aret B dX7_starNumbered_22 rfl (Or.inr ⟨_, rfl⟩) (⟨rfl, rfl⟩)
set_option maxHeartbeats 4000000 in
set_option maxRecDepth 100000 in
theorem c_X7_starNumbered_bad (l : Launch) (G : jG) (r : va_W) {x : Nat} {A : Nat → Nat} {ns nr : Nat} {to : Int64} {al wa lf : Int32} {sa : Nat → Option Nat} {num : Int32} (hns : ns ≤ 12) (hnum : inR num 0 ((ns : Int) - 1) = false) : Mt l G yX7_starNumbered mX7_starNumbered 0 0 0 0 [.ref x, .int num] ((x, .inr (7, [.ref (A 0), .int (nI ns), .ref (A 1), .int (nI nr), .ref (A 2), .ref (A 3), .ref (A 4), .ref (A 5), .ref (A 6), .ref (A 7), .ref (A 8), .ref (A 9), .long to, .int al, .int wa, .int lf, .ref (A 10)])) :: (A 0, .inl (G.2.1.2.2.1, 12, .inr (.inr (.inr (.inr sa))))) :: r) (fun v w => v = some (.null) ∧ w = (x, .inr (7, [.ref (A 0), .int (nI ns), .ref (A 1), .int (nI nr), .ref (A 2), .ref (A 3), .ref (A 4), .ref (A 5), .ref (A 6), .ref (A 7), .ref (A 8), .ref (A 9), .long to, .int al, .int wa, .int lf, .ref (A 10)])) :: (A 0, .inl (G.2.1.2.2.1, 12, .inr (.inr (.inr (.inr sa))))) :: r) := by
  refine Mt.of (by decide +kernel) rfl rfl (fun X B => ?_)
  show J G X mX7_starNumbered ((x, .inr (7, [.ref (A 0), .int (nI ns), .ref (A 1), .int (nI nr), .ref (A 2), .ref (A 3), .ref (A 4), .ref (A 5), .ref (A 6), .ref (A 7), .ref (A 8), .ref (A 9), .long to, .int al, .int wa, .int lf, .ref (A 10)])) :: (A 0, .inl (G.2.1.2.2.1, 12, .inr (.inr (.inr (.inr sa))))) :: r) 0 0 0 [(0, .ref x), (1, .int num)] []
  refine J.iload_n 1 dX7_starNumbered_0 rfl ?_
  refine J.if_lt dX7_starNumbered_1 (fun h9 => ?_) (fun h9 => ?_)
  · skip
    have h9 : num.toInt < (0 : Int) := (fa_lt _ _).mp h9
    refine J.aconst_null dX7_starNumbered_21 ?_
    exact J.aret B dX7_starNumbered_22 rfl (Or.inl rfl) (⟨rfl, rfl⟩)
  · skip
    have h9 : ¬ num.toInt < (0 : Int) := fun z => h9 ((fa_lt _ _).mpr z)
    refine J.iload_n 1 dX7_starNumbered_4 rfl ?_
    refine J.aload_n 0 dX7_starNumbered_5 rfl ?_
    refine J.get 0 fl_X7_73 dX7_starNumbered_6 rfl rfl ?_
    refine J.icmp_ge dX7_starNumbered_9 (fun h8 => ?_) (fun z => absurd (by
        have q := inR_no hnum
        rw [fa_le, nI_toInt (by omega)]
        omega) z)
    refine J.aconst_null dX7_starNumbered_21 ?_
    exact J.aret B dX7_starNumbered_22 rfl (Or.inl rfl) (⟨rfl, rfl⟩)
set_option maxHeartbeats 4000000 in
set_option maxRecDepth 100000 in
theorem c_X7_lookAtRow_bad (l : Launch) (G : jG) (r : va_W) {x : Nat} {A : Nat → Nat} {ns nr : Nat} {to : Int64} {al wa lf : Int32} {sa : Nat → Option Nat} {num : Int32} (hns : ns ≤ 12) (hnum : inR num 0 ((ns : Int) - 1) = false) : Mt l G yX7_lookAtRow mX7_lookAtRow 1 21 0 0 [.ref x, .int num] ((x, .inr (7, [.ref (A 0), .int (nI ns), .ref (A 1), .int (nI nr), .ref (A 2), .ref (A 3), .ref (A 4), .ref (A 5), .ref (A 6), .ref (A 7), .ref (A 8), .ref (A 9), .long to, .int al, .int wa, .int lf, .ref (A 10)])) :: (A 0, .inl (G.2.1.2.2.1, 12, .inr (.inr (.inr (.inr sa))))) :: r) (fun v w => v = some (.int (-1 : Int32)) ∧ w = (x, .inr (7, [.ref (A 0), .int (nI ns), .ref (A 1), .int (nI nr), .ref (A 2), .ref (A 3), .ref (A 4), .ref (A 5), .ref (A 6), .ref (A 7), .ref (A 8), .ref (A 9), .long to, .int al, .int wa, .int lf, .ref (A 10)])) :: (A 0, .inl (G.2.1.2.2.1, 12, .inr (.inr (.inr (.inr sa))))) :: r) := by
  refine Mt.of (by decide +kernel) rfl rfl (fun X B => ?_)
  show J G X mX7_lookAtRow ((x, .inr (7, [.ref (A 0), .int (nI ns), .ref (A 1), .int (nI nr), .ref (A 2), .ref (A 3), .ref (A 4), .ref (A 5), .ref (A 6), .ref (A 7), .ref (A 8), .ref (A 9), .long to, .int al, .int wa, .int lf, .ref (A 10)])) :: (A 0, .inl (G.2.1.2.2.1, 12, .inr (.inr (.inr (.inr sa))))) :: r) 0 0 0 [(0, .ref x), (1, .int num)] []
  refine J.aload_n 0 dX7_lookAtRow_0 rfl ?_
  refine J.iload_n 1 dX7_lookAtRow_1 rfl ?_
  refine J.callV 0 (st := []) B (c_X7_starNumbered_bad l G _ hns hnum) ml_X7_80 mf_yX7_starNumbered mi_yX7_starNumbered rfl dX7_lookAtRow_2 rfl rfl rfl rfl (fun v_1 w_2 hp_3 => ?_)
  obtain ⟨rfl, rfl⟩ := hp_3
  show J G X mX7_lookAtRow _ _ _ 5 _ [.null]
  refine J.astore_nN [1, 2, 0] (lv' := [(0, .ref x), (1, .int num), (2, .null)]) dX7_lookAtRow_5 rfl rfl ?_
  refine J.aload_nN 2 dX7_lookAtRow_6 rfl ?_
  refine J.ifnonnullN dX7_lookAtRow_7 ?_
  refine J.iconst (-1 : Int32) dX7_lookAtRow_10 rfl ?_
  exact J.iret B dX7_lookAtRow_11 rfl (⟨rfl, rfl⟩)
set_option maxHeartbeats 4000000 in
set_option maxRecDepth 100000 in
theorem c_X7_lookAtRow_no (l : Launch) (G : jG) (r : va_W) {x : Nat} {A : Nat → Nat} {ns nr : Nat} {to : Int64} {al wa lf : Int32} {sa : Nat → Option Nat} {la : Nat} {kd wc : Int32} {k s : Nat} (hk : k < ns) (hns : ns ≤ 12) (hsa : sa k = some s) {fc : Nat → Int32} : Mt l G yX7_lookAtRow mX7_lookAtRow 1 21 0 0 [.ref x, .int (nI k)] ((x, .inr (7, [.ref (A 0), .int (nI ns), .ref (A 1), .int (nI nr), .ref (A 2), .ref (A 3), .ref (A 4), .ref (A 5), .ref (A 6), .ref (A 7), .ref (A 8), .ref (A 9), .long to, .int al, .int wa, .int lf, .ref (A 10)])) :: (A 0, .inl (G.2.1.2.2.1, 12, .inr (.inr (.inr (.inr sa))))) :: (s, .inr (6, [.int kd, .ref la, .int (0 : Int32), .int wc])) :: (A 10, .inl (G.2.1.1, 6, .inl fc)) :: r) (fun v w => v = some (.int (-3 : Int32)) ∧ w = (x, .inr (7, [.ref (A 0), .int (nI ns), .ref (A 1), .int (nI nr), .ref (A 2), .ref (A 3), .ref (A 4), .ref (A 5), .ref (A 6), .ref (A 7), .ref (A 8), .ref (A 9), .long to, .int al, .int wa, .int (nI 1), .ref (A 10)])) :: (A 0, .inl (G.2.1.2.2.1, 12, .inr (.inr (.inr (.inr sa))))) :: (s, .inr (6, [.int kd, .ref la, .int (0 : Int32), .int wc])) :: (A 10, .inl (G.2.1.1, 6, .inl (upd fc 1 (fc 1 + 1)))) :: r) := by
  refine Mt.of (by decide +kernel) rfl rfl (fun X B => ?_)
  show J G X mX7_lookAtRow ((x, .inr (7, [.ref (A 0), .int (nI ns), .ref (A 1), .int (nI nr), .ref (A 2), .ref (A 3), .ref (A 4), .ref (A 5), .ref (A 6), .ref (A 7), .ref (A 8), .ref (A 9), .long to, .int al, .int wa, .int lf, .ref (A 10)])) :: (A 0, .inl (G.2.1.2.2.1, 12, .inr (.inr (.inr (.inr sa))))) :: (s, .inr (6, [.int kd, .ref la, .int (0 : Int32), .int wc])) :: (A 10, .inl (G.2.1.1, 6, .inl fc)) :: r) 0 0 0 [(0, .ref x), (1, .int (nI k))] []
  refine J.aload_n 0 dX7_lookAtRow_0 rfl ?_
  refine J.iload_n 1 dX7_lookAtRow_1 rfl ?_
  refine J.callV 0 (st := []) B (c_X7_starNumbered l G _ hk hns hsa) ml_X7_80 mf_yX7_starNumbered mi_yX7_starNumbered rfl dX7_lookAtRow_2 rfl rfl rfl rfl (fun v_1 w_2 hp_3 => ?_)
  obtain ⟨rfl, rfl⟩ := hp_3
  show J G X mX7_lookAtRow _ _ _ 5 _ [.ref s]
  refine J.astore_n [1, 2, 0] (lv' := [(0, .ref x), (1, .int (nI k)), (2, .ref s)]) dX7_lookAtRow_5 rfl rfl ?_
  refine J.aload_n 2 dX7_lookAtRow_6 rfl ?_
  refine J.ifnonnull dX7_lookAtRow_7 ?_
  refine J.aload_n 2 dX7_lookAtRow_12 rfl ?_
  refine J.get 2 fl_X7_100 dX7_lookAtRow_13 rfl rfl ?_
  refine J.if_eq dX7_lookAtRow_16 (fun _ => ?_) (fun z => absurd z (by decide))
  refine J.aload_n 0 dX7_lookAtRow_23 rfl ?_
  refine J.iconst (1 : Int32) dX7_lookAtRow_24 rfl ?_
  refine J.re [0, 3, 1, 2] 4 (ws2 := (x, .inr (7, [.ref (A 0), .int (nI ns), .ref (A 1), .int (nI nr), .ref (A 2), .ref (A 3), .ref (A 4), .ref (A 5), .ref (A 6), .ref (A 7), .ref (A 8), .ref (A 9), .long to, .int al, .int wa, .int lf, .ref (A 10)])) :: (A 10, .inl (G.2.1.1, 6, .inl fc)) :: (A 0, .inl (G.2.1.2.2.1, 12, .inr (.inr (.inr (.inr sa))))) :: (s, .inr (6, [.int kd, .ref la, .int (0 : Int32), .int wc])) :: r) rfl rfl ?_
  refine J.callV 0 (st := []) B (c_X7_found l G _ (c := 1) (by decide) (by decide)) ml_X7_87 mf_yX7_found mi_yX7_found rfl dX7_lookAtRow_25 rfl rfl rfl rfl (fun v_4 w_5 hp_6 => ?_)
  obtain ⟨rfl, rfl⟩ := hp_6
  refine J.re [0, 2, 3, 1] 4 (ws2 := (x, .inr (7, [.ref (A 0), .int (nI ns), .ref (A 1), .int (nI nr), .ref (A 2), .ref (A 3), .ref (A 4), .ref (A 5), .ref (A 6), .ref (A 7), .ref (A 8), .ref (A 9), .long to, .int al, .int wa, .int (nI 1), .ref (A 10)])) :: (A 0, .inl (G.2.1.2.2.1, 12, .inr (.inr (.inr (.inr sa))))) :: (s, .inr (6, [.int kd, .ref la, .int (0 : Int32), .int wc])) :: (A 10, .inl (G.2.1.1, 6, .inl (upd fc 1 (fc 1 + 1)))) :: r) rfl rfl ?_
  show J G X mX7_lookAtRow _ _ _ 28 _ [.int (-3 : Int32)]
  exact J.iret B dX7_lookAtRow_28 rfl (⟨rfl, rfl⟩)
set_option maxHeartbeats 4000000 in
set_option maxRecDepth 100000 in
theorem c_X7_lookAtRow (l : Launch) (G : jG) (r : va_W) {x : Nat} {A : Nat → Nat} {ns nr : Nat} {to : Int64} {al wa lf : Int32} {sa : Nat → Option Nat} {la : Nat} {kd wc : Int32} {k s : Nat} (hk : k < ns) (hns : ns ≤ 12) (hsa : sa k = some s) : Mt l G yX7_lookAtRow mX7_lookAtRow 1 21 0 0 [.ref x, .int (nI k)] ((x, .inr (7, [.ref (A 0), .int (nI ns), .ref (A 1), .int (nI nr), .ref (A 2), .ref (A 3), .ref (A 4), .ref (A 5), .ref (A 6), .ref (A 7), .ref (A 8), .ref (A 9), .long to, .int al, .int wa, .int lf, .ref (A 10)])) :: (A 0, .inl (G.2.1.2.2.1, 12, .inr (.inr (.inr (.inr sa))))) :: (s, .inr (6, [.int kd, .ref la, .int (1 : Int32), .int wc])) :: r) (fun v w => v = some (.int (0 : Int32)) ∧ w = (x, .inr (7, [.ref (A 0), .int (nI ns), .ref (A 1), .int (nI nr), .ref (A 2), .ref (A 3), .ref (A 4), .ref (A 5), .ref (A 6), .ref (A 7), .ref (A 8), .ref (A 9), .long to, .int al, .int wa, .int lf, .ref (A 10)])) :: (A 0, .inl (G.2.1.2.2.1, 12, .inr (.inr (.inr (.inr sa))))) :: (s, .inr (6, [.int kd, .ref la, .int (1 : Int32), .int wc])) :: r) := by
  refine Mt.of (by decide +kernel) rfl rfl (fun X B => ?_)
  show J G X mX7_lookAtRow ((x, .inr (7, [.ref (A 0), .int (nI ns), .ref (A 1), .int (nI nr), .ref (A 2), .ref (A 3), .ref (A 4), .ref (A 5), .ref (A 6), .ref (A 7), .ref (A 8), .ref (A 9), .long to, .int al, .int wa, .int lf, .ref (A 10)])) :: (A 0, .inl (G.2.1.2.2.1, 12, .inr (.inr (.inr (.inr sa))))) :: (s, .inr (6, [.int kd, .ref la, .int (1 : Int32), .int wc])) :: r) 0 0 0 [(0, .ref x), (1, .int (nI k))] []
  refine J.aload_n 0 dX7_lookAtRow_0 rfl ?_
  refine J.iload_n 1 dX7_lookAtRow_1 rfl ?_
  refine J.callV 0 (st := []) B (c_X7_starNumbered l G _ hk hns hsa) ml_X7_80 mf_yX7_starNumbered mi_yX7_starNumbered rfl dX7_lookAtRow_2 rfl rfl rfl rfl (fun v_1 w_2 hp_3 => ?_)
  obtain ⟨rfl, rfl⟩ := hp_3
  show J G X mX7_lookAtRow _ _ _ 5 _ [.ref s]
  refine J.astore_n [1, 2, 0] (lv' := [(0, .ref x), (1, .int (nI k)), (2, .ref s)]) dX7_lookAtRow_5 rfl rfl ?_
  refine J.aload_n 2 dX7_lookAtRow_6 rfl ?_
  refine J.ifnonnull dX7_lookAtRow_7 ?_
  refine J.aload_n 2 dX7_lookAtRow_12 rfl ?_
  refine J.get 2 fl_X7_100 dX7_lookAtRow_13 rfl rfl ?_
  refine J.if_eq dX7_lookAtRow_16 (fun z => absurd z (by decide)) (fun _ => ?_)
  refine J.iconst (0 : Int32) dX7_lookAtRow_19 rfl ?_
  refine J.goto dX7_lookAtRow_20 ?_
  exact J.iret B dX7_lookAtRow_28 rfl (⟨rfl, rfl⟩)
set_option maxHeartbeats 4000000 in
set_option maxRecDepth 100000 in
theorem c_X7_lookAtNight_bad (l : Launch) (G : jG) (r : va_W) {x : Nat} {A : Nat → Nat} {ns nr : Nat} {to : Int64} {al wa lf : Int32} {sa : Nat → Option Nat} {num : Int32} (hns : ns ≤ 12) (hnum : inR num 0 ((ns : Int) - 1) = false) {nt : Int32} : Mt l G yX7_lookAtNight mX7_lookAtNight 2 43 0 0 [.ref x, .int num, .int nt] ((x, .inr (7, [.ref (A 0), .int (nI ns), .ref (A 1), .int (nI nr), .ref (A 2), .ref (A 3), .ref (A 4), .ref (A 5), .ref (A 6), .ref (A 7), .ref (A 8), .ref (A 9), .long to, .int al, .int wa, .int lf, .ref (A 10)])) :: (A 0, .inl (G.2.1.2.2.1, 12, .inr (.inr (.inr (.inr sa))))) :: r) (fun v w => v = some (.int (-1 : Int32)) ∧ w = (x, .inr (7, [.ref (A 0), .int (nI ns), .ref (A 1), .int (nI nr), .ref (A 2), .ref (A 3), .ref (A 4), .ref (A 5), .ref (A 6), .ref (A 7), .ref (A 8), .ref (A 9), .long to, .int al, .int wa, .int lf, .ref (A 10)])) :: (A 0, .inl (G.2.1.2.2.1, 12, .inr (.inr (.inr (.inr sa))))) :: r) := by
  refine Mt.of (by decide +kernel) rfl rfl (fun X B => ?_)
  show J G X mX7_lookAtNight ((x, .inr (7, [.ref (A 0), .int (nI ns), .ref (A 1), .int (nI nr), .ref (A 2), .ref (A 3), .ref (A 4), .ref (A 5), .ref (A 6), .ref (A 7), .ref (A 8), .ref (A 9), .long to, .int al, .int wa, .int lf, .ref (A 10)])) :: (A 0, .inl (G.2.1.2.2.1, 12, .inr (.inr (.inr (.inr sa))))) :: r) 0 0 0 [(0, .ref x), (1, .int num), (2, .int nt)] []
  refine J.aload_n 0 dX7_lookAtNight_0 rfl ?_
  refine J.iload_n 1 dX7_lookAtNight_1 rfl ?_
  refine J.callV 0 (st := []) B (c_X7_lookAtRow_bad l G _ hns hnum) ml_X7_119 mf_yX7_lookAtRow mi_yX7_lookAtRow rfl dX7_lookAtNight_2 rfl rfl rfl rfl (fun v_1 w_2 hp_3 => ?_)
  obtain ⟨rfl, rfl⟩ := hp_3
  show J G X mX7_lookAtNight _ _ _ 5 _ [.int (-1 : Int32)]
  refine J.istore_n [1, 2, 3, 0] (lv' := [(0, .ref x), (1, .int num), (2, .int nt), (3, .int (-1 : Int32))]) dX7_lookAtNight_5 rfl rfl ?_
  refine J.iload_n 3 dX7_lookAtNight_6 rfl ?_
  refine J.if_ne dX7_lookAtNight_7 (fun _ => ?_) (fun z => absurd z (by decide))
  refine J.iload_n 3 dX7_lookAtNight_23 rfl ?_
  exact J.iret B dX7_lookAtNight_24 rfl (⟨rfl, rfl⟩)
set_option maxHeartbeats 4000000 in
set_option maxRecDepth 100000 in
theorem c_X7_lookAtNight_no (l : Launch) (G : jG) (r : va_W) {x : Nat} {A : Nat → Nat} {ns nr : Nat} {to : Int64} {al wa lf : Int32} {sa : Nat → Option Nat} {la : Nat} {kd wc : Int32} {k s : Nat} (hk : k < ns) (hns : ns ≤ 12) (hsa : sa k = some s) {fc : Nat → Int32} {nt : Int32} : Mt l G yX7_lookAtNight mX7_lookAtNight 2 43 0 0 [.ref x, .int (nI k), .int nt] ((x, .inr (7, [.ref (A 0), .int (nI ns), .ref (A 1), .int (nI nr), .ref (A 2), .ref (A 3), .ref (A 4), .ref (A 5), .ref (A 6), .ref (A 7), .ref (A 8), .ref (A 9), .long to, .int al, .int wa, .int lf, .ref (A 10)])) :: (A 0, .inl (G.2.1.2.2.1, 12, .inr (.inr (.inr (.inr sa))))) :: (s, .inr (6, [.int kd, .ref la, .int (0 : Int32), .int wc])) :: (A 10, .inl (G.2.1.1, 6, .inl fc)) :: r) (fun v w => v = some (.int (-3 : Int32)) ∧ w = (x, .inr (7, [.ref (A 0), .int (nI ns), .ref (A 1), .int (nI nr), .ref (A 2), .ref (A 3), .ref (A 4), .ref (A 5), .ref (A 6), .ref (A 7), .ref (A 8), .ref (A 9), .long to, .int al, .int wa, .int (nI 1), .ref (A 10)])) :: (A 0, .inl (G.2.1.2.2.1, 12, .inr (.inr (.inr (.inr sa))))) :: (s, .inr (6, [.int kd, .ref la, .int (0 : Int32), .int wc])) :: (A 10, .inl (G.2.1.1, 6, .inl (upd fc 1 (fc 1 + 1)))) :: r) := by
  refine Mt.of (by decide +kernel) rfl rfl (fun X B => ?_)
  show J G X mX7_lookAtNight ((x, .inr (7, [.ref (A 0), .int (nI ns), .ref (A 1), .int (nI nr), .ref (A 2), .ref (A 3), .ref (A 4), .ref (A 5), .ref (A 6), .ref (A 7), .ref (A 8), .ref (A 9), .long to, .int al, .int wa, .int lf, .ref (A 10)])) :: (A 0, .inl (G.2.1.2.2.1, 12, .inr (.inr (.inr (.inr sa))))) :: (s, .inr (6, [.int kd, .ref la, .int (0 : Int32), .int wc])) :: (A 10, .inl (G.2.1.1, 6, .inl fc)) :: r) 0 0 0 [(0, .ref x), (1, .int (nI k)), (2, .int nt)] []
  refine J.aload_n 0 dX7_lookAtNight_0 rfl ?_
  refine J.iload_n 1 dX7_lookAtNight_1 rfl ?_
  refine J.callV 0 (st := []) B (c_X7_lookAtRow_no l G _ hk hns hsa) ml_X7_119 mf_yX7_lookAtRow mi_yX7_lookAtRow rfl dX7_lookAtNight_2 rfl rfl rfl rfl (fun v_1 w_2 hp_3 => ?_)
  obtain ⟨rfl, rfl⟩ := hp_3
  show J G X mX7_lookAtNight _ _ _ 5 _ [.int (-3 : Int32)]
  refine J.istore_n [1, 2, 3, 0] (lv' := [(0, .ref x), (1, .int (nI k)), (2, .int nt), (3, .int (-3 : Int32))]) dX7_lookAtNight_5 rfl rfl ?_
  refine J.iload_n 3 dX7_lookAtNight_6 rfl ?_
  refine J.if_ne dX7_lookAtNight_7 (fun _ => ?_) (fun z => absurd z (by decide))
  refine J.iload_n 3 dX7_lookAtNight_23 rfl ?_
  exact J.iret B dX7_lookAtNight_24 rfl (⟨rfl, rfl⟩)
set_option maxHeartbeats 4000000 in
set_option maxRecDepth 100000 in
theorem c_X7_lookAtNight_by (l : Launch) (G : jG) (r : va_W) {x : Nat} {A : Nat → Nat} {ns nr : Nat} {to : Int64} {al wa lf : Int32} {sa : Nat → Option Nat} {la : Nat} {kd wc : Int32} {k s : Nat} (hk : k < ns) (hns : ns ≤ 12) (hsa : sa k = some s) {fc : Nat → Int32} {nt : Int32} (hnt : inR nt 0 59 = false) : Mt l G yX7_lookAtNight mX7_lookAtNight 2 43 0 0 [.ref x, .int (nI k), .int nt] ((x, .inr (7, [.ref (A 0), .int (nI ns), .ref (A 1), .int (nI nr), .ref (A 2), .ref (A 3), .ref (A 4), .ref (A 5), .ref (A 6), .ref (A 7), .ref (A 8), .ref (A 9), .long to, .int al, .int wa, .int lf, .ref (A 10)])) :: (A 0, .inl (G.2.1.2.2.1, 12, .inr (.inr (.inr (.inr sa))))) :: (s, .inr (6, [.int kd, .ref la, .int (1 : Int32), .int wc])) :: (A 10, .inl (G.2.1.1, 6, .inl fc)) :: r) (fun v w => v = some (.int (-3 : Int32)) ∧ w = (x, .inr (7, [.ref (A 0), .int (nI ns), .ref (A 1), .int (nI nr), .ref (A 2), .ref (A 3), .ref (A 4), .ref (A 5), .ref (A 6), .ref (A 7), .ref (A 8), .ref (A 9), .long to, .int al, .int wa, .int (nI 2), .ref (A 10)])) :: (A 0, .inl (G.2.1.2.2.1, 12, .inr (.inr (.inr (.inr sa))))) :: (s, .inr (6, [.int kd, .ref la, .int (1 : Int32), .int wc])) :: (A 10, .inl (G.2.1.1, 6, .inl (upd fc 2 (fc 2 + 1)))) :: r) := by
  refine Mt.of (by decide +kernel) rfl rfl (fun X B => ?_)
  show J G X mX7_lookAtNight ((x, .inr (7, [.ref (A 0), .int (nI ns), .ref (A 1), .int (nI nr), .ref (A 2), .ref (A 3), .ref (A 4), .ref (A 5), .ref (A 6), .ref (A 7), .ref (A 8), .ref (A 9), .long to, .int al, .int wa, .int lf, .ref (A 10)])) :: (A 0, .inl (G.2.1.2.2.1, 12, .inr (.inr (.inr (.inr sa))))) :: (s, .inr (6, [.int kd, .ref la, .int (1 : Int32), .int wc])) :: (A 10, .inl (G.2.1.1, 6, .inl fc)) :: r) 0 0 0 [(0, .ref x), (1, .int (nI k)), (2, .int nt)] []
  refine J.aload_n 0 dX7_lookAtNight_0 rfl ?_
  refine J.iload_n 1 dX7_lookAtNight_1 rfl ?_
  refine J.callV 0 (st := []) B (c_X7_lookAtRow l G _ hk hns hsa) ml_X7_119 mf_yX7_lookAtRow mi_yX7_lookAtRow rfl dX7_lookAtNight_2 rfl rfl rfl rfl (fun v_1 w_2 hp_3 => ?_)
  obtain ⟨rfl, rfl⟩ := hp_3
  show J G X mX7_lookAtNight _ _ _ 5 _ [.int (0 : Int32)]
  refine J.istore_n [1, 2, 3, 0] (lv' := [(0, .ref x), (1, .int (nI k)), (2, .int nt), (3, .int (0 : Int32))]) dX7_lookAtNight_5 rfl rfl ?_
  refine J.iload_n 3 dX7_lookAtNight_6 rfl ?_
  refine J.if_ne dX7_lookAtNight_7 (fun z => absurd z (by decide)) (fun _ => ?_)
  refine J.iload_n 2 dX7_lookAtNight_10 rfl ?_
  refine J.callS (st := []) B (c_X7_isNight l G _ (k := nt)) ml_X7_132 mf_yX7_isNight mS_yX7_isNight dX7_lookAtNight_11 rfl rfl rfl (fun v_4 w_5 hp_6 => ?_)
  obtain ⟨rfl, rfl⟩ := hp_6
  show J G X mX7_lookAtNight _ _ _ 14 _ [.int (b01 (inR nt 0 59))]
  refine J.if_ne dX7_lookAtNight_14 (fun z => absurd (by rw [hnt]; rfl) z) (fun h9 => ?_)
  refine J.aload_n 0 dX7_lookAtNight_17 rfl ?_
  refine J.iconst (2 : Int32) dX7_lookAtNight_18 rfl ?_
  refine J.re [0, 3, 1, 2] 4 (ws2 := (x, .inr (7, [.ref (A 0), .int (nI ns), .ref (A 1), .int (nI nr), .ref (A 2), .ref (A 3), .ref (A 4), .ref (A 5), .ref (A 6), .ref (A 7), .ref (A 8), .ref (A 9), .long to, .int al, .int wa, .int lf, .ref (A 10)])) :: (A 10, .inl (G.2.1.1, 6, .inl fc)) :: (A 0, .inl (G.2.1.2.2.1, 12, .inr (.inr (.inr (.inr sa))))) :: (s, .inr (6, [.int kd, .ref la, .int (1 : Int32), .int wc])) :: r) rfl rfl ?_
  refine J.callV 0 (st := []) B (c_X7_found l G _ (c := 2) (by decide) (by decide)) ml_X7_87 mf_yX7_found mi_yX7_found rfl dX7_lookAtNight_19 rfl rfl rfl rfl (fun v_7 w_8 hp_9 => ?_)
  obtain ⟨rfl, rfl⟩ := hp_9
  refine J.re [0, 2, 3, 1] 4 (ws2 := (x, .inr (7, [.ref (A 0), .int (nI ns), .ref (A 1), .int (nI nr), .ref (A 2), .ref (A 3), .ref (A 4), .ref (A 5), .ref (A 6), .ref (A 7), .ref (A 8), .ref (A 9), .long to, .int al, .int wa, .int (nI 2), .ref (A 10)])) :: (A 0, .inl (G.2.1.2.2.1, 12, .inr (.inr (.inr (.inr sa))))) :: (s, .inr (6, [.int kd, .ref la, .int (1 : Int32), .int wc])) :: (A 10, .inl (G.2.1.1, 6, .inl (upd fc 2 (fc 2 + 1)))) :: r) rfl rfl ?_
  show J G X mX7_lookAtNight _ _ _ 22 _ [.int (-3 : Int32)]
  exact J.iret B dX7_lookAtNight_22 rfl (⟨rfl, rfl⟩)
set_option maxHeartbeats 4000000 in
set_option maxRecDepth 100000 in
theorem c_X7_lookAtNight (l : Launch) (G : jG) (r : va_W) {x : Nat} {A : Nat → Nat} {ns nr : Nat} {to : Int64} {al wa lf : Int32} {sa : Nat → Option Nat} {la : Nat} {kd wc : Int32} {k s : Nat} (hk : k < ns) (hns : ns ≤ 12) (hsa : sa k = some s) {nt : Int32} (hnt : inR nt 0 59 = true) : Mt l G yX7_lookAtNight mX7_lookAtNight 2 43 0 0 [.ref x, .int (nI k), .int nt] ((x, .inr (7, [.ref (A 0), .int (nI ns), .ref (A 1), .int (nI nr), .ref (A 2), .ref (A 3), .ref (A 4), .ref (A 5), .ref (A 6), .ref (A 7), .ref (A 8), .ref (A 9), .long to, .int al, .int wa, .int lf, .ref (A 10)])) :: (A 0, .inl (G.2.1.2.2.1, 12, .inr (.inr (.inr (.inr sa))))) :: (s, .inr (6, [.int kd, .ref la, .int (1 : Int32), .int wc])) :: r) (fun v w => v = some (.int (0 : Int32)) ∧ w = (x, .inr (7, [.ref (A 0), .int (nI ns), .ref (A 1), .int (nI nr), .ref (A 2), .ref (A 3), .ref (A 4), .ref (A 5), .ref (A 6), .ref (A 7), .ref (A 8), .ref (A 9), .long to, .int al, .int wa, .int lf, .ref (A 10)])) :: (A 0, .inl (G.2.1.2.2.1, 12, .inr (.inr (.inr (.inr sa))))) :: (s, .inr (6, [.int kd, .ref la, .int (1 : Int32), .int wc])) :: r) := by
  refine Mt.of (by decide +kernel) rfl rfl (fun X B => ?_)
  show J G X mX7_lookAtNight ((x, .inr (7, [.ref (A 0), .int (nI ns), .ref (A 1), .int (nI nr), .ref (A 2), .ref (A 3), .ref (A 4), .ref (A 5), .ref (A 6), .ref (A 7), .ref (A 8), .ref (A 9), .long to, .int al, .int wa, .int lf, .ref (A 10)])) :: (A 0, .inl (G.2.1.2.2.1, 12, .inr (.inr (.inr (.inr sa))))) :: (s, .inr (6, [.int kd, .ref la, .int (1 : Int32), .int wc])) :: r) 0 0 0 [(0, .ref x), (1, .int (nI k)), (2, .int nt)] []
  refine J.aload_n 0 dX7_lookAtNight_0 rfl ?_
  refine J.iload_n 1 dX7_lookAtNight_1 rfl ?_
  refine J.callV 0 (st := []) B (c_X7_lookAtRow l G _ hk hns hsa) ml_X7_119 mf_yX7_lookAtRow mi_yX7_lookAtRow rfl dX7_lookAtNight_2 rfl rfl rfl rfl (fun v_1 w_2 hp_3 => ?_)
  obtain ⟨rfl, rfl⟩ := hp_3
  show J G X mX7_lookAtNight _ _ _ 5 _ [.int (0 : Int32)]
  refine J.istore_n [1, 2, 3, 0] (lv' := [(0, .ref x), (1, .int (nI k)), (2, .int nt), (3, .int (0 : Int32))]) dX7_lookAtNight_5 rfl rfl ?_
  refine J.iload_n 3 dX7_lookAtNight_6 rfl ?_
  refine J.if_ne dX7_lookAtNight_7 (fun z => absurd z (by decide)) (fun _ => ?_)
  refine J.iload_n 2 dX7_lookAtNight_10 rfl ?_
  refine J.callS (st := []) B (c_X7_isNight l G _ (k := nt)) ml_X7_132 mf_yX7_isNight mS_yX7_isNight dX7_lookAtNight_11 rfl rfl rfl (fun v_4 w_5 hp_6 => ?_)
  obtain ⟨rfl, rfl⟩ := hp_6
  show J G X mX7_lookAtNight _ _ _ 14 _ [.int (b01 (inR nt 0 59))]
  refine J.if_ne dX7_lookAtNight_14 (fun h9 => ?_) (fun z => absurd z (by rw [hnt]; decide))
  refine J.iload_n 3 dX7_lookAtNight_23 rfl ?_
  exact J.iret B dX7_lookAtNight_24 rfl (⟨rfl, rfl⟩)
end
section
theorem snoc_ind {α : Type} {P : List α → Prop} (h0 : P []) (hs : ∀ vs v, P vs → P (vs ++ [v])) : ∀ vs, P vs := by
  have key : ∀ n (vs : List α), vs.length = n → P vs := by
    intro n
    induction n with
    | zero => intro vs h; rw [List.length_eq_zero_iff.mp h]; exact h0
    | succ n ih =>
      intro vs h
      rcases List.eq_nil_or_concat vs with e | ⟨ws, v, e⟩
      · rw [e] at h; exact absurd h (by simp)
      · rw [List.concat_eq_append] at e
        subst e
        refine hs ws v (ih ws ?_)
        rw [List.length_append, List.length_singleton] at h
        omega
  exact fun vs => key _ vs rfl
theorem insR_head (v : Int32) : ∀ (l : List Int32) (m : Int32), l.head? = some m → (insR v l).head? = some (if m < v then v else m)
  | [], m, h => by cases h
  | x :: xs, m, h => by
    have e : x = m := by simpa using h
    subst e
    unfold insR
    by_cases h1 : x ≤ v
    · rw [if_pos h1]
      by_cases h2 : x < v
      · rw [if_pos h2]; rfl
      · rw [if_neg h2]
        have : x = v := by rw [fa_eq]; rw [fa_le] at h1; rw [fa_lt] at h2; omega
        rw [this]; rfl
    · rw [if_neg h1, if_neg (fun z => h1 (by rw [fa_le]; rw [fa_lt] at z; omega))]
      rfl
theorem insR_ne (v : Int32) : ∀ l, insR v l ≠ []
  | [] => by simp [insR]
  | x :: xs => by unfold insR; split <;> simp
theorem insR_last (v : Int32) : ∀ (l : List Int32) (m : Int32), l.getLast? = some m → (∀ x ∈ l, m ≤ x) → (insR v l).getLast? = some (if v < m then v else m)
  | [], m, h, _ => by cases h
  | [x], m, h, _ => by
    have e : x = m := by simpa using h
    subst e
    unfold insR
    by_cases h1 : x ≤ v
    · rw [if_pos h1, if_neg (Int32.not_lt.mpr h1)]; rfl
    · rw [if_neg h1, if_pos (Int32.not_le.mp h1)]; rfl
  | x :: y :: ys, m, h, hb => by
    have h' : (y :: ys).getLast? = some m := by rw [List.getLast?_cons_cons] at h; exact h
    unfold insR
    by_cases h1 : x ≤ v
    · rw [if_pos h1]
      have h2 := hb x List.mem_cons_self
      rw [if_neg (fun z => by rw [fa_lt] at z; rw [fa_le] at h1 h2; omega)]
      rw [List.getLast?_cons_cons, List.getLast?_cons_cons]
      exact h'
    · rw [if_neg h1]
      have ih := insR_last v (y :: ys) m h' (fun z hz => hb z (List.mem_cons_of_mem _ hz))
      rw [List.getLast?_cons, ih]
      rfl
theorem insR_mem {v y : Int32} : ∀ {l : List Int32}, y ∈ insR v l → y = v ∨ y ∈ l
  | [], h => Or.inl (by simpa [insR] using h)
  | x :: xs, h => by
    unfold insR at h
    split at h
    · simpa using h
    · rcases List.mem_cons.mp h with rfl | h
      · exact Or.inr List.mem_cons_self
      · rcases insR_mem h with h | h
        · exact Or.inl h
        · exact Or.inr (List.mem_cons_of_mem _ h)
theorem swF_inv : ∀ vs : List Int32, (swF vs).2.2 = vs.length ∧ (vs ≠ [] → (bsz vs).head? = some (swF vs).2.1 ∧ (bsz vs).getLast? = some (swF vs).1 ∧ ∀ x ∈ bsz vs, (swF vs).1 ≤ x) := by
  apply snoc_ind
  · exact ⟨rfl, fun h => absurd rfl h⟩
  · intro vs v ih
    rw [swF_snoc, bsz_snoc]
    refine ⟨?_, fun _ => ?_⟩
    · show (swF vs).2.2 + 1 = _
      rw [ih.1, List.length_append, List.length_singleton]
    · by_cases h0 : vs = []
      · subst h0
        refine ⟨rfl, rfl, fun x hx => ?_⟩
        have : x = v := by simpa [bsz, insR] using hx
        subst this
        show x ≤ x
        rw [fa_le]; omega
      · have hl : ¬ (swF vs).2.2 = 0 := by rw [ih.1]; exact fun z => h0 (List.length_eq_zero_iff.mp z)
        obtain ⟨i1, i2, i3⟩ := ih.2 h0
        have e1 : (swS (swF vs) v).1 = if v < (swF vs).1 then v else (swF vs).1 := by
          show (if (swF vs).2.2 = 0 ∨ v < (swF vs).1 then v else (swF vs).1) = _
          by_cases h2 : v < (swF vs).1
          · rw [if_pos (Or.inr h2), if_pos h2]
          · rw [if_neg (fun z => z.elim hl h2), if_neg h2]
        have e2 : (swS (swF vs) v).2.1 = if (swF vs).2.1 < v then v else (swF vs).2.1 := by
          show (if (swF vs).2.2 = 0 ∨ (swF vs).2.1 < v then v else (swF vs).2.1) = _
          by_cases h2 : (swF vs).2.1 < v
          · rw [if_pos (Or.inr h2), if_pos h2]
          · rw [if_neg (fun z => z.elim hl h2), if_neg h2]
        rw [e1, e2]
        refine ⟨insR_head v _ _ i1, insR_last v _ _ i2 i3, fun x hx => ?_⟩
        rcases insR_mem hx with rfl | hx
        · split
          · rw [fa_le]; omega
          · rename_i h2; exact Int32.not_lt.mp h2
        · have := i3 x hx
          split
          · rename_i h2; rw [fa_le] at this ⊢; rw [fa_lt] at h2; omega
          · exact this
theorem swg_of {f : Nat → Int32} {vs : List Int32} (h : AG f (bsz vs)) : (if vs.length = 0 then 0 else f (vs.length - 1) - f 0) = swg vs := by
  by_cases h0 : vs.length = 0
  · rw [if_pos h0, List.length_eq_zero_iff.mp h0]; rfl
  · rw [if_neg h0]
    obtain ⟨i1, i2, -⟩ := (swF_inv vs).2 (fun z => h0 (by rw [z]; rfl))
    have l1 := bsz_len vs
    have a1 := AG_get (d := 0) (i := vs.length - 1) h (by rw [l1]; omega)
    have a2 := AG_get (d := 0) (i := 0) h (by rw [l1]; omega)
    rw [a1, a2, l1, show vs.length - 1 - (vs.length - 1) = 0 by omega, Nat.sub_zero]
    unfold swg
    have b1 : (bsz vs).getD 0 0 = (swF vs).2.1 := by
      rw [List.getD_eq_getElem?_getD, ← List.head?_eq_getElem?, i1]; rfl
    have b2 : (bsz vs).getD (vs.length - 1) 0 = (swF vs).1 := by
      rw [List.getD_eq_getElem?_getD, ← l1, ← List.getLast?_eq_getElem?, i2]; rfl
    rw [b1, b2]
theorem take_lits {L F : Nat → Int32} {i : Nat} (h : i < nN L) : bsz ((lits L F 60).take (i + 1)) = insR (ltF L F (ntN L i)) (bsz ((lits L F 60).take i)) := by
  have hl : i < (lits L F 60).length := by rw [lits_len]; exact h
  rw [take_getD (d := ltF L F 0) hl, bsz_snoc]
  congr 1
  unfold lits
  rw [List.getD_eq_getElem?_getD, List.getElem?_map, List.getElem?_eq_getElem h]
  unfold ntN
  rw [List.getD_eq_getElem?_getD, List.getElem?_eq_getElem h]
  rfl
theorem take_lits_len {L F : Nat → Int32} {i : Nat} (h : i ≤ nN L) : (bsz ((lits L F 60).take i)).length = i := by
  rw [bsz_len, List.length_take, lits_len]
  exact Nat.min_eq_left h
theorem AG_put {f : Nat → Int32} {l : List Int32} {n : Nat} (v : Int32) (h : AG f l) (hn : l.length = n) : AG (insA f v n) (insR v l) := hn ▸ AG_ins v l f h
theorem lits_l60 (L F : Nat → Int32) : (lits L F 60).length = nN L := lits_len L F 60
/-- lights without FOOTINGS -/
def rws (L : Nat → Int32) (k : Nat) : List Int32 := (nts L k).map L
theorem rws_len (L : Nat → Int32) (k : Nat) : (rws L k).length = (nts L k).length := List.length_map ..
theorem rws_yes {L : Nat → Int32} {k : Nat} (h : ¬ L k = -9) : rws L (k + 1) = rws L k ++ [L k] := by
  unfold rws
  rw [nts_yes h, List.map_append]
  rfl
theorem rws_no {L : Nat → Int32} {k : Nat} (h : L k = -9) : rws L (k + 1) = rws L k := by
  unfold rws
  rw [nts_no h]
theorem brw_yes {L : Nat → Int32} {k : Nat} (h : ¬ L k = -9) : bsz (rws L (k + 1)) = insR (L k) (bsz (rws L k)) := by rw [rws_yes h, bsz_snoc]
theorem brw_len (L : Nat → Int32) (k : Nat) : (bsz (rws L k)).length = (nts L k).length := by rw [bsz_len, rws_len]
/-! clocks -/
def tuI (k c p q : Nat) : Int := (2 * ((k : Int) - c) * q + p) / (2 * (p : Int))
def laI (k c p q : Nat) : Int := (q : Int) * ((k : Int) - c) - tuI k c p q * p
theorem nI_ofI (n : Nat) : nI n = Int32.ofInt (n : Int) := (Int32.ofInt_eq_ofNat).symm
theorem prod_bd {a b : Int} {m n : Int} (h1 : -m ≤ a) (h2 : a ≤ m) (h3 : 0 ≤ b) (h4 : b ≤ n) (hm : 0 ≤ m) : -(m * n) ≤ a * b ∧ a * b ≤ m * n := by
  have e1 : a * b ≤ m * b := Int.mul_le_mul_of_nonneg_right h2 h3
  have e2 : (-m) * b ≤ a * b := Int.mul_le_mul_of_nonneg_right h1 h3
  have e3 : m * b ≤ m * n := Int.mul_le_mul_of_nonneg_left h4 hm
  rw [Int.neg_mul] at e2
  omega
theorem tu_arg {k c q : Nat} (p : Nat) (hk : k < 60) (hc : c < 60) (hq : q ≤ 60) (hp : p ≤ 600) : -8000 ≤ 2 * ((k : Int) - c) * q + p ∧ 2 * ((k : Int) - c) * q + p ≤ 8000 := by
  have := prod_bd (a := 2 * ((k : Int) - c)) (b := q) (m := 118) (n := 60) (by omega) (by omega) (by omega) (by omega) (by omega)
  omega
theorem tu_cls {k c p q : Nat} (hk : k < 60) (hc : c < 60) (hq : q ≤ 60) (hp : p ≤ 600) : Int32.ofInt ((2 * (nI k - nI c) * nI q + nI p).toInt / (2 * nI p).toInt) = Int32.ofInt (tuI k c p q) := by
  have e1 : 2 * (nI k - nI c) * nI q + nI p = Int32.ofInt (2 * ((k : Int) - c) * q + p) := by
    rw [nI_ofI, nI_ofI, nI_ofI, nI_ofI, show (2 : Int32) = Int32.ofInt 2 from rfl, ← Int32.ofInt_sub, ← Int32.ofInt_mul, ← Int32.ofInt_mul, ← Int32.ofInt_add]
  have e2 : 2 * nI p = Int32.ofInt (2 * (p : Int)) := by rw [nI_ofI, show (2 : Int32) = Int32.ofInt 2 from rfl, ← Int32.ofInt_mul]
  have b := tu_arg (k := k) (c := c) p hk hc hq hp
  rw [e1, e2, fb_ofI (by omega) (by omega), fb_ofI (by omega) (by omega)]
  rfl
theorem la_cls (k c p q : Nat) : nI q * (nI k - nI c) - Int32.ofInt (tuI k c p q) * nI p = Int32.ofInt (laI k c p q) := by
  unfold laI
  rw [nI_ofI, nI_ofI, nI_ofI, nI_ofI, Int32.ofInt_sub, Int32.ofInt_mul, Int32.ofInt_mul, Int32.ofInt_sub]
theorem tu_bd {k c p q : Nat} (hk : k < 60) (hc : c < 60) (hq : q ≤ 60) (hp1 : 1 ≤ p) (hp : p ≤ 600) : -8000 ≤ tuI k c p q ∧ tuI k c p q ≤ 8000 := by
  have b := tu_arg (k := k) (c := c) p hk hc hq hp
  unfold tuI
  generalize 2 * ((k : Int) - c) * q + p = z at *
  constructor
  · exact Int.le_trans (by omega) (Int.le_trans (Int.le_ediv_of_mul_le (a := -8000) (c := 2 * (p : Int)) (by omega) (by omega)) (Int.le_refl _))
  · exact Int.ediv_le_of_le_mul (by omega) (by omega)
theorem la_bd {k c p q : Nat} (hp1 : 1 ≤ p) (hp : p ≤ 600) : -600 ≤ laI k c p q ∧ laI k c p q ≤ 600 := by
  have d1 := Int.mul_ediv_add_emod (2 * ((k : Int) - c) * q + p) (2 * (p : Int))
  have d2 := Int.emod_nonneg (2 * ((k : Int) - c) * q + p) (show 2 * (p : Int) ≠ 0 by omega)
  have d3 := Int.emod_lt_of_pos (2 * ((k : Int) - c) * q + p) (show 0 < 2 * (p : Int) by omega)
  unfold laI tuI
  have m1 : 2 * ((q : Int) * ((k : Int) - c)) = 2 * ((k : Int) - c) * q := by rw [Int.mul_comm (q : Int), ← Int.mul_assoc]
  have m2 : 2 * ((2 * ((k : Int) - c) * q + p) / (2 * (p : Int)) * p) = 2 * (p : Int) * ((2 * ((k : Int) - c) * q + p) / (2 * (p : Int))) := by
    rw [← Int.mul_assoc, Int.mul_comm 2 _, Int.mul_assoc, Int.mul_comm]
  generalize (2 * ((k : Int) - c) * q + p) / (2 * (p : Int)) * p = t at *
  generalize (q : Int) * ((k : Int) - c) = u at *
  omega
theorem wide_ofI {z : Int} (h1 : -2147483648 ≤ z) (h2 : z < 2147483648) : (Int32.ofInt z).toInt64 = Int64.ofInt z := by
  apply i64_eq
  rw [Int32.toInt_toInt64, fb_ofI h1 h2]
end
