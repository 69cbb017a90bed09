-- ===== PART A: goes FIRST, ahead of the names: the tables' words, and 'selects' of the private methods out of them =====
/-- a private method of a class that the tables say can be made, by its rows of tables_1 -/
def lw_okq (q : MethodName × Nat) : Prop := (q.1.cls ≠ "java/lang/invoke/MethodHandle" ∧ q.1.cls ≠ "java/lang/invoke/VarHandle") ∧ Cond.instantiable q.1.cls q.2 ∈ tables_1 ∧ Cond.privateMethod q.1 ∈ tables_1 ∧ Cond.instanceMethod q.1 ∈ tables_1
theorem lw_p0 : lw_okq (⟨"RoseLathe", "rosetteOf", "(I)LRoseLathe$Rosette;"⟩, 7) := ⟨⟨by decide +kernel, by decide +kernel⟩, List.mem_of_getElem? (i := 10) (by decide +kernel), List.mem_of_getElem? (i := 158) (by decide +kernel), List.mem_of_getElem? (i := 159) (by decide +kernel)⟩
theorem lw_p1 : lw_okq (⟨"RoseLathe$Rosette", "staysWhenTurned", "(I)Z"⟩, 3) := ⟨⟨by decide +kernel, by decide +kernel⟩, List.mem_of_getElem? (i := 113) (by decide +kernel), List.mem_of_getElem? (i := 209) (by decide +kernel), List.mem_of_getElem? (i := 210) (by decide +kernel)⟩
theorem lw_p2 : lw_okq (⟨"RoseLathe$Rosette", "comesBefore", "(II)Z"⟩, 3) := ⟨⟨by decide +kernel, by decide +kernel⟩, List.mem_of_getElem? (i := 113) (by decide +kernel), List.mem_of_getElem? (i := 222) (by decide +kernel), List.mem_of_getElem? (i := 223) (by decide +kernel)⟩
theorem lw_p3 : lw_okq (⟨"RoseLathe", "mayBeSet", "(IIIIII)Z"⟩, 7) := ⟨⟨by decide +kernel, by decide +kernel⟩, List.mem_of_getElem? (i := 10) (by decide +kernel), List.mem_of_getElem? (i := 247) (by decide +kernel), List.mem_of_getElem? (i := 248) (by decide +kernel)⟩
theorem lw_p4 : lw_okq (⟨"RoseLathe", "slippedPlace", "(II)I"⟩, 7) := ⟨⟨by decide +kernel, by decide +kernel⟩, List.mem_of_getElem? (i := 10) (by decide +kernel), List.mem_of_getElem? (i := 277) (by decide +kernel), List.mem_of_getElem? (i := 278) (by decide +kernel)⟩
theorem lw_p5 : lw_okq (⟨"RoseLathe", "slipAt", "(I)I"⟩, 7) := ⟨⟨by decide +kernel, by decide +kernel⟩, List.mem_of_getElem? (i := 10) (by decide +kernel), List.mem_of_getElem? (i := 281) (by decide +kernel), List.mem_of_getElem? (i := 282) (by decide +kernel)⟩
theorem lw_p6 : lw_okq (⟨"RoseLathe", "placeOf", "(LRoseLathe$Setting;II)I"⟩, 7) := ⟨⟨by decide +kernel, by decide +kernel⟩, List.mem_of_getElem? (i := 10) (by decide +kernel), List.mem_of_getElem? (i := 285) (by decide +kernel), List.mem_of_getElem? (i := 286) (by decide +kernel)⟩
theorem lw_p7 : lw_okq (⟨"RoseLathe", "wallAt", "(II)I"⟩, 7) := ⟨⟨by decide +kernel, by decide +kernel⟩, List.mem_of_getElem? (i := 10) (by decide +kernel), List.mem_of_getElem? (i := 298) (by decide +kernel), List.mem_of_getElem? (i := 299) (by decide +kernel)⟩
theorem lw_p8 : lw_okq (⟨"RoseLathe", "seenPlace", "(II)I"⟩, 7) := ⟨⟨by decide +kernel, by decide +kernel⟩, List.mem_of_getElem? (i := 10) (by decide +kernel), List.mem_of_getElem? (i := 337) (by decide +kernel), List.mem_of_getElem? (i := 338) (by decide +kernel)⟩
theorem lw_p9 : lw_okq (⟨"RoseLathe$Search", "noteSeenRings", "(LRoseLathe$Plate;)V"⟩, 7) := ⟨⟨by decide +kernel, by decide +kernel⟩, List.mem_of_getElem? (i := 81) (by decide +kernel), List.mem_of_getElem? (i := 358) (by decide +kernel), List.mem_of_getElem? (i := 359) (by decide +kernel)⟩
theorem lw_p10 : lw_okq (⟨"RoseLathe$Search", "findOfRosette", "(LRoseLathe$Plate;ILRoseLathe$Rosette;I)I"⟩, 7) := ⟨⟨by decide +kernel, by decide +kernel⟩, List.mem_of_getElem? (i := 81) (by decide +kernel), List.mem_of_getElem? (i := 364) (by decide +kernel), List.mem_of_getElem? (i := 365) (by decide +kernel)⟩
theorem lw_p11 : lw_okq (⟨"RoseLathe$Search", "noteRests", "(LRoseLathe$Plate;LRoseLathe$Rosette;I)V"⟩, 7) := ⟨⟨by decide +kernel, by decide +kernel⟩, List.mem_of_getElem? (i := 81) (by decide +kernel), List.mem_of_getElem? (i := 369) (by decide +kernel), List.mem_of_getElem? (i := 370) (by decide +kernel)⟩
theorem lw_p12 : lw_okq (⟨"RoseLathe$Search", "restOfRing", "(LRoseLathe$Plate;ILRoseLathe$Rosette;II)I"⟩, 7) := ⟨⟨by decide +kernel, by decide +kernel⟩, List.mem_of_getElem? (i := 81) (by decide +kernel), List.mem_of_getElem? (i := 374) (by decide +kernel), List.mem_of_getElem? (i := 375) (by decide +kernel)⟩
theorem lw_p13 : lw_okq (⟨"RoseLathe$Search", "findOfGain", "(III)I"⟩, 7) := ⟨⟨by decide +kernel, by decide +kernel⟩, List.mem_of_getElem? (i := 81) (by decide +kernel), List.mem_of_getElem? (i := 381) (by decide +kernel), List.mem_of_getElem? (i := 382) (by decide +kernel)⟩
theorem lw_p14 : lw_okq (⟨"RoseLathe$Search", "drawLine", "(II)Z"⟩, 7) := ⟨⟨by decide +kernel, by decide +kernel⟩, List.mem_of_getElem? (i := 81) (by decide +kernel), List.mem_of_getElem? (i := 385) (by decide +kernel), List.mem_of_getElem? (i := 386) (by decide +kernel)⟩
theorem lw_p15 : lw_okq (⟨"RoseLathe$Search", "restAt", "(III)I"⟩, 7) := ⟨⟨by decide +kernel, by decide +kernel⟩, List.mem_of_getElem? (i := 81) (by decide +kernel), List.mem_of_getElem? (i := 389) (by decide +kernel), List.mem_of_getElem? (i := 390) (by decide +kernel)⟩
def lw_privs_1 : List (MethodName × Nat) := [(⟨"RoseLathe", "rosetteOf", "(I)LRoseLathe$Rosette;"⟩, 7), (⟨"RoseLathe$Rosette", "staysWhenTurned", "(I)Z"⟩, 3), (⟨"RoseLathe$Rosette", "comesBefore", "(II)Z"⟩, 3), (⟨"RoseLathe", "mayBeSet", "(IIIIII)Z"⟩, 7), (⟨"RoseLathe", "slippedPlace", "(II)I"⟩, 7), (⟨"RoseLathe", "slipAt", "(I)I"⟩, 7), (⟨"RoseLathe", "placeOf", "(LRoseLathe$Setting;II)I"⟩, 7), (⟨"RoseLathe", "wallAt", "(II)I"⟩, 7), (⟨"RoseLathe", "seenPlace", "(II)I"⟩, 7), (⟨"RoseLathe$Search", "noteSeenRings", "(LRoseLathe$Plate;)V"⟩, 7), (⟨"RoseLathe$Search", "findOfRosette", "(LRoseLathe$Plate;ILRoseLathe$Rosette;I)I"⟩, 7), (⟨"RoseLathe$Search", "noteRests", "(LRoseLathe$Plate;LRoseLathe$Rosette;I)V"⟩, 7), (⟨"RoseLathe$Search", "restOfRing", "(LRoseLathe$Plate;ILRoseLathe$Rosette;II)I"⟩, 7), (⟨"RoseLathe$Search", "findOfGain", "(III)I"⟩, 7), (⟨"RoseLathe$Search", "drawLine", "(II)Z"⟩, 7), (⟨"RoseLathe$Search", "restAt", "(III)I"⟩, 7)]
theorem lw_r1 : ∀ q ∈ lw_privs_1, lw_okq q := List.forall_mem_cons.mpr ⟨lw_p0, List.forall_mem_cons.mpr ⟨lw_p1, List.forall_mem_cons.mpr ⟨lw_p2, List.forall_mem_cons.mpr ⟨lw_p3, List.forall_mem_cons.mpr ⟨lw_p4, List.forall_mem_cons.mpr ⟨lw_p5, List.forall_mem_cons.mpr ⟨lw_p6, List.forall_mem_cons.mpr ⟨lw_p7, List.forall_mem_cons.mpr ⟨lw_p8, List.forall_mem_cons.mpr ⟨lw_p9, List.forall_mem_cons.mpr ⟨lw_p10, List.forall_mem_cons.mpr ⟨lw_p11, List.forall_mem_cons.mpr ⟨lw_p12, List.forall_mem_cons.mpr ⟨lw_p13, List.forall_mem_cons.mpr ⟨lw_p14, List.forall_mem_cons.mpr ⟨lw_p15, fun _ h => absurd h List.not_mem_nil⟩⟩⟩⟩⟩⟩⟩⟩⟩⟩⟩⟩⟩⟩⟩⟩
theorem lw_p16 : lw_okq (⟨"RoseLathe$Search", "allOnLine", "(II)Z"⟩, 7) := ⟨⟨by decide +kernel, by decide +kernel⟩, List.mem_of_getElem? (i := 81) (by decide +kernel), List.mem_of_getElem? (i := 394) (by decide +kernel), List.mem_of_getElem? (i := 395) (by decide +kernel)⟩
theorem lw_p17 : lw_okq (⟨"RoseLathe", "currentLength", "()I"⟩, 7) := ⟨⟨by decide +kernel, by decide +kernel⟩, List.mem_of_getElem? (i := 10) (by decide +kernel), List.mem_of_getElem? (i := 411) (by decide +kernel), List.mem_of_getElem? (i := 412) (by decide +kernel)⟩
theorem lw_p18 : lw_okq (⟨"RoseLathe", "noteFitting", "(I)V"⟩, 7) := ⟨⟨by decide +kernel, by decide +kernel⟩, List.mem_of_getElem? (i := 10) (by decide +kernel), List.mem_of_getElem? (i := 415) (by decide +kernel), List.mem_of_getElem? (i := 416) (by decide +kernel)⟩
theorem lw_p19 : lw_okq (⟨"RoseLathe", "ringFits", "(II)Z"⟩, 7) := ⟨⟨by decide +kernel, by decide +kernel⟩, List.mem_of_getElem? (i := 10) (by decide +kernel), List.mem_of_getElem? (i := 419) (by decide +kernel), List.mem_of_getElem? (i := 420) (by decide +kernel)⟩
theorem lw_p20 : lw_okq (⟨"RoseLathe", "firstRingOff", "()I"⟩, 7) := ⟨⟨by decide +kernel, by decide +kernel⟩, List.mem_of_getElem? (i := 10) (by decide +kernel), List.mem_of_getElem? (i := 423) (by decide +kernel), List.mem_of_getElem? (i := 424) (by decide +kernel)⟩
theorem lw_p21 : lw_okq (⟨"RoseLathe", "fittingFrom", "(I)I"⟩, 7) := ⟨⟨by decide +kernel, by decide +kernel⟩, List.mem_of_getElem? (i := 10) (by decide +kernel), List.mem_of_getElem? (i := 427) (by decide +kernel), List.mem_of_getElem? (i := 428) (by decide +kernel)⟩
theorem lw_p22 : lw_okq (⟨"RoseLathe", "slipsNotNought", "()I"⟩, 7) := ⟨⟨by decide +kernel, by decide +kernel⟩, List.mem_of_getElem? (i := 10) (by decide +kernel), List.mem_of_getElem? (i := 446) (by decide +kernel), List.mem_of_getElem? (i := 447) (by decide +kernel)⟩
theorem lw_p23 : lw_okq (⟨"RoseLatheModel", "begins", "(II)V"⟩, 7) := ⟨⟨by decide +kernel, by decide +kernel⟩, List.mem_of_getElem? (i := 450) (by decide +kernel), List.mem_of_getElem? (i := 488) (by decide +kernel), List.mem_of_getElem? (i := 489) (by decide +kernel)⟩
theorem lw_p24 : lw_okq (⟨"RoseLatheModel", "period", "(I)I"⟩, 7) := ⟨⟨by decide +kernel, by decide +kernel⟩, List.mem_of_getElem? (i := 450) (by decide +kernel), List.mem_of_getElem? (i := 504) (by decide +kernel), List.mem_of_getElem? (i := 505) (by decide +kernel)⟩
theorem lw_p25 : lw_okq (⟨"RoseLatheModel", "liftAt", "(II)I"⟩, 7) := ⟨⟨by decide +kernel, by decide +kernel⟩, List.mem_of_getElem? (i := 450) (by decide +kernel), List.mem_of_getElem? (i := 508) (by decide +kernel), List.mem_of_getElem? (i := 509) (by decide +kernel)⟩
theorem lw_p26 : lw_okq (⟨"RoseLatheModel", "turnOf", "(I)I"⟩, 7) := ⟨⟨by decide +kernel, by decide +kernel⟩, List.mem_of_getElem? (i := 450) (by decide +kernel), List.mem_of_getElem? (i := 519) (by decide +kernel), List.mem_of_getElem? (i := 520) (by decide +kernel)⟩
theorem lw_p27 : lw_okq (⟨"RoseLatheModel", "against", "(IIII)I"⟩, 7) := ⟨⟨by decide +kernel, by decide +kernel⟩, List.mem_of_getElem? (i := 450) (by decide +kernel), List.mem_of_getElem? (i := 523) (by decide +kernel), List.mem_of_getElem? (i := 524) (by decide +kernel)⟩
theorem lw_p28 : lw_okq (⟨"RoseLatheModel", "turned", "(III)I"⟩, 7) := ⟨⟨by decide +kernel, by decide +kernel⟩, List.mem_of_getElem? (i := 450) (by decide +kernel), List.mem_of_getElem? (i := 527) (by decide +kernel), List.mem_of_getElem? (i := 528) (by decide +kernel)⟩
theorem lw_p29 : lw_okq (⟨"RoseLatheModel", "isSetting", "(IIIIII)Z"⟩, 7) := ⟨⟨by decide +kernel, by decide +kernel⟩, List.mem_of_getElem? (i := 450) (by decide +kernel), List.mem_of_getElem? (i := 539) (by decide +kernel), List.mem_of_getElem? (i := 540) (by decide +kernel)⟩
theorem lw_p30 : lw_okq (⟨"RoseLatheModel", "placeAt", "(II)I"⟩, 7) := ⟨⟨by decide +kernel, by decide +kernel⟩, List.mem_of_getElem? (i := 450) (by decide +kernel), List.mem_of_getElem? (i := 558) (by decide +kernel), List.mem_of_getElem? (i := 559) (by decide +kernel)⟩
theorem lw_p31 : lw_okq (⟨"RoseLatheModel", "slipAt", "(I)I"⟩, 7) := ⟨⟨by decide +kernel, by decide +kernel⟩, List.mem_of_getElem? (i := 450) (by decide +kernel), List.mem_of_getElem? (i := 562) (by decide +kernel), List.mem_of_getElem? (i := 563) (by decide +kernel)⟩
def lw_privs_2 : List (MethodName × Nat) := [(⟨"RoseLathe$Search", "allOnLine", "(II)Z"⟩, 7), (⟨"RoseLathe", "currentLength", "()I"⟩, 7), (⟨"RoseLathe", "noteFitting", "(I)V"⟩, 7), (⟨"RoseLathe", "ringFits", "(II)Z"⟩, 7), (⟨"RoseLathe", "firstRingOff", "()I"⟩, 7), (⟨"RoseLathe", "fittingFrom", "(I)I"⟩, 7), (⟨"RoseLathe", "slipsNotNought", "()I"⟩, 7), (⟨"RoseLatheModel", "begins", "(II)V"⟩, 7), (⟨"RoseLatheModel", "period", "(I)I"⟩, 7), (⟨"RoseLatheModel", "liftAt", "(II)I"⟩, 7), (⟨"RoseLatheModel", "turnOf", "(I)I"⟩, 7), (⟨"RoseLatheModel", "against", "(IIII)I"⟩, 7), (⟨"RoseLatheModel", "turned", "(III)I"⟩, 7), (⟨"RoseLatheModel", "isSetting", "(IIIIII)Z"⟩, 7), (⟨"RoseLatheModel", "placeAt", "(II)I"⟩, 7), (⟨"RoseLatheModel", "slipAt", "(I)I"⟩, 7)]
theorem lw_r2 : ∀ q ∈ lw_privs_2, lw_okq q := List.forall_mem_cons.mpr ⟨lw_p16, List.forall_mem_cons.mpr ⟨lw_p17, List.forall_mem_cons.mpr ⟨lw_p18, List.forall_mem_cons.mpr ⟨lw_p19, List.forall_mem_cons.mpr ⟨lw_p20, List.forall_mem_cons.mpr ⟨lw_p21, List.forall_mem_cons.mpr ⟨lw_p22, List.forall_mem_cons.mpr ⟨lw_p23, List.forall_mem_cons.mpr ⟨lw_p24, List.forall_mem_cons.mpr ⟨lw_p25, List.forall_mem_cons.mpr ⟨lw_p26, List.forall_mem_cons.mpr ⟨lw_p27, List.forall_mem_cons.mpr ⟨lw_p28, List.forall_mem_cons.mpr ⟨lw_p29, List.forall_mem_cons.mpr ⟨lw_p30, List.forall_mem_cons.mpr ⟨lw_p31, fun _ h => absurd h List.not_mem_nil⟩⟩⟩⟩⟩⟩⟩⟩⟩⟩⟩⟩⟩⟩⟩⟩
theorem lw_p32 : lw_okq (⟨"RoseLatheModel", "placed", "([IIII)I"⟩, 7) := ⟨⟨by decide +kernel, by decide +kernel⟩, List.mem_of_getElem? (i := 450) (by decide +kernel), List.mem_of_getElem? (i := 566) (by decide +kernel), List.mem_of_getElem? (i := 567) (by decide +kernel)⟩
theorem lw_p33 : lw_okq (⟨"RoseLatheModel", "lifted", "([IIII)I"⟩, 7) := ⟨⟨by decide +kernel, by decide +kernel⟩, List.mem_of_getElem? (i := 450) (by decide +kernel), List.mem_of_getElem? (i := 570) (by decide +kernel), List.mem_of_getElem? (i := 571) (by decide +kernel)⟩
theorem lw_p34 : lw_okq (⟨"RoseLatheModel", "wallAt", "(II)I"⟩, 7) := ⟨⟨by decide +kernel, by decide +kernel⟩, List.mem_of_getElem? (i := 450) (by decide +kernel), List.mem_of_getElem? (i := 583) (by decide +kernel), List.mem_of_getElem? (i := 584) (by decide +kernel)⟩
theorem lw_p35 : lw_okq (⟨"RoseLatheModel", "seen", "()I"⟩, 7) := ⟨⟨by decide +kernel, by decide +kernel⟩, List.mem_of_getElem? (i := 450) (by decide +kernel), List.mem_of_getElem? (i := 608) (by decide +kernel), List.mem_of_getElem? (i := 609) (by decide +kernel)⟩
theorem lw_p36 : lw_okq (⟨"RoseLatheModel", "makersTo", "(I)I"⟩, 7) := ⟨⟨by decide +kernel, by decide +kernel⟩, List.mem_of_getElem? (i := 450) (by decide +kernel), List.mem_of_getElem? (i := 616) (by decide +kernel), List.mem_of_getElem? (i := 617) (by decide +kernel)⟩
theorem lw_p37 : lw_okq (⟨"RoseLatheModel", "makes", "()Z"⟩, 7) := ⟨⟨by decide +kernel, by decide +kernel⟩, List.mem_of_getElem? (i := 450) (by decide +kernel), List.mem_of_getElem? (i := 620) (by decide +kernel), List.mem_of_getElem? (i := 621) (by decide +kernel)⟩
theorem lw_p38 : lw_okq (⟨"RoseLatheModel", "ground", "(I)I"⟩, 7) := ⟨⟨by decide +kernel, by decide +kernel⟩, List.mem_of_getElem? (i := 450) (by decide +kernel), List.mem_of_getElem? (i := 624) (by decide +kernel), List.mem_of_getElem? (i := 625) (by decide +kernel)⟩
theorem lw_p39 : lw_okq (⟨"RoseLatheModel", "isMade", "(II)Z"⟩, 7) := ⟨⟨by decide +kernel, by decide +kernel⟩, List.mem_of_getElem? (i := 450) (by decide +kernel), List.mem_of_getElem? (i := 641) (by decide +kernel), List.mem_of_getElem? (i := 642) (by decide +kernel)⟩
theorem lw_p40 : lw_okq (⟨"RoseLatheModel", "ringsSeen", "()I"⟩, 7) := ⟨⟨by decide +kernel, by decide +kernel⟩, List.mem_of_getElem? (i := 450) (by decide +kernel), List.mem_of_getElem? (i := 649) (by decide +kernel), List.mem_of_getElem? (i := 650) (by decide +kernel)⟩
theorem lw_p41 : lw_okq (⟨"RoseLatheModel", "isRing", "(I)Z"⟩, 7) := ⟨⟨by decide +kernel, by decide +kernel⟩, List.mem_of_getElem? (i := 450) (by decide +kernel), List.mem_of_getElem? (i := 653) (by decide +kernel), List.mem_of_getElem? (i := 654) (by decide +kernel)⟩
def lw_privs_3 : List (MethodName × Nat) := [(⟨"RoseLatheModel", "placed", "([IIII)I"⟩, 7), (⟨"RoseLatheModel", "lifted", "([IIII)I"⟩, 7), (⟨"RoseLatheModel", "wallAt", "(II)I"⟩, 7), (⟨"RoseLatheModel", "seen", "()I"⟩, 7), (⟨"RoseLatheModel", "makersTo", "(I)I"⟩, 7), (⟨"RoseLatheModel", "makes", "()Z"⟩, 7), (⟨"RoseLatheModel", "ground", "(I)I"⟩, 7), (⟨"RoseLatheModel", "isMade", "(II)Z"⟩, 7), (⟨"RoseLatheModel", "ringsSeen", "()I"⟩, 7), (⟨"RoseLatheModel", "isRing", "(I)Z"⟩, 7)]
theorem lw_r3 : ∀ q ∈ lw_privs_3, lw_okq q := List.forall_mem_cons.mpr ⟨lw_p32, List.forall_mem_cons.mpr ⟨lw_p33, List.forall_mem_cons.mpr ⟨lw_p34, List.forall_mem_cons.mpr ⟨lw_p35, List.forall_mem_cons.mpr ⟨lw_p36, List.forall_mem_cons.mpr ⟨lw_p37, List.forall_mem_cons.mpr ⟨lw_p38, List.forall_mem_cons.mpr ⟨lw_p39, List.forall_mem_cons.mpr ⟨lw_p40, List.forall_mem_cons.mpr ⟨lw_p41, fun _ h => absurd h List.not_mem_nil⟩⟩⟩⟩⟩⟩⟩⟩⟩⟩
def lw_privs : List (MethodName × Nat) := lw_privs_1 ++ (lw_privs_2 ++ (lw_privs_3))
def lw_tbl : List Cond := k2_sels lw_privs ++ tables_1
theorem lw_privs_ok : ∀ q ∈ lw_privs, lw_okq q := by
  show ∀ q ∈ lw_privs_1 ++ (lw_privs_2 ++ (lw_privs_3)), lw_okq q
  exact List.forall_mem_append.mpr ⟨lw_r1, List.forall_mem_append.mpr ⟨lw_r2, lw_r3⟩⟩

def RX0 : String := "RoseLathe$Plate"
def TX0 : u_T := fun k => match k with
  | _ => ("RoseLathe$Plate", "places", "LRoseLathe$Row;", true)
def tyX0 : Nat → FieldType := fun k => match k with
  | _ => .object "RoseLathe$Row"
abbrev wsX00 : List Cond := u_ws RX0 TX0 1
theorem nmX0 : ∀ a, a < 1 → ∀ b, b < 1 → a ≠ b → (TX0 a).2.1 ≠ (TX0 b).2.1 := by decide +kernel
theorem tyX0_ok : ∀ k, k < 1 → parseFieldDescriptor (TX0 k).2.2.1 = some (tyX0 k) := by decide +kernel
abbrev cX0_init : ByteArray := prog_2_method_1_code
def yX0_init : MethodName := ⟨RX0, "<init>", "()V"⟩
abbrev cX0_look : ByteArray := prog_2_method_2_code
def yX0_look : MethodName := ⟨RX0, "look", "(II)I"⟩
abbrev cX0_mark : ByteArray := prog_2_method_3_code
def yX0_mark : MethodName := ⟨RX0, "mark", "(III)V"⟩
abbrev cX0_seen : ByteArray := prog_2_method_4_code
def yX0_seen : MethodName := ⟨RX0, "seen", "()I"⟩
abbrev cX0_ringsSeen : ByteArray := prog_2_method_5_code
def yX0_ringsSeen : MethodName := ⟨RX0, "ringsSeen", "()I"⟩
abbrev cX0_seenIn : ByteArray := prog_2_method_6_code
def yX0_seenIn : MethodName := ⟨RX0, "seenIn", "(I)I"⟩
def RX1 : String := "RoseLathe$Rosette"
def TX1 : u_T := fun k => match k with
  | 0 => ("RoseLathe$Rosette", "lifts", "LRoseLathe$Row;", true)
  | 1 => ("RoseLathe$Rosette", "fresh", "LRoseLathe$Row;", true)
  | _ => ("RoseLathe$Rosette", "length", "I", false)
def tyX1 : Nat → FieldType := fun k => match k with
  | 0 => .object "RoseLathe$Row"
  | 1 => .object "RoseLathe$Row"
  | _ => .int
abbrev wsX10 : List Cond := u_ws RX1 TX1 3
theorem nmX1 : ∀ a, a < 3 → ∀ b, b < 3 → a ≠ b → (TX1 a).2.1 ≠ (TX1 b).2.1 := by decide +kernel
theorem tyX1_ok : ∀ k, k < 3 → parseFieldDescriptor (TX1 k).2.2.1 = some (tyX1 k) := by decide +kernel
abbrev cX1_init : ByteArray := prog_3_method_1_code
def yX1_init : MethodName := ⟨RX1, "<init>", "()V"⟩
abbrev cX1_has : ByteArray := prog_3_method_2_code
def yX1_has : MethodName := ⟨RX1, "has", "(I)Z"⟩
abbrev cX1_flatten : ByteArray := prog_3_method_3_code
def yX1_flatten : MethodName := ⟨RX1, "flatten", "(I)V"⟩
abbrev cX1_cut : ByteArray := prog_3_method_4_code
def yX1_cut : MethodName := ⟨RX1, "cut", "(II)V"⟩
abbrev cX1_liftBehind : ByteArray := prog_3_method_5_code
def yX1_liftBehind : MethodName := ⟨RX1, "liftBehind", "(I)I"⟩
abbrev cX1_period : ByteArray := prog_3_method_6_code
def yX1_period : MethodName := ⟨RX1, "period", "()I"⟩
abbrev cX1_staysWhenTurned : ByteArray := prog_3_method_7_code
def yX1_staysWhenTurned : MethodName := ⟨RX1, "staysWhenTurned", "(I)Z"⟩
abbrev cX1_wayToName : ByteArray := prog_3_method_8_code
def yX1_wayToName : MethodName := ⟨RX1, "wayToName", "()I"⟩
abbrev cX1_comesBefore : ByteArray := prog_3_method_9_code
def yX1_comesBefore : MethodName := ⟨RX1, "comesBefore", "(II)Z"⟩
abbrev cX1_liftOnWay : ByteArray := prog_3_method_10_code
def yX1_liftOnWay : MethodName := ⟨RX1, "liftOnWay", "(II)I"⟩
abbrev cX1_become : ByteArray := prog_3_method_11_code
def yX1_become : MethodName := ⟨RX1, "become", "(LRoseLathe$Rosette;I)V"⟩
def RX2 : String := "RoseLathe$Row"
def TX2 : u_T := fun k => match k with
  | _ => ("RoseLathe$Row", "cells", "[I", true)
def tyX2 : Nat → FieldType := fun k => match k with
  | _ => .array .int
abbrev wsX20 : List Cond := u_ws RX2 TX2 1
theorem nmX2 : ∀ a, a < 1 → ∀ b, b < 1 → a ≠ b → (TX2 a).2.1 ≠ (TX2 b).2.1 := by decide +kernel
theorem tyX2_ok : ∀ k, k < 1 → parseFieldDescriptor (TX2 k).2.2.1 = some (tyX2 k) := by decide +kernel
abbrev cX2_init : ByteArray := prog_4_method_1_code
def yX2_init : MethodName := ⟨RX2, "<init>", "(I)V"⟩
abbrev cX2_get : ByteArray := prog_4_method_2_code
def yX2_get : MethodName := ⟨RX2, "get", "(I)I"⟩
abbrev cX2_put : ByteArray := prog_4_method_3_code
def yX2_put : MethodName := ⟨RX2, "put", "(II)V"⟩
def RX3 : String := "RoseLathe$Search"
def TX3 : u_T := fun k => match k with
  | 0 => ("RoseLathe$Search", "lastFound", "LRoseLathe$Setting;", true)
  | 1 => ("RoseLathe$Search", "seenRings", "LRoseLathe$Row;", true)
  | 2 => ("RoseLathe$Search", "rests", "LRoseLathe$Row;", true)
  | 3 => ("RoseLathe$Search", "manySeen", "I", false)
  | 4 => ("RoseLathe$Search", "period", "I", false)
  | 5 => ("RoseLathe$Search", "base", "I", false)
  | _ => ("RoseLathe$Search", "step", "I", false)
def tyX3 : Nat → FieldType := fun k => match k with
  | 0 => .object "RoseLathe$Setting"
  | 1 => .object "RoseLathe$Row"
  | 2 => .object "RoseLathe$Row"
  | 3 => .int
  | 4 => .int
  | 5 => .int
  | _ => .int
abbrev wsX30 : List Cond := u_ws RX3 TX3 7
theorem nmX3 : ∀ a, a < 7 → ∀ b, b < 7 → a ≠ b → (TX3 a).2.1 ≠ (TX3 b).2.1 := by decide +kernel
theorem tyX3_ok : ∀ k, k < 7 → parseFieldDescriptor (TX3 k).2.2.1 = some (tyX3 k) := by decide +kernel
abbrev cX3_init : ByteArray := prog_5_method_1_code
def yX3_init : MethodName := ⟨RX3, "<init>", "()V"⟩
abbrev cX3_find : ByteArray := prog_5_method_2_code
def yX3_find : MethodName := ⟨RX3, "find", "([LRoseLathe$Rosette;LRoseLathe$Plate;I)I"⟩
abbrev cX3_findOfRosette : ByteArray := prog_5_method_3_code
def yX3_findOfRosette : MethodName := ⟨RX3, "findOfRosette", "(LRoseLathe$Plate;ILRoseLathe$Rosette;I)I"⟩
abbrev cX3_findOfGain : ByteArray := prog_5_method_4_code
def yX3_findOfGain : MethodName := ⟨RX3, "findOfGain", "(III)I"⟩
abbrev cX3_noteSeenRings : ByteArray := prog_5_method_5_code
def yX3_noteSeenRings : MethodName := ⟨RX3, "noteSeenRings", "(LRoseLathe$Plate;)V"⟩
abbrev cX3_noteRests : ByteArray := prog_5_method_6_code
def yX3_noteRests : MethodName := ⟨RX3, "noteRests", "(LRoseLathe$Plate;LRoseLathe$Rosette;I)V"⟩
abbrev cX3_restOfRing : ByteArray := prog_5_method_7_code
def yX3_restOfRing : MethodName := ⟨RX3, "restOfRing", "(LRoseLathe$Plate;ILRoseLathe$Rosette;II)I"⟩
abbrev cX3_restAt : ByteArray := prog_5_method_8_code
def yX3_restAt : MethodName := ⟨RX3, "restAt", "(III)I"⟩
abbrev cX3_drawLine : ByteArray := prog_5_method_9_code
def yX3_drawLine : MethodName := ⟨RX3, "drawLine", "(II)Z"⟩
abbrev cX3_allOnLine : ByteArray := prog_5_method_10_code
def yX3_allOnLine : MethodName := ⟨RX3, "allOnLine", "(II)Z"⟩
def RX4 : String := "RoseLathe$Setting"
def TX4 : u_T := fun k => match k with
  | 0 => ("RoseLathe$Setting", "rosette", "I", false)
  | 1 => ("RoseLathe$Setting", "gain", "I", false)
  | 2 => ("RoseLathe$Setting", "base", "I", false)
  | 3 => ("RoseLathe$Setting", "step", "I", false)
  | 4 => ("RoseLathe$Setting", "phase", "I", false)
  | _ => ("RoseLathe$Setting", "move", "I", false)
def tyX4 : Nat → FieldType := fun k => match k with
  | 0 => .int
  | 1 => .int
  | 2 => .int
  | 3 => .int
  | 4 => .int
  | _ => .int
abbrev wsX40 : List Cond := u_ws RX4 TX4 6
theorem nmX4 : ∀ a, a < 6 → ∀ b, b < 6 → a ≠ b → (TX4 a).2.1 ≠ (TX4 b).2.1 := by decide +kernel
theorem tyX4_ok : ∀ k, k < 6 → parseFieldDescriptor (TX4 k).2.2.1 = some (tyX4 k) := by decide +kernel
abbrev cX4_init : ByteArray := prog_6_method_1_code
def yX4_init : MethodName := ⟨RX4, "<init>", "()V"⟩
abbrev cX4_become : ByteArray := prog_6_method_2_code
def yX4_become : MethodName := ⟨RX4, "become", "(IIIIII)V"⟩
abbrev cX4_dropTurns : ByteArray := prog_6_method_3_code
def yX4_dropTurns : MethodName := ⟨RX4, "dropTurns", "(I)V"⟩
abbrev cX4_part : ByteArray := prog_6_method_4_code
def yX4_part : MethodName := ⟨RX4, "part", "(I)I"⟩
def RX5 : String := "RoseLathe"
def TX5 : u_T := fun k => match k with
  | 0 => ("RoseLathe", "rosettes", "[LRoseLathe$Rosette;", true)
  | 1 => ("RoseLathe", "current", "LRoseLathe$Setting;", true)
  | 2 => ("RoseLathe", "other", "LRoseLathe$Setting;", true)
  | 3 => ("RoseLathe", "slips", "LRoseLathe$Row;", true)
  | 4 => ("RoseLathe", "plate", "LRoseLathe$Plate;", true)
  | 5 => ("RoseLathe", "search", "LRoseLathe$Search;", true)
  | _ => ("RoseLathe", "fitting", "LRoseLathe$Row;", true)
def tyX5 : Nat → FieldType := fun k => match k with
  | 0 => .array (.object "RoseLathe$Rosette")
  | 1 => .object "RoseLathe$Setting"
  | 2 => .object "RoseLathe$Setting"
  | 3 => .object "RoseLathe$Row"
  | 4 => .object "RoseLathe$Plate"
  | 5 => .object "RoseLathe$Search"
  | _ => .object "RoseLathe$Row"
abbrev wsX50 : List Cond := u_ws RX5 TX5 7
theorem nmX5 : ∀ a, a < 7 → ∀ b, b < 7 → a ≠ b → (TX5 a).2.1 ≠ (TX5 b).2.1 := by decide +kernel
theorem tyX5_ok : ∀ k, k < 7 → parseFieldDescriptor (TX5 k).2.2.1 = some (tyX5 k) := by decide +kernel
abbrev cX5_init : ByteArray := prog_1_method_1_code
def yX5_init : MethodName := ⟨RX5, "<init>", "()V"⟩
abbrev cX5_rosette : ByteArray := prog_1_method_2_code
def yX5_rosette : MethodName := ⟨RX5, "rosette", "(II)I"⟩
abbrev cX5_lift : ByteArray := prog_1_method_3_code
def yX5_lift : MethodName := ⟨RX5, "lift", "(III)I"⟩
abbrev cX5_at : ByteArray := prog_1_method_4_code
def yX5_at : MethodName := ⟨RX5, "at", "(II)I"⟩
abbrev cX5_about : ByteArray := prog_1_method_5_code
def yX5_about : MethodName := ⟨RX5, "about", "(II)I"⟩
abbrev cX5_name : ByteArray := prog_1_method_6_code
def yX5_name : MethodName := ⟨RX5, "name", "(II)I"⟩
abbrev cX5_alike : ByteArray := prog_1_method_7_code
def yX5_alike : MethodName := ⟨RX5, "alike", "(II)I"⟩
abbrev cX5_sameName : ByteArray := prog_1_method_8_code
def yX5_sameName : MethodName := ⟨RX5, "sameName", "(LRoseLathe$Rosette;LRoseLathe$Rosette;)Z"⟩
abbrev cX5_rosetteOf : ByteArray := prog_1_method_9_code
def yX5_rosetteOf : MethodName := ⟨RX5, "rosetteOf", "(I)LRoseLathe$Rosette;"⟩
abbrev cX5_setting : ByteArray := prog_1_method_10_code
def yX5_setting : MethodName := ⟨RX5, "setting", "(IIIIII)I"⟩
abbrev cX5_told : ByteArray := prog_1_method_11_code
def yX5_told : MethodName := ⟨RX5, "told", "(I)I"⟩
abbrev cX5_slip : ByteArray := prog_1_method_12_code
def yX5_slip : MethodName := ⟨RX5, "slip", "(II)I"⟩
abbrev cX5_mayBeSet : ByteArray := prog_1_method_13_code
def yX5_mayBeSet : MethodName := ⟨RX5, "mayBeSet", "(IIIIII)Z"⟩
abbrev cX5_slipAt : ByteArray := prog_1_method_14_code
def yX5_slipAt : MethodName := ⟨RX5, "slipAt", "(I)I"⟩
abbrev cX5_place : ByteArray := prog_1_method_15_code
def yX5_place : MethodName := ⟨RX5, "place", "(II)I"⟩
abbrev cX5_closes : ByteArray := prog_1_method_16_code
def yX5_closes : MethodName := ⟨RX5, "closes", "()I"⟩
abbrev cX5_thin : ByteArray := prog_1_method_17_code
def yX5_thin : MethodName := ⟨RX5, "thin", "(II)I"⟩
abbrev cX5_wall : ByteArray := prog_1_method_18_code
def yX5_wall : MethodName := ⟨RX5, "wall", "(I)I"⟩
abbrev cX5_meets : ByteArray := prog_1_method_19_code
def yX5_meets : MethodName := ⟨RX5, "meets", "(IIII)I"⟩
abbrev cX5_overlaid : ByteArray := prog_1_method_20_code
def yX5_overlaid : MethodName := ⟨RX5, "overlaid", "(IIIIIII)I"⟩
abbrev cX5_wallAt : ByteArray := prog_1_method_21_code
def yX5_wallAt : MethodName := ⟨RX5, "wallAt", "(II)I"⟩
abbrev cX5_slippedPlace : ByteArray := prog_1_method_22_code
def yX5_slippedPlace : MethodName := ⟨RX5, "slippedPlace", "(II)I"⟩
abbrev cX5_placeOf : ByteArray := prog_1_method_23_code
def yX5_placeOf : MethodName := ⟨RX5, "placeOf", "(LRoseLathe$Setting;II)I"⟩
abbrev cX5_see : ByteArray := prog_1_method_24_code
def yX5_see : MethodName := ⟨RX5, "see", "(III)I"⟩
abbrev cX5_print : ByteArray := prog_1_method_25_code
def yX5_print : MethodName := ⟨RX5, "print", "(I)I"⟩
abbrev cX5_makers : ByteArray := prog_1_method_26_code
def yX5_makers : MethodName := ⟨RX5, "makers", "()I"⟩
abbrev cX5_maker : ByteArray := prog_1_method_27_code
def yX5_maker : MethodName := ⟨RX5, "maker", "(II)I"⟩
abbrev cX5_off : ByteArray := prog_1_method_28_code
def yX5_off : MethodName := ⟨RX5, "off", "()I"⟩
abbrev cX5_shown : ByteArray := prog_1_method_29_code
def yX5_shown : MethodName := ⟨RX5, "shown", "()I"⟩
abbrev cX5_count : ByteArray := prog_1_method_30_code
def yX5_count : MethodName := ⟨RX5, "count", "(I)I"⟩
abbrev cX5_slipsNotNought : ByteArray := prog_1_method_31_code
def yX5_slipsNotNought : MethodName := ⟨RX5, "slipsNotNought", "()I"⟩
abbrev cX5_seenPlace : ByteArray := prog_1_method_32_code
def yX5_seenPlace : MethodName := ⟨RX5, "seenPlace", "(II)I"⟩
abbrev cX5_currentLength : ByteArray := prog_1_method_33_code
def yX5_currentLength : MethodName := ⟨RX5, "currentLength", "()I"⟩
abbrev cX5_noteFitting : ByteArray := prog_1_method_34_code
def yX5_noteFitting : MethodName := ⟨RX5, "noteFitting", "(I)V"⟩
abbrev cX5_ringFits : ByteArray := prog_1_method_35_code
def yX5_ringFits : MethodName := ⟨RX5, "ringFits", "(II)Z"⟩
abbrev cX5_firstRingOff : ByteArray := prog_1_method_36_code
def yX5_firstRingOff : MethodName := ⟨RX5, "firstRingOff", "()I"⟩
abbrev cX5_fittingFrom : ByteArray := prog_1_method_37_code
def yX5_fittingFrom : MethodName := ⟨RX5, "fittingFrom", "(I)I"⟩
abbrev cX5_firstClicks : ByteArray := prog_1_method_38_code
def yX5_firstClicks : MethodName := ⟨RX5, "firstClicks", "(II)I"⟩
abbrev cX5_hasTurn : ByteArray := prog_1_method_39_code
def yX5_hasTurn : MethodName := ⟨RX5, "hasTurn", "(III)Z"⟩
abbrev cX5_isRing : ByteArray := prog_1_method_40_code
def yX5_isRing : MethodName := ⟨RX5, "isRing", "(I)Z"⟩
abbrev cX5_within : ByteArray := prog_1_method_41_code
def yX5_within : MethodName := ⟨RX5, "within", "(III)Z"⟩
def RX6 : String := "RoseLatheModel"
def TX6 : u_T := fun k => match k with
  | 0 => ("RoseLatheModel", "size", "[I", true)
  | 1 => ("RoseLatheModel", "lifts", "[I", true)
  | 2 => ("RoseLatheModel", "own", "[I", true)
  | 3 => ("RoseLatheModel", "other", "[I", true)
  | 4 => ("RoseLatheModel", "slips", "[I", true)
  | 5 => ("RoseLatheModel", "plate", "[I", true)
  | _ => ("RoseLatheModel", "hand", "[I", true)
def tyX6 : Nat → FieldType := fun k => match k with
  | 0 => .array .int
  | 1 => .array .int
  | 2 => .array .int
  | 3 => .array .int
  | 4 => .array .int
  | 5 => .array .int
  | _ => .array .int
abbrev wsX60 : List Cond := u_ws RX6 TX6 7
theorem nmX6 : ∀ a, a < 7 → ∀ b, b < 7 → a ≠ b → (TX6 a).2.1 ≠ (TX6 b).2.1 := by decide +kernel
theorem tyX6_ok : ∀ k, k < 7 → parseFieldDescriptor (TX6 k).2.2.1 = some (tyX6 k) := by decide +kernel
abbrev cX6_init : ByteArray := prog_8_method_1_code
def yX6_init : MethodName := ⟨RX6, "<init>", "()V"⟩
abbrev cX6_in : ByteArray := prog_8_method_2_code
def yX6_in : MethodName := ⟨RX6, "in", "(III)Z"⟩
abbrev cX6_isRosette : ByteArray := prog_8_method_3_code
def yX6_isRosette : MethodName := ⟨RX6, "isRosette", "(I)Z"⟩
abbrev cX6_begins : ByteArray := prog_8_method_4_code
def yX6_begins : MethodName := ⟨RX6, "begins", "(II)V"⟩
abbrev cX6_rosette : ByteArray := prog_8_method_5_code
def yX6_rosette : MethodName := ⟨RX6, "rosette", "(II)I"⟩
abbrev cX6_lift : ByteArray := prog_8_method_6_code
def yX6_lift : MethodName := ⟨RX6, "lift", "(III)I"⟩
abbrev cX6_at : ByteArray := prog_8_method_7_code
def yX6_at : MethodName := ⟨RX6, "at", "(II)I"⟩
abbrev cX6_by : ByteArray := prog_8_method_8_code
def yX6_by : MethodName := ⟨RX6, "by", "(II)I"⟩
abbrev cX6_liftAt : ByteArray := prog_8_method_9_code
def yX6_liftAt : MethodName := ⟨RX6, "liftAt", "(II)I"⟩
abbrev cX6_period : ByteArray := prog_8_method_10_code
def yX6_period : MethodName := ⟨RX6, "period", "(I)I"⟩
abbrev cX6_about : ByteArray := prog_8_method_11_code
def yX6_about : MethodName := ⟨RX6, "about", "(II)I"⟩
abbrev cX6_turned : ByteArray := prog_8_method_12_code
def yX6_turned : MethodName := ⟨RX6, "turned", "(III)I"⟩
abbrev cX6_against : ByteArray := prog_8_method_13_code
def yX6_against : MethodName := ⟨RX6, "against", "(IIII)I"⟩
abbrev cX6_turnOf : ByteArray := prog_8_method_14_code
def yX6_turnOf : MethodName := ⟨RX6, "turnOf", "(I)I"⟩
abbrev cX6_name : ByteArray := prog_8_method_15_code
def yX6_name : MethodName := ⟨RX6, "name", "(II)I"⟩
abbrev cX6_alike : ByteArray := prog_8_method_16_code
def yX6_alike : MethodName := ⟨RX6, "alike", "(II)I"⟩
abbrev cX6_isSetting : ByteArray := prog_8_method_17_code
def yX6_isSetting : MethodName := ⟨RX6, "isSetting", "(IIIIII)Z"⟩
abbrev cX6_lays : ByteArray := prog_8_method_18_code
def yX6_lays : MethodName := ⟨RX6, "lays", "([IIIIIII)V"⟩
abbrev cX6_setting : ByteArray := prog_8_method_19_code
def yX6_setting : MethodName := ⟨RX6, "setting", "(IIIIII)I"⟩
abbrev cX6_told : ByteArray := prog_8_method_20_code
def yX6_told : MethodName := ⟨RX6, "told", "(I)I"⟩
abbrev cX6_slip : ByteArray := prog_8_method_21_code
def yX6_slip : MethodName := ⟨RX6, "slip", "(II)I"⟩
abbrev cX6_slipAt : ByteArray := prog_8_method_22_code
def yX6_slipAt : MethodName := ⟨RX6, "slipAt", "(I)I"⟩
abbrev cX6_lifted : ByteArray := prog_8_method_23_code
def yX6_lifted : MethodName := ⟨RX6, "lifted", "([IIII)I"⟩
abbrev cX6_placed : ByteArray := prog_8_method_24_code
def yX6_placed : MethodName := ⟨RX6, "placed", "([IIII)I"⟩
abbrev cX6_placeAt : ByteArray := prog_8_method_25_code
def yX6_placeAt : MethodName := ⟨RX6, "placeAt", "(II)I"⟩
abbrev cX6_place : ByteArray := prog_8_method_26_code
def yX6_place : MethodName := ⟨RX6, "place", "(II)I"⟩
abbrev cX6_closes : ByteArray := prog_8_method_27_code
def yX6_closes : MethodName := ⟨RX6, "closes", "()I"⟩
abbrev cX6_wallAt : ByteArray := prog_8_method_28_code
def yX6_wallAt : MethodName := ⟨RX6, "wallAt", "(II)I"⟩
abbrev cX6_thin : ByteArray := prog_8_method_29_code
def yX6_thin : MethodName := ⟨RX6, "thin", "(II)I"⟩
abbrev cX6_wall : ByteArray := prog_8_method_30_code
def yX6_wall : MethodName := ⟨RX6, "wall", "(I)I"⟩
abbrev cX6_meets : ByteArray := prog_8_method_31_code
def yX6_meets : MethodName := ⟨RX6, "meets", "(IIII)I"⟩
abbrev cX6_overlaid : ByteArray := prog_8_method_32_code
def yX6_overlaid : MethodName := ⟨RX6, "overlaid", "(IIIIIII)I"⟩
abbrev cX6_see : ByteArray := prog_8_method_33_code
def yX6_see : MethodName := ⟨RX6, "see", "(III)I"⟩
abbrev cX6_seen : ByteArray := prog_8_method_34_code
def yX6_seen : MethodName := ⟨RX6, "seen", "()I"⟩
abbrev cX6_isRing : ByteArray := prog_8_method_35_code
def yX6_isRing : MethodName := ⟨RX6, "isRing", "(I)Z"⟩
abbrev cX6_ringsSeen : ByteArray := prog_8_method_36_code
def yX6_ringsSeen : MethodName := ⟨RX6, "ringsSeen", "()I"⟩
abbrev cX6_print : ByteArray := prog_8_method_37_code
def yX6_print : MethodName := ⟨RX6, "print", "(I)I"⟩
abbrev cX6_ground : ByteArray := prog_8_method_38_code
def yX6_ground : MethodName := ⟨RX6, "ground", "(I)I"⟩
abbrev cX6_makes : ByteArray := prog_8_method_39_code
def yX6_makes : MethodName := ⟨RX6, "makes", "()Z"⟩
abbrev cX6_makersTo : ByteArray := prog_8_method_40_code
def yX6_makersTo : MethodName := ⟨RX6, "makersTo", "(I)I"⟩
abbrev cX6_makers : ByteArray := prog_8_method_41_code
def yX6_makers : MethodName := ⟨RX6, "makers", "()I"⟩
abbrev cX6_maker : ByteArray := prog_8_method_42_code
def yX6_maker : MethodName := ⟨RX6, "maker", "(II)I"⟩
abbrev cX6_off : ByteArray := prog_8_method_43_code
def yX6_off : MethodName := ⟨RX6, "off", "()I"⟩
abbrev cX6_isMade : ByteArray := prog_8_method_44_code
def yX6_isMade : MethodName := ⟨RX6, "isMade", "(II)Z"⟩
abbrev cX6_shown : ByteArray := prog_8_method_45_code
def yX6_shown : MethodName := ⟨RX6, "shown", "()I"⟩
abbrev cX6_count : ByteArray := prog_8_method_46_code
def yX6_count : MethodName := ⟨RX6, "count", "(I)I"⟩
def RJ9 : String := "java/lang/Math"
abbrev cJ9_floorMod_7cf53 : ByteArray := prog_9_method_50_code
def yJ9_floorMod_7cf53 : MethodName := ⟨RJ9, "floorMod", "(II)I"⟩
abbrev cJ9_abs_0f7a4 : ByteArray := prog_9_method_59_code
def yJ9_abs_0f7a4 : MethodName := ⟨RJ9, "abs", "(I)I"⟩
abbrev cJ9_max_7cf53 : ByteArray := prog_9_method_65_code
def yJ9_max_7cf53 : MethodName := ⟨RJ9, "max", "(II)I"⟩
abbrev cJ9_min_7cf53 : ByteArray := prog_9_method_69_code
def yJ9_min_7cf53 : MethodName := ⟨RJ9, "min", "(II)I"⟩
def RL : String := "RoseLatheLaw"
abbrev cL_law : ByteArray := code
def yL_law : MethodName := ⟨RL, "law", "([I)Z"⟩
abbrev vwCl : List vw_C := [(RX0, TX0, 1), (RX1, TX1, 3), (RX2, TX2, 1), (RX3, TX3, 7), (RX4, TX4, 6), (RX5, TX5, 7), (RX6, TX6, 7)]
