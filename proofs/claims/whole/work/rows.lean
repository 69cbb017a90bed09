section
-- ===== PART A: goes FIRST, ahead of the names: the tables' words, and 'selects' of the private methods out of them =====
/-- a private method of a class that the tables say can be made, by its rows of tables_1 -/
def lw_okq (q : MethodName × Nat) : Prop := (q.1.cls ≠ "java/lang/invoke/MethodHandle" ∧ q.1.cls ≠ "java/lang/invoke/VarHandle") ∧ Cond.instantiable q.1.cls q.2 ∈ tables_1 ∧ Cond.privateMethod q.1 ∈ tables_1 ∧ Cond.instanceMethod q.1 ∈ tables_1
theorem lw_p0 : lw_okq (⟨"RoseLathe", "rosetteOf", "(I)LRoseLathe$Rosette;"⟩, 7) := ⟨⟨by decide +kernel, by decide +kernel⟩, List.mem_of_getElem? (i := 10) (by decide +kernel), List.mem_of_getElem? (i := 164) (by decide +kernel), List.mem_of_getElem? (i := 165) (by decide +kernel)⟩
theorem lw_p1 : lw_okq (⟨"RoseLathe$Rosette", "staysWhenTurned", "(I)Z"⟩, 3) := ⟨⟨by decide +kernel, by decide +kernel⟩, List.mem_of_getElem? (i := 80) (by decide +kernel), List.mem_of_getElem? (i := 215) (by decide +kernel), List.mem_of_getElem? (i := 216) (by decide +kernel)⟩
theorem lw_p2 : lw_okq (⟨"RoseLathe$Rosette", "comesBefore", "(II)Z"⟩, 3) := ⟨⟨by decide +kernel, by decide +kernel⟩, List.mem_of_getElem? (i := 80) (by decide +kernel), List.mem_of_getElem? (i := 228) (by decide +kernel), List.mem_of_getElem? (i := 229) (by decide +kernel)⟩
theorem lw_p3 : lw_okq (⟨"RoseLathe", "mayBeSet", "(IIIIII)Z"⟩, 7) := ⟨⟨by decide +kernel, by decide +kernel⟩, List.mem_of_getElem? (i := 10) (by decide +kernel), List.mem_of_getElem? (i := 253) (by decide +kernel), List.mem_of_getElem? (i := 254) (by decide +kernel)⟩
theorem lw_p4 : lw_okq (⟨"RoseLathe", "slippedPlace", "(II)I"⟩, 7) := ⟨⟨by decide +kernel, by decide +kernel⟩, List.mem_of_getElem? (i := 10) (by decide +kernel), List.mem_of_getElem? (i := 283) (by decide +kernel), List.mem_of_getElem? (i := 284) (by decide +kernel)⟩
theorem lw_p5 : lw_okq (⟨"RoseLathe", "slipAt", "(I)I"⟩, 7) := ⟨⟨by decide +kernel, by decide +kernel⟩, List.mem_of_getElem? (i := 10) (by decide +kernel), List.mem_of_getElem? (i := 287) (by decide +kernel), List.mem_of_getElem? (i := 288) (by decide +kernel)⟩
theorem lw_p6 : lw_okq (⟨"RoseLathe", "placeOf", "(LRoseLathe$Setting;II)I"⟩, 7) := ⟨⟨by decide +kernel, by decide +kernel⟩, List.mem_of_getElem? (i := 10) (by decide +kernel), List.mem_of_getElem? (i := 291) (by decide +kernel), List.mem_of_getElem? (i := 292) (by decide +kernel)⟩
theorem lw_p7 : lw_okq (⟨"RoseLathe", "wallAt", "(II)I"⟩, 7) := ⟨⟨by decide +kernel, by decide +kernel⟩, List.mem_of_getElem? (i := 10) (by decide +kernel), List.mem_of_getElem? (i := 304) (by decide +kernel), List.mem_of_getElem? (i := 305) (by decide +kernel)⟩
theorem lw_p8 : lw_okq (⟨"RoseLathe", "seenPlace", "(II)I"⟩, 7) := ⟨⟨by decide +kernel, by decide +kernel⟩, List.mem_of_getElem? (i := 10) (by decide +kernel), List.mem_of_getElem? (i := 343) (by decide +kernel), List.mem_of_getElem? (i := 344) (by decide +kernel)⟩
theorem lw_p9 : lw_okq (⟨"RoseLathe$Search", "noteSeenRings", "()V"⟩, 9) := ⟨⟨by decide +kernel, by decide +kernel⟩, List.mem_of_getElem? (i := 99) (by decide +kernel), List.mem_of_getElem? (i := 364) (by decide +kernel), List.mem_of_getElem? (i := 365) (by decide +kernel)⟩
theorem lw_p10 : lw_okq (⟨"RoseLathe$Search", "findOfRosette", "(ILRoseLathe$Rosette;I)I"⟩, 9) := ⟨⟨by decide +kernel, by decide +kernel⟩, List.mem_of_getElem? (i := 99) (by decide +kernel), List.mem_of_getElem? (i := 370) (by decide +kernel), List.mem_of_getElem? (i := 371) (by decide +kernel)⟩
theorem lw_p11 : lw_okq (⟨"RoseLathe$Search", "noteRests", "(LRoseLathe$Rosette;I)V"⟩, 9) := ⟨⟨by decide +kernel, by decide +kernel⟩, List.mem_of_getElem? (i := 99) (by decide +kernel), List.mem_of_getElem? (i := 375) (by decide +kernel), List.mem_of_getElem? (i := 376) (by decide +kernel)⟩
theorem lw_p12 : lw_okq (⟨"RoseLathe$Search", "restOfRing", "(LRoseLathe$Rosette;III)I"⟩, 9) := ⟨⟨by decide +kernel, by decide +kernel⟩, List.mem_of_getElem? (i := 99) (by decide +kernel), List.mem_of_getElem? (i := 380) (by decide +kernel), List.mem_of_getElem? (i := 381) (by decide +kernel)⟩
theorem lw_p13 : lw_okq (⟨"RoseLathe$Search", "findOfGain", "(III)I"⟩, 9) := ⟨⟨by decide +kernel, by decide +kernel⟩, List.mem_of_getElem? (i := 99) (by decide +kernel), List.mem_of_getElem? (i := 387) (by decide +kernel), List.mem_of_getElem? (i := 388) (by decide +kernel)⟩
theorem lw_p14 : lw_okq (⟨"RoseLathe$Search", "drawLine", "(II)Z"⟩, 9) := ⟨⟨by decide +kernel, by decide +kernel⟩, List.mem_of_getElem? (i := 99) (by decide +kernel), List.mem_of_getElem? (i := 391) (by decide +kernel), List.mem_of_getElem? (i := 392) (by decide +kernel)⟩
theorem lw_p15 : lw_okq (⟨"RoseLathe$Search", "restAt", "(III)I"⟩, 9) := ⟨⟨by decide +kernel, by decide +kernel⟩, List.mem_of_getElem? (i := 99) (by decide +kernel), List.mem_of_getElem? (i := 395) (by decide +kernel), List.mem_of_getElem? (i := 396) (by decide +kernel)⟩
def lw_privs_1 : List (MethodName × Nat) := [(⟨"RoseLathe", "rosetteOf", "(I)LRoseLathe$Rosette;"⟩, 7), (⟨"RoseLathe$Rosette", "staysWhenTurned", "(I)Z"⟩, 3), (⟨"RoseLathe$Rosette", "comesBefore", "(II)Z"⟩, 3), (⟨"RoseLathe", "mayBeSet", "(IIIIII)Z"⟩, 7), (⟨"RoseLathe", "slippedPlace", "(II)I"⟩, 7), (⟨"RoseLathe", "slipAt", "(I)I"⟩, 7), (⟨"RoseLathe", "placeOf", "(LRoseLathe$Setting;II)I"⟩, 7), (⟨"RoseLathe", "wallAt", "(II)I"⟩, 7), (⟨"RoseLathe", "seenPlace", "(II)I"⟩, 7), (⟨"RoseLathe$Search", "noteSeenRings", "()V"⟩, 9), (⟨"RoseLathe$Search", "findOfRosette", "(ILRoseLathe$Rosette;I)I"⟩, 9), (⟨"RoseLathe$Search", "noteRests", "(LRoseLathe$Rosette;I)V"⟩, 9), (⟨"RoseLathe$Search", "restOfRing", "(LRoseLathe$Rosette;III)I"⟩, 9), (⟨"RoseLathe$Search", "findOfGain", "(III)I"⟩, 9), (⟨"RoseLathe$Search", "drawLine", "(II)Z"⟩, 9), (⟨"RoseLathe$Search", "restAt", "(III)I"⟩, 9)]
theorem lw_r1 : ∀ q ∈ lw_privs_1, lw_okq q := List.forall_mem_cons.mpr ⟨lw_p0, List.forall_mem_cons.mpr ⟨lw_p1, List.forall_mem_cons.mpr ⟨lw_p2, List.forall_mem_cons.mpr ⟨lw_p3, List.forall_mem_cons.mpr ⟨lw_p4, List.forall_mem_cons.mpr ⟨lw_p5, List.forall_mem_cons.mpr ⟨lw_p6, List.forall_mem_cons.mpr ⟨lw_p7, List.forall_mem_cons.mpr ⟨lw_p8, List.forall_mem_cons.mpr ⟨lw_p9, List.forall_mem_cons.mpr ⟨lw_p10, List.forall_mem_cons.mpr ⟨lw_p11, List.forall_mem_cons.mpr ⟨lw_p12, List.forall_mem_cons.mpr ⟨lw_p13, List.forall_mem_cons.mpr ⟨lw_p14, List.forall_mem_cons.mpr ⟨lw_p15, fun _ h => absurd h List.not_mem_nil⟩⟩⟩⟩⟩⟩⟩⟩⟩⟩⟩⟩⟩⟩⟩⟩
theorem lw_p16 : lw_okq (⟨"RoseLathe$Search", "allOnLine", "(II)Z"⟩, 9) := ⟨⟨by decide +kernel, by decide +kernel⟩, List.mem_of_getElem? (i := 99) (by decide +kernel), List.mem_of_getElem? (i := 400) (by decide +kernel), List.mem_of_getElem? (i := 401) (by decide +kernel)⟩
theorem lw_p17 : lw_okq (⟨"RoseLathe", "currentLength", "()I"⟩, 7) := ⟨⟨by decide +kernel, by decide +kernel⟩, List.mem_of_getElem? (i := 10) (by decide +kernel), List.mem_of_getElem? (i := 417) (by decide +kernel), List.mem_of_getElem? (i := 418) (by decide +kernel)⟩
theorem lw_p18 : lw_okq (⟨"RoseLathe", "noteFitting", "(I)V"⟩, 7) := ⟨⟨by decide +kernel, by decide +kernel⟩, List.mem_of_getElem? (i := 10) (by decide +kernel), List.mem_of_getElem? (i := 421) (by decide +kernel), List.mem_of_getElem? (i := 422) (by decide +kernel)⟩
theorem lw_p19 : lw_okq (⟨"RoseLathe", "ringFits", "(II)Z"⟩, 7) := ⟨⟨by decide +kernel, by decide +kernel⟩, List.mem_of_getElem? (i := 10) (by decide +kernel), List.mem_of_getElem? (i := 425) (by decide +kernel), List.mem_of_getElem? (i := 426) (by decide +kernel)⟩
theorem lw_p20 : lw_okq (⟨"RoseLathe", "firstRingOff", "()I"⟩, 7) := ⟨⟨by decide +kernel, by decide +kernel⟩, List.mem_of_getElem? (i := 10) (by decide +kernel), List.mem_of_getElem? (i := 429) (by decide +kernel), List.mem_of_getElem? (i := 430) (by decide +kernel)⟩
theorem lw_p21 : lw_okq (⟨"RoseLathe", "fittingFrom", "(I)I"⟩, 7) := ⟨⟨by decide +kernel, by decide +kernel⟩, List.mem_of_getElem? (i := 10) (by decide +kernel), List.mem_of_getElem? (i := 433) (by decide +kernel), List.mem_of_getElem? (i := 434) (by decide +kernel)⟩
theorem lw_p22 : lw_okq (⟨"RoseLathe", "slipsNotNought", "()I"⟩, 7) := ⟨⟨by decide +kernel, by decide +kernel⟩, List.mem_of_getElem? (i := 10) (by decide +kernel), List.mem_of_getElem? (i := 452) (by decide +kernel), List.mem_of_getElem? (i := 453) (by decide +kernel)⟩
theorem lw_p23 : lw_okq (⟨"RoseLatheModel", "begins", "(II)V"⟩, 7) := ⟨⟨by decide +kernel, by decide +kernel⟩, List.mem_of_getElem? (i := 456) (by decide +kernel), List.mem_of_getElem? (i := 494) (by decide +kernel), List.mem_of_getElem? (i := 495) (by decide +kernel)⟩
theorem lw_p24 : lw_okq (⟨"RoseLatheModel", "period", "(I)I"⟩, 7) := ⟨⟨by decide +kernel, by decide +kernel⟩, List.mem_of_getElem? (i := 456) (by decide +kernel), List.mem_of_getElem? (i := 510) (by decide +kernel), List.mem_of_getElem? (i := 511) (by decide +kernel)⟩
theorem lw_p25 : lw_okq (⟨"RoseLatheModel", "liftAt", "(II)I"⟩, 7) := ⟨⟨by decide +kernel, by decide +kernel⟩, List.mem_of_getElem? (i := 456) (by decide +kernel), List.mem_of_getElem? (i := 514) (by decide +kernel), List.mem_of_getElem? (i := 515) (by decide +kernel)⟩
theorem lw_p26 : lw_okq (⟨"RoseLatheModel", "turnOf", "(I)I"⟩, 7) := ⟨⟨by decide +kernel, by decide +kernel⟩, List.mem_of_getElem? (i := 456) (by decide +kernel), List.mem_of_getElem? (i := 525) (by decide +kernel), List.mem_of_getElem? (i := 526) (by decide +kernel)⟩
theorem lw_p27 : lw_okq (⟨"RoseLatheModel", "against", "(IIII)I"⟩, 7) := ⟨⟨by decide +kernel, by decide +kernel⟩, List.mem_of_getElem? (i := 456) (by decide +kernel), List.mem_of_getElem? (i := 529) (by decide +kernel), List.mem_of_getElem? (i := 530) (by decide +kernel)⟩
theorem lw_p28 : lw_okq (⟨"RoseLatheModel", "turned", "(III)I"⟩, 7) := ⟨⟨by decide +kernel, by decide +kernel⟩, List.mem_of_getElem? (i := 456) (by decide +kernel), List.mem_of_getElem? (i := 533) (by decide +kernel), List.mem_of_getElem? (i := 534) (by decide +kernel)⟩
theorem lw_p29 : lw_okq (⟨"RoseLatheModel", "isSetting", "(IIIIII)Z"⟩, 7) := ⟨⟨by decide +kernel, by decide +kernel⟩, List.mem_of_getElem? (i := 456) (by decide +kernel), List.mem_of_getElem? (i := 545) (by decide +kernel), List.mem_of_getElem? (i := 546) (by decide +kernel)⟩
theorem lw_p30 : lw_okq (⟨"RoseLatheModel", "placeAt", "(II)I"⟩, 7) := ⟨⟨by decide +kernel, by decide +kernel⟩, List.mem_of_getElem? (i := 456) (by decide +kernel), List.mem_of_getElem? (i := 564) (by decide +kernel), List.mem_of_getElem? (i := 565) (by decide +kernel)⟩
theorem lw_p31 : lw_okq (⟨"RoseLatheModel", "slipAt", "(I)I"⟩, 7) := ⟨⟨by decide +kernel, by decide +kernel⟩, List.mem_of_getElem? (i := 456) (by decide +kernel), List.mem_of_getElem? (i := 568) (by decide +kernel), List.mem_of_getElem? (i := 569) (by decide +kernel)⟩
def lw_privs_2 : List (MethodName × Nat) := [(⟨"RoseLathe$Search", "allOnLine", "(II)Z"⟩, 9), (⟨"RoseLathe", "currentLength", "()I"⟩, 7), (⟨"RoseLathe", "noteFitting", "(I)V"⟩, 7), (⟨"RoseLathe", "ringFits", "(II)Z"⟩, 7), (⟨"RoseLathe", "firstRingOff", "()I"⟩, 7), (⟨"RoseLathe", "fittingFrom", "(I)I"⟩, 7), (⟨"RoseLathe", "slipsNotNought", "()I"⟩, 7), (⟨"RoseLatheModel", "begins", "(II)V"⟩, 7), (⟨"RoseLatheModel", "period", "(I)I"⟩, 7), (⟨"RoseLatheModel", "liftAt", "(II)I"⟩, 7), (⟨"RoseLatheModel", "turnOf", "(I)I"⟩, 7), (⟨"RoseLatheModel", "against", "(IIII)I"⟩, 7), (⟨"RoseLatheModel", "turned", "(III)I"⟩, 7), (⟨"RoseLatheModel", "isSetting", "(IIIIII)Z"⟩, 7), (⟨"RoseLatheModel", "placeAt", "(II)I"⟩, 7), (⟨"RoseLatheModel", "slipAt", "(I)I"⟩, 7)]
theorem lw_r2 : ∀ q ∈ lw_privs_2, lw_okq q := List.forall_mem_cons.mpr ⟨lw_p16, List.forall_mem_cons.mpr ⟨lw_p17, List.forall_mem_cons.mpr ⟨lw_p18, List.forall_mem_cons.mpr ⟨lw_p19, List.forall_mem_cons.mpr ⟨lw_p20, List.forall_mem_cons.mpr ⟨lw_p21, List.forall_mem_cons.mpr ⟨lw_p22, List.forall_mem_cons.mpr ⟨lw_p23, List.forall_mem_cons.mpr ⟨lw_p24, List.forall_mem_cons.mpr ⟨lw_p25, List.forall_mem_cons.mpr ⟨lw_p26, List.forall_mem_cons.mpr ⟨lw_p27, List.forall_mem_cons.mpr ⟨lw_p28, List.forall_mem_cons.mpr ⟨lw_p29, List.forall_mem_cons.mpr ⟨lw_p30, List.forall_mem_cons.mpr ⟨lw_p31, fun _ h => absurd h List.not_mem_nil⟩⟩⟩⟩⟩⟩⟩⟩⟩⟩⟩⟩⟩⟩⟩⟩
theorem lw_p32 : lw_okq (⟨"RoseLatheModel", "placed", "([IIII)I"⟩, 7) := ⟨⟨by decide +kernel, by decide +kernel⟩, List.mem_of_getElem? (i := 456) (by decide +kernel), List.mem_of_getElem? (i := 572) (by decide +kernel), List.mem_of_getElem? (i := 573) (by decide +kernel)⟩
theorem lw_p33 : lw_okq (⟨"RoseLatheModel", "lifted", "([IIII)I"⟩, 7) := ⟨⟨by decide +kernel, by decide +kernel⟩, List.mem_of_getElem? (i := 456) (by decide +kernel), List.mem_of_getElem? (i := 576) (by decide +kernel), List.mem_of_getElem? (i := 577) (by decide +kernel)⟩
theorem lw_p34 : lw_okq (⟨"RoseLatheModel", "wallAt", "(II)I"⟩, 7) := ⟨⟨by decide +kernel, by decide +kernel⟩, List.mem_of_getElem? (i := 456) (by decide +kernel), List.mem_of_getElem? (i := 589) (by decide +kernel), List.mem_of_getElem? (i := 590) (by decide +kernel)⟩
theorem lw_p35 : lw_okq (⟨"RoseLatheModel", "seen", "()I"⟩, 7) := ⟨⟨by decide +kernel, by decide +kernel⟩, List.mem_of_getElem? (i := 456) (by decide +kernel), List.mem_of_getElem? (i := 614) (by decide +kernel), List.mem_of_getElem? (i := 615) (by decide +kernel)⟩
theorem lw_p36 : lw_okq (⟨"RoseLatheModel", "makersTo", "(I)I"⟩, 7) := ⟨⟨by decide +kernel, by decide +kernel⟩, List.mem_of_getElem? (i := 456) (by decide +kernel), List.mem_of_getElem? (i := 622) (by decide +kernel), List.mem_of_getElem? (i := 623) (by decide +kernel)⟩
theorem lw_p37 : lw_okq (⟨"RoseLatheModel", "makes", "()Z"⟩, 7) := ⟨⟨by decide +kernel, by decide +kernel⟩, List.mem_of_getElem? (i := 456) (by decide +kernel), List.mem_of_getElem? (i := 626) (by decide +kernel), List.mem_of_getElem? (i := 627) (by decide +kernel)⟩
theorem lw_p38 : lw_okq (⟨"RoseLatheModel", "ground", "(I)I"⟩, 7) := ⟨⟨by decide +kernel, by decide +kernel⟩, List.mem_of_getElem? (i := 456) (by decide +kernel), List.mem_of_getElem? (i := 630) (by decide +kernel), List.mem_of_getElem? (i := 631) (by decide +kernel)⟩
theorem lw_p39 : lw_okq (⟨"RoseLatheModel", "isMade", "(II)Z"⟩, 7) := ⟨⟨by decide +kernel, by decide +kernel⟩, List.mem_of_getElem? (i := 456) (by decide +kernel), List.mem_of_getElem? (i := 647) (by decide +kernel), List.mem_of_getElem? (i := 648) (by decide +kernel)⟩
theorem lw_p40 : lw_okq (⟨"RoseLatheModel", "ringsSeen", "()I"⟩, 7) := ⟨⟨by decide +kernel, by decide +kernel⟩, List.mem_of_getElem? (i := 456) (by decide +kernel), List.mem_of_getElem? (i := 655) (by decide +kernel), List.mem_of_getElem? (i := 656) (by decide +kernel)⟩
theorem lw_p41 : lw_okq (⟨"RoseLatheModel", "isRing", "(I)Z"⟩, 7) := ⟨⟨by decide +kernel, by decide +kernel⟩, List.mem_of_getElem? (i := 456) (by decide +kernel), List.mem_of_getElem? (i := 659) (by decide +kernel), List.mem_of_getElem? (i := 660) (by decide +kernel)⟩
def lw_privs_3 : List (MethodName × Nat) := [(⟨"RoseLatheModel", "placed", "([IIII)I"⟩, 7), (⟨"RoseLatheModel", "lifted", "([IIII)I"⟩, 7), (⟨"RoseLatheModel", "wallAt", "(II)I"⟩, 7), (⟨"RoseLatheModel", "seen", "()I"⟩, 7), (⟨"RoseLatheModel", "makersTo", "(I)I"⟩, 7), (⟨"RoseLatheModel", "makes", "()Z"⟩, 7), (⟨"RoseLatheModel", "ground", "(I)I"⟩, 7), (⟨"RoseLatheModel", "isMade", "(II)Z"⟩, 7), (⟨"RoseLatheModel", "ringsSeen", "()I"⟩, 7), (⟨"RoseLatheModel", "isRing", "(I)Z"⟩, 7)]
theorem lw_r3 : ∀ q ∈ lw_privs_3, lw_okq q := List.forall_mem_cons.mpr ⟨lw_p32, List.forall_mem_cons.mpr ⟨lw_p33, List.forall_mem_cons.mpr ⟨lw_p34, List.forall_mem_cons.mpr ⟨lw_p35, List.forall_mem_cons.mpr ⟨lw_p36, List.forall_mem_cons.mpr ⟨lw_p37, List.forall_mem_cons.mpr ⟨lw_p38, List.forall_mem_cons.mpr ⟨lw_p39, List.forall_mem_cons.mpr ⟨lw_p40, List.forall_mem_cons.mpr ⟨lw_p41, fun _ h => absurd h List.not_mem_nil⟩⟩⟩⟩⟩⟩⟩⟩⟩⟩
def lw_privs : List (MethodName × Nat) := lw_privs_1 ++ (lw_privs_2 ++ (lw_privs_3))
def lw_tbl : List Cond := k2_sels lw_privs ++ tables_1
theorem lw_privs_ok : ∀ q ∈ lw_privs, lw_okq q := by
  show ∀ q ∈ lw_privs_1 ++ (lw_privs_2 ++ (lw_privs_3)), lw_okq q
  exact List.forall_mem_append.mpr ⟨lw_r1, List.forall_mem_append.mpr ⟨lw_r2, lw_r3⟩⟩

def RX0 : String := "RoseLathe$Plate"
def TX0 : u_T := fun k => match k with
  | _ => ("RoseLathe$Plate", "places", "LRoseLathe$Row;", true)
def tyX0 : Nat → FieldType := fun k => match k with
  | _ => .object "RoseLathe$Row"
abbrev wsX00 : List Cond := u_ws RX0 TX0 1
theorem nmX0 : ∀ a, a < 1 → ∀ b, b < 1 → a ≠ b → (TX0 a).2.1 ≠ (TX0 b).2.1 := by decide +kernel
theorem tyX0_ok : ∀ k, k < 1 → parseFieldDescriptor (TX0 k).2.2.1 = some (tyX0 k) := by decide +kernel
abbrev cX0_init : ByteArray := prog_2_method_1_code
def yX0_init : MethodName := ⟨RX0, "<init>", "()V"⟩
abbrev cX0_look : ByteArray := prog_2_method_2_code
def yX0_look : MethodName := ⟨RX0, "look", "(II)I"⟩
abbrev cX0_mark : ByteArray := prog_2_method_3_code
def yX0_mark : MethodName := ⟨RX0, "mark", "(III)V"⟩
abbrev cX0_seen : ByteArray := prog_2_method_4_code
def yX0_seen : MethodName := ⟨RX0, "seen", "()I"⟩
abbrev cX0_ringsSeen : ByteArray := prog_2_method_5_code
def yX0_ringsSeen : MethodName := ⟨RX0, "ringsSeen", "()I"⟩
abbrev cX0_seenIn : ByteArray := prog_2_method_6_code
def yX0_seenIn : MethodName := ⟨RX0, "seenIn", "(I)I"⟩
def RX1 : String := "RoseLathe$Rosette"
def TX1 : u_T := fun k => match k with
  | 0 => ("RoseLathe$Rosette", "lifts", "LRoseLathe$Row;", true)
  | 1 => ("RoseLathe$Rosette", "fresh", "LRoseLathe$Row;", true)
  | _ => ("RoseLathe$Rosette", "length", "I", false)
def tyX1 : Nat → FieldType := fun k => match k with
  | 0 => .object "RoseLathe$Row"
  | 1 => .object "RoseLathe$Row"
  | _ => .int
abbrev wsX10 : List Cond := u_ws RX1 TX1 3
theorem nmX1 : ∀ a, a < 3 → ∀ b, b < 3 → a ≠ b → (TX1 a).2.1 ≠ (TX1 b).2.1 := by decide +kernel
theorem tyX1_ok : ∀ k, k < 3 → parseFieldDescriptor (TX1 k).2.2.1 = some (tyX1 k) := by decide +kernel
abbrev cX1_init : ByteArray := prog_3_method_1_code
def yX1_init : MethodName := ⟨RX1, "<init>", "()V"⟩
abbrev cX1_has : ByteArray := prog_3_method_2_code
def yX1_has : MethodName := ⟨RX1, "has", "(I)Z"⟩
abbrev cX1_flatten : ByteArray := prog_3_method_3_code
def yX1_flatten : MethodName := ⟨RX1, "flatten", "(I)V"⟩
abbrev cX1_cut : ByteArray := prog_3_method_4_code
def yX1_cut : MethodName := ⟨RX1, "cut", "(II)V"⟩
abbrev cX1_liftBehind : ByteArray := prog_3_method_5_code
def yX1_liftBehind : MethodName := ⟨RX1, "liftBehind", "(I)I"⟩
abbrev cX1_period : ByteArray := prog_3_method_6_code
def yX1_period : MethodName := ⟨RX1, "period", "()I"⟩
abbrev cX1_staysWhenTurned : ByteArray := prog_3_method_7_code
def yX1_staysWhenTurned : MethodName := ⟨RX1, "staysWhenTurned", "(I)Z"⟩
abbrev cX1_wayToName : ByteArray := prog_3_method_8_code
def yX1_wayToName : MethodName := ⟨RX1, "wayToName", "()I"⟩
abbrev cX1_comesBefore : ByteArray := prog_3_method_9_code
def yX1_comesBefore : MethodName := ⟨RX1, "comesBefore", "(II)Z"⟩
abbrev cX1_liftOnWay : ByteArray := prog_3_method_10_code
def yX1_liftOnWay : MethodName := ⟨RX1, "liftOnWay", "(II)I"⟩
abbrev cX1_become : ByteArray := prog_3_method_11_code
def yX1_become : MethodName := ⟨RX1, "become", "(LRoseLathe$Rosette;I)V"⟩
def RX2 : String := "RoseLathe$Row"
def TX2 : u_T := fun k => match k with
  | _ => ("RoseLathe$Row", "cells", "[I", true)
def tyX2 : Nat → FieldType := fun k => match k with
  | _ => .array .int
abbrev wsX20 : List Cond := u_ws RX2 TX2 1
theorem nmX2 : ∀ a, a < 1 → ∀ b, b < 1 → a ≠ b → (TX2 a).2.1 ≠ (TX2 b).2.1 := by decide +kernel
theorem tyX2_ok : ∀ k, k < 1 → parseFieldDescriptor (TX2 k).2.2.1 = some (tyX2 k) := by decide +kernel
abbrev cX2_init : ByteArray := prog_4_method_1_code
def yX2_init : MethodName := ⟨RX2, "<init>", "(I)V"⟩
abbrev cX2_get : ByteArray := prog_4_method_2_code
def yX2_get : MethodName := ⟨RX2, "get", "(I)I"⟩
abbrev cX2_put : ByteArray := prog_4_method_3_code
def yX2_put : MethodName := ⟨RX2, "put", "(II)V"⟩
def RX3 : String := "RoseLathe$Search"
def TX3 : u_T := fun k => match k with
  | 0 => ("RoseLathe$Search", "rosettes", "[LRoseLathe$Rosette;", true)
  | 1 => ("RoseLathe$Search", "plate", "LRoseLathe$Plate;", true)
  | 2 => ("RoseLathe$Search", "lastFound", "LRoseLathe$Setting;", true)
  | 3 => ("RoseLathe$Search", "seenRings", "LRoseLathe$Row;", true)
  | 4 => ("RoseLathe$Search", "rests", "LRoseLathe$Row;", true)
  | 5 => ("RoseLathe$Search", "manySeen", "I", false)
  | 6 => ("RoseLathe$Search", "period", "I", false)
  | 7 => ("RoseLathe$Search", "base", "I", false)
  | _ => ("RoseLathe$Search", "step", "I", false)
def tyX3 : Nat → FieldType := fun k => match k with
  | 0 => .array (.object "RoseLathe$Rosette")
  | 1 => .object "RoseLathe$Plate"
  | 2 => .object "RoseLathe$Setting"
  | 3 => .object "RoseLathe$Row"
  | 4 => .object "RoseLathe$Row"
  | 5 => .int
  | 6 => .int
  | 7 => .int
  | _ => .int
abbrev wsX30 : List Cond := u_ws RX3 TX3 9
theorem nmX3 : ∀ a, a < 9 → ∀ b, b < 9 → a ≠ b → (TX3 a).2.1 ≠ (TX3 b).2.1 := by decide +kernel
theorem tyX3_ok : ∀ k, k < 9 → parseFieldDescriptor (TX3 k).2.2.1 = some (tyX3 k) := by decide +kernel
abbrev cX3_init : ByteArray := prog_5_method_1_code
def yX3_init : MethodName := ⟨RX3, "<init>", "([LRoseLathe$Rosette;LRoseLathe$Plate;)V"⟩
abbrev cX3_find : ByteArray := prog_5_method_2_code
def yX3_find : MethodName := ⟨RX3, "find", "(I)I"⟩
abbrev cX3_findOfRosette : ByteArray := prog_5_method_3_code
def yX3_findOfRosette : MethodName := ⟨RX3, "findOfRosette", "(ILRoseLathe$Rosette;I)I"⟩
abbrev cX3_findOfGain : ByteArray := prog_5_method_4_code
def yX3_findOfGain : MethodName := ⟨RX3, "findOfGain", "(III)I"⟩
abbrev cX3_noteSeenRings : ByteArray := prog_5_method_5_code
def yX3_noteSeenRings : MethodName := ⟨RX3, "noteSeenRings", "()V"⟩
abbrev cX3_noteRests : ByteArray := prog_5_method_6_code
def yX3_noteRests : MethodName := ⟨RX3, "noteRests", "(LRoseLathe$Rosette;I)V"⟩
abbrev cX3_restOfRing : ByteArray := prog_5_method_7_code
def yX3_restOfRing : MethodName := ⟨RX3, "restOfRing", "(LRoseLathe$Rosette;III)I"⟩
abbrev cX3_restAt : ByteArray := prog_5_method_8_code
def yX3_restAt : MethodName := ⟨RX3, "restAt", "(III)I"⟩
abbrev cX3_drawLine : ByteArray := prog_5_method_9_code
def yX3_drawLine : MethodName := ⟨RX3, "drawLine", "(II)Z"⟩
abbrev cX3_allOnLine : ByteArray := prog_5_method_10_code
def yX3_allOnLine : MethodName := ⟨RX3, "allOnLine", "(II)Z"⟩
def RX4 : String := "RoseLathe$Setting"
def TX4 : u_T := fun k => match k with
  | 0 => ("RoseLathe$Setting", "rosette", "I", false)
  | 1 => ("RoseLathe$Setting", "gain", "I", false)
  | 2 => ("RoseLathe$Setting", "base", "I", false)
  | 3 => ("RoseLathe$Setting", "step", "I", false)
  | 4 => ("RoseLathe$Setting", "phase", "I", false)
  | _ => ("RoseLathe$Setting", "move", "I", false)
def tyX4 : Nat → FieldType := fun k => match k with
  | 0 => .int
  | 1 => .int
  | 2 => .int
  | 3 => .int
  | 4 => .int
  | _ => .int
abbrev wsX40 : List Cond := u_ws RX4 TX4 6
theorem nmX4 : ∀ a, a < 6 → ∀ b, b < 6 → a ≠ b → (TX4 a).2.1 ≠ (TX4 b).2.1 := by decide +kernel
theorem tyX4_ok : ∀ k, k < 6 → parseFieldDescriptor (TX4 k).2.2.1 = some (tyX4 k) := by decide +kernel
abbrev cX4_init : ByteArray := prog_6_method_1_code
def yX4_init : MethodName := ⟨RX4, "<init>", "()V"⟩
abbrev cX4_become : ByteArray := prog_6_method_2_code
def yX4_become : MethodName := ⟨RX4, "become", "(IIIIII)V"⟩
abbrev cX4_dropTurns : ByteArray := prog_6_method_3_code
def yX4_dropTurns : MethodName := ⟨RX4, "dropTurns", "(I)V"⟩
abbrev cX4_part : ByteArray := prog_6_method_4_code
def yX4_part : MethodName := ⟨RX4, "part", "(I)I"⟩
def RX5 : String := "RoseLathe"
def TX5 : u_T := fun k => match k with
  | 0 => ("RoseLathe", "rosettes", "[LRoseLathe$Rosette;", true)
  | 1 => ("RoseLathe", "current", "LRoseLathe$Setting;", true)
  | 2 => ("RoseLathe", "other", "LRoseLathe$Setting;", true)
  | 3 => ("RoseLathe", "slips", "LRoseLathe$Row;", true)
  | 4 => ("RoseLathe", "plate", "LRoseLathe$Plate;", true)
  | 5 => ("RoseLathe", "search", "LRoseLathe$Search;", true)
  | _ => ("RoseLathe", "fitting", "LRoseLathe$Row;", true)
def tyX5 : Nat → FieldType := fun k => match k with
  | 0 => .array (.object "RoseLathe$Rosette")
  | 1 => .object "RoseLathe$Setting"
  | 2 => .object "RoseLathe$Setting"
  | 3 => .object "RoseLathe$Row"
  | 4 => .object "RoseLathe$Plate"
  | 5 => .object "RoseLathe$Search"
  | _ => .object "RoseLathe$Row"
abbrev wsX50 : List Cond := u_ws RX5 TX5 7
theorem nmX5 : ∀ a, a < 7 → ∀ b, b < 7 → a ≠ b → (TX5 a).2.1 ≠ (TX5 b).2.1 := by decide +kernel
theorem tyX5_ok : ∀ k, k < 7 → parseFieldDescriptor (TX5 k).2.2.1 = some (tyX5 k) := by decide +kernel
abbrev cX5_init : ByteArray := prog_1_method_1_code
def yX5_init : MethodName := ⟨RX5, "<init>", "()V"⟩
abbrev cX5_rosette : ByteArray := prog_1_method_2_code
def yX5_rosette : MethodName := ⟨RX5, "rosette", "(II)I"⟩
abbrev cX5_lift : ByteArray := prog_1_method_3_code
def yX5_lift : MethodName := ⟨RX5, "lift", "(III)I"⟩
abbrev cX5_at : ByteArray := prog_1_method_4_code
def yX5_at : MethodName := ⟨RX5, "at", "(II)I"⟩
abbrev cX5_about : ByteArray := prog_1_method_5_code
def yX5_about : MethodName := ⟨RX5, "about", "(II)I"⟩
abbrev cX5_name : ByteArray := prog_1_method_6_code
def yX5_name : MethodName := ⟨RX5, "name", "(II)I"⟩
abbrev cX5_alike : ByteArray := prog_1_method_7_code
def yX5_alike : MethodName := ⟨RX5, "alike", "(II)I"⟩
abbrev cX5_sameName : ByteArray := prog_1_method_8_code
def yX5_sameName : MethodName := ⟨RX5, "sameName", "(LRoseLathe$Rosette;LRoseLathe$Rosette;)Z"⟩
abbrev cX5_rosetteOf : ByteArray := prog_1_method_9_code
def yX5_rosetteOf : MethodName := ⟨RX5, "rosetteOf", "(I)LRoseLathe$Rosette;"⟩
abbrev cX5_setting : ByteArray := prog_1_method_10_code
def yX5_setting : MethodName := ⟨RX5, "setting", "(IIIIII)I"⟩
abbrev cX5_told : ByteArray := prog_1_method_11_code
def yX5_told : MethodName := ⟨RX5, "told", "(I)I"⟩
abbrev cX5_slip : ByteArray := prog_1_method_12_code
def yX5_slip : MethodName := ⟨RX5, "slip", "(II)I"⟩
abbrev cX5_mayBeSet : ByteArray := prog_1_method_13_code
def yX5_mayBeSet : MethodName := ⟨RX5, "mayBeSet", "(IIIIII)Z"⟩
abbrev cX5_slipAt : ByteArray := prog_1_method_14_code
def yX5_slipAt : MethodName := ⟨RX5, "slipAt", "(I)I"⟩
abbrev cX5_place : ByteArray := prog_1_method_15_code
def yX5_place : MethodName := ⟨RX5, "place", "(II)I"⟩
abbrev cX5_closes : ByteArray := prog_1_method_16_code
def yX5_closes : MethodName := ⟨RX5, "closes", "()I"⟩
abbrev cX5_thin : ByteArray := prog_1_method_17_code
def yX5_thin : MethodName := ⟨RX5, "thin", "(II)I"⟩
abbrev cX5_wall : ByteArray := prog_1_method_18_code
def yX5_wall : MethodName := ⟨RX5, "wall", "(I)I"⟩
abbrev cX5_meets : ByteArray := prog_1_method_19_code
def yX5_meets : MethodName := ⟨RX5, "meets", "(IIII)I"⟩
abbrev cX5_overlaid : ByteArray := prog_1_method_20_code
def yX5_overlaid : MethodName := ⟨RX5, "overlaid", "(IIIIIII)I"⟩
abbrev cX5_wallAt : ByteArray := prog_1_method_21_code
def yX5_wallAt : MethodName := ⟨RX5, "wallAt", "(II)I"⟩
abbrev cX5_slippedPlace : ByteArray := prog_1_method_22_code
def yX5_slippedPlace : MethodName := ⟨RX5, "slippedPlace", "(II)I"⟩
abbrev cX5_placeOf : ByteArray := prog_1_method_23_code
def yX5_placeOf : MethodName := ⟨RX5, "placeOf", "(LRoseLathe$Setting;II)I"⟩
abbrev cX5_see : ByteArray := prog_1_method_24_code
def yX5_see : MethodName := ⟨RX5, "see", "(III)I"⟩
abbrev cX5_print : ByteArray := prog_1_method_25_code
def yX5_print : MethodName := ⟨RX5, "print", "(I)I"⟩
abbrev cX5_makers : ByteArray := prog_1_method_26_code
def yX5_makers : MethodName := ⟨RX5, "makers", "()I"⟩
abbrev cX5_maker : ByteArray := prog_1_method_27_code
def yX5_maker : MethodName := ⟨RX5, "maker", "(II)I"⟩
abbrev cX5_off : ByteArray := prog_1_method_28_code
def yX5_off : MethodName := ⟨RX5, "off", "()I"⟩
abbrev cX5_shown : ByteArray := prog_1_method_29_code
def yX5_shown : MethodName := ⟨RX5, "shown", "()I"⟩
abbrev cX5_count : ByteArray := prog_1_method_30_code
def yX5_count : MethodName := ⟨RX5, "count", "(I)I"⟩
abbrev cX5_slipsNotNought : ByteArray := prog_1_method_31_code
def yX5_slipsNotNought : MethodName := ⟨RX5, "slipsNotNought", "()I"⟩
abbrev cX5_seenPlace : ByteArray := prog_1_method_32_code
def yX5_seenPlace : MethodName := ⟨RX5, "seenPlace", "(II)I"⟩
abbrev cX5_currentLength : ByteArray := prog_1_method_33_code
def yX5_currentLength : MethodName := ⟨RX5, "currentLength", "()I"⟩
abbrev cX5_noteFitting : ByteArray := prog_1_method_34_code
def yX5_noteFitting : MethodName := ⟨RX5, "noteFitting", "(I)V"⟩
abbrev cX5_ringFits : ByteArray := prog_1_method_35_code
def yX5_ringFits : MethodName := ⟨RX5, "ringFits", "(II)Z"⟩
abbrev cX5_firstRingOff : ByteArray := prog_1_method_36_code
def yX5_firstRingOff : MethodName := ⟨RX5, "firstRingOff", "()I"⟩
abbrev cX5_fittingFrom : ByteArray := prog_1_method_37_code
def yX5_fittingFrom : MethodName := ⟨RX5, "fittingFrom", "(I)I"⟩
abbrev cX5_firstClicks : ByteArray := prog_1_method_38_code
def yX5_firstClicks : MethodName := ⟨RX5, "firstClicks", "(II)I"⟩
abbrev cX5_hasTurn : ByteArray := prog_1_method_39_code
def yX5_hasTurn : MethodName := ⟨RX5, "hasTurn", "(III)Z"⟩
abbrev cX5_isRing : ByteArray := prog_1_method_40_code
def yX5_isRing : MethodName := ⟨RX5, "isRing", "(I)Z"⟩
abbrev cX5_within : ByteArray := prog_1_method_41_code
def yX5_within : MethodName := ⟨RX5, "within", "(III)Z"⟩
def RX6 : String := "RoseLatheModel"
def TX6 : u_T := fun k => match k with
  | 0 => ("RoseLatheModel", "size", "[I", true)
  | 1 => ("RoseLatheModel", "lifts", "[I", true)
  | 2 => ("RoseLatheModel", "own", "[I", true)
  | 3 => ("RoseLatheModel", "other", "[I", true)
  | 4 => ("RoseLatheModel", "slips", "[I", true)
  | 5 => ("RoseLatheModel", "plate", "[I", true)
  | _ => ("RoseLatheModel", "hand", "[I", true)
def tyX6 : Nat → FieldType := fun k => match k with
  | 0 => .array .int
  | 1 => .array .int
  | 2 => .array .int
  | 3 => .array .int
  | 4 => .array .int
  | 5 => .array .int
  | _ => .array .int
abbrev wsX60 : List Cond := u_ws RX6 TX6 7
theorem nmX6 : ∀ a, a < 7 → ∀ b, b < 7 → a ≠ b → (TX6 a).2.1 ≠ (TX6 b).2.1 := by decide +kernel
theorem tyX6_ok : ∀ k, k < 7 → parseFieldDescriptor (TX6 k).2.2.1 = some (tyX6 k) := by decide +kernel
abbrev cX6_init : ByteArray := prog_8_method_1_code
def yX6_init : MethodName := ⟨RX6, "<init>", "()V"⟩
abbrev cX6_in : ByteArray := prog_8_method_2_code
def yX6_in : MethodName := ⟨RX6, "in", "(III)Z"⟩
abbrev cX6_isRosette : ByteArray := prog_8_method_3_code
def yX6_isRosette : MethodName := ⟨RX6, "isRosette", "(I)Z"⟩
abbrev cX6_begins : ByteArray := prog_8_method_4_code
def yX6_begins : MethodName := ⟨RX6, "begins", "(II)V"⟩
abbrev cX6_rosette : ByteArray := prog_8_method_5_code
def yX6_rosette : MethodName := ⟨RX6, "rosette", "(II)I"⟩
abbrev cX6_lift : ByteArray := prog_8_method_6_code
def yX6_lift : MethodName := ⟨RX6, "lift", "(III)I"⟩
abbrev cX6_at : ByteArray := prog_8_method_7_code
def yX6_at : MethodName := ⟨RX6, "at", "(II)I"⟩
abbrev cX6_by : ByteArray := prog_8_method_8_code
def yX6_by : MethodName := ⟨RX6, "by", "(II)I"⟩
abbrev cX6_liftAt : ByteArray := prog_8_method_9_code
def yX6_liftAt : MethodName := ⟨RX6, "liftAt", "(II)I"⟩
abbrev cX6_period : ByteArray := prog_8_method_10_code
def yX6_period : MethodName := ⟨RX6, "period", "(I)I"⟩
abbrev cX6_about : ByteArray := prog_8_method_11_code
def yX6_about : MethodName := ⟨RX6, "about", "(II)I"⟩
abbrev cX6_turned : ByteArray := prog_8_method_12_code
def yX6_turned : MethodName := ⟨RX6, "turned", "(III)I"⟩
abbrev cX6_against : ByteArray := prog_8_method_13_code
def yX6_against : MethodName := ⟨RX6, "against", "(IIII)I"⟩
abbrev cX6_turnOf : ByteArray := prog_8_method_14_code
def yX6_turnOf : MethodName := ⟨RX6, "turnOf", "(I)I"⟩
abbrev cX6_name : ByteArray := prog_8_method_15_code
def yX6_name : MethodName := ⟨RX6, "name", "(II)I"⟩
abbrev cX6_alike : ByteArray := prog_8_method_16_code
def yX6_alike : MethodName := ⟨RX6, "alike", "(II)I"⟩
abbrev cX6_isSetting : ByteArray := prog_8_method_17_code
def yX6_isSetting : MethodName := ⟨RX6, "isSetting", "(IIIIII)Z"⟩
abbrev cX6_lays : ByteArray := prog_8_method_18_code
def yX6_lays : MethodName := ⟨RX6, "lays", "([IIIIIII)V"⟩
abbrev cX6_setting : ByteArray := prog_8_method_19_code
def yX6_setting : MethodName := ⟨RX6, "setting", "(IIIIII)I"⟩
abbrev cX6_told : ByteArray := prog_8_method_20_code
def yX6_told : MethodName := ⟨RX6, "told", "(I)I"⟩
abbrev cX6_slip : ByteArray := prog_8_method_21_code
def yX6_slip : MethodName := ⟨RX6, "slip", "(II)I"⟩
abbrev cX6_slipAt : ByteArray := prog_8_method_22_code
def yX6_slipAt : MethodName := ⟨RX6, "slipAt", "(I)I"⟩
abbrev cX6_lifted : ByteArray := prog_8_method_23_code
def yX6_lifted : MethodName := ⟨RX6, "lifted", "([IIII)I"⟩
abbrev cX6_placed : ByteArray := prog_8_method_24_code
def yX6_placed : MethodName := ⟨RX6, "placed", "([IIII)I"⟩
abbrev cX6_placeAt : ByteArray := prog_8_method_25_code
def yX6_placeAt : MethodName := ⟨RX6, "placeAt", "(II)I"⟩
abbrev cX6_place : ByteArray := prog_8_method_26_code
def yX6_place : MethodName := ⟨RX6, "place", "(II)I"⟩
abbrev cX6_closes : ByteArray := prog_8_method_27_code
def yX6_closes : MethodName := ⟨RX6, "closes", "()I"⟩
abbrev cX6_wallAt : ByteArray := prog_8_method_28_code
def yX6_wallAt : MethodName := ⟨RX6, "wallAt", "(II)I"⟩
abbrev cX6_thin : ByteArray := prog_8_method_29_code
def yX6_thin : MethodName := ⟨RX6, "thin", "(II)I"⟩
abbrev cX6_wall : ByteArray := prog_8_method_30_code
def yX6_wall : MethodName := ⟨RX6, "wall", "(I)I"⟩
abbrev cX6_meets : ByteArray := prog_8_method_31_code
def yX6_meets : MethodName := ⟨RX6, "meets", "(IIII)I"⟩
abbrev cX6_overlaid : ByteArray := prog_8_method_32_code
def yX6_overlaid : MethodName := ⟨RX6, "overlaid", "(IIIIIII)I"⟩
abbrev cX6_see : ByteArray := prog_8_method_33_code
def yX6_see : MethodName := ⟨RX6, "see", "(III)I"⟩
abbrev cX6_seen : ByteArray := prog_8_method_34_code
def yX6_seen : MethodName := ⟨RX6, "seen", "()I"⟩
abbrev cX6_isRing : ByteArray := prog_8_method_35_code
def yX6_isRing : MethodName := ⟨RX6, "isRing", "(I)Z"⟩
abbrev cX6_ringsSeen : ByteArray := prog_8_method_36_code
def yX6_ringsSeen : MethodName := ⟨RX6, "ringsSeen", "()I"⟩
abbrev cX6_print : ByteArray := prog_8_method_37_code
def yX6_print : MethodName := ⟨RX6, "print", "(I)I"⟩
abbrev cX6_ground : ByteArray := prog_8_method_38_code
def yX6_ground : MethodName := ⟨RX6, "ground", "(I)I"⟩
abbrev cX6_makes : ByteArray := prog_8_method_39_code
def yX6_makes : MethodName := ⟨RX6, "makes", "()Z"⟩
abbrev cX6_makersTo : ByteArray := prog_8_method_40_code
def yX6_makersTo : MethodName := ⟨RX6, "makersTo", "(I)I"⟩
abbrev cX6_makers : ByteArray := prog_8_method_41_code
def yX6_makers : MethodName := ⟨RX6, "makers", "()I"⟩
abbrev cX6_maker : ByteArray := prog_8_method_42_code
def yX6_maker : MethodName := ⟨RX6, "maker", "(II)I"⟩
abbrev cX6_off : ByteArray := prog_8_method_43_code
def yX6_off : MethodName := ⟨RX6, "off", "()I"⟩
abbrev cX6_isMade : ByteArray := prog_8_method_44_code
def yX6_isMade : MethodName := ⟨RX6, "isMade", "(II)Z"⟩
abbrev cX6_shown : ByteArray := prog_8_method_45_code
def yX6_shown : MethodName := ⟨RX6, "shown", "()I"⟩
abbrev cX6_count : ByteArray := prog_8_method_46_code
def yX6_count : MethodName := ⟨RX6, "count", "(I)I"⟩
def RJ9 : String := "java/lang/Math"
abbrev cJ9_floorMod_7cf53 : ByteArray := prog_9_method_50_code
def yJ9_floorMod_7cf53 : MethodName := ⟨RJ9, "floorMod", "(II)I"⟩
abbrev cJ9_abs_0f7a4 : ByteArray := prog_9_method_59_code
def yJ9_abs_0f7a4 : MethodName := ⟨RJ9, "abs", "(I)I"⟩
abbrev cJ9_max_7cf53 : ByteArray := prog_9_method_65_code
def yJ9_max_7cf53 : MethodName := ⟨RJ9, "max", "(II)I"⟩
abbrev cJ9_min_7cf53 : ByteArray := prog_9_method_69_code
def yJ9_min_7cf53 : MethodName := ⟨RJ9, "min", "(II)I"⟩
def RL : String := "RoseLatheLaw"
abbrev cL_law : ByteArray := code
def yL_law : MethodName := ⟨RL, "law", "([I)Z"⟩
abbrev vwCl : List vw_C := [(RX0, TX0, 1), (RX1, TX1, 3), (RX2, TX2, 1), (RX3, TX3, 9), (RX4, TX4, 6), (RX5, TX5, 7), (RX6, TX6, 7)]
end
section
/-! THE TABLES OF THE CLASS FILES, BY NUMBER: classes 0 to 6 as in vwCl, 7 java/lang/Math, 8 the law; methods by number (ids.json beside the programs). -/
/-- the words of the tables that stay as they are while the machine goes on -/
def zT : List Cond := lw_tbl.filter goodWord
theorem zT_in {w : Cond} (h : w ∈ lw_tbl) (hg : goodWord w = true) : w ∈ zT := List.mem_filter.mpr ⟨h, hg⟩
theorem zT_of {w : Cond} {i : Nat} (h : (decide (lw_tbl[i]? = some w) && goodWord w) = true) : w ∈ zT := by
  rw [Bool.and_eq_true, decide_eq_true_eq] at h
  exact zT_in (List.mem_of_getElem? h.1) h.2
theorem zT_good : ∀ w ∈ zT, (w.onTables && w.keeps) = true ∨ ∃ ty, w = .arrayClass ty := fun _ h => good_of_word (List.mem_filter.mp h).2
theorem zT_sub : ∀ w ∈ zT, w ∈ lw_tbl := fun _ h => (List.mem_filter.mp h).1
/-- the name of a class by its number -/
def zRn : Nat → String := fun c => match c with
  | 0 => RX0
  | 1 => RX1
  | 2 => RX2
  | 3 => RX3
  | 4 => RX4
  | 5 => RX5
  | 6 => RX6
  | 7 => RJ9
  | _ => RL
def zys : List MethodName := [yX0_init, yX0_look, yX0_mark, yX0_seen, yX0_ringsSeen, yX0_seenIn, yX1_init, yX1_has, yX1_flatten, yX1_cut, yX1_liftBehind, yX1_period, yX1_staysWhenTurned, yX1_wayToName, yX1_comesBefore, yX1_liftOnWay, yX1_become, yX2_init, yX2_get, yX2_put, yX3_init, yX3_find, yX3_findOfRosette, yX3_findOfGain, yX3_noteSeenRings, yX3_noteRests, yX3_restOfRing, yX3_restAt, yX3_drawLine, yX3_allOnLine, yX4_init, yX4_become, yX4_dropTurns, yX4_part, yX5_init, yX5_rosette, yX5_lift, yX5_at, yX5_about, yX5_name, yX5_alike, yX5_sameName, yX5_rosetteOf, yX5_setting, yX5_told, yX5_slip, yX5_mayBeSet, yX5_slipAt, yX5_place, yX5_closes, yX5_thin, yX5_wall, yX5_meets, yX5_overlaid, yX5_wallAt, yX5_slippedPlace, yX5_placeOf, yX5_see, yX5_print, yX5_makers, yX5_maker, yX5_off, yX5_shown, yX5_count, yX5_slipsNotNought, yX5_seenPlace, yX5_currentLength, yX5_noteFitting, yX5_ringFits, yX5_firstRingOff, yX5_fittingFrom, yX5_firstClicks, yX5_hasTurn, yX5_isRing, yX5_within, yX6_init, yX6_in, yX6_isRosette, yX6_begins, yX6_rosette, yX6_lift, yX6_at, yX6_by, yX6_liftAt, yX6_period, yX6_about, yX6_turned, yX6_against, yX6_turnOf, yX6_name, yX6_alike, yX6_isSetting, yX6_lays, yX6_setting, yX6_told, yX6_slip, yX6_slipAt, yX6_lifted, yX6_placed, yX6_placeAt, yX6_place, yX6_closes, yX6_wallAt, yX6_thin, yX6_wall, yX6_meets, yX6_overlaid, yX6_see, yX6_seen, yX6_isRing, yX6_ringsSeen, yX6_print, yX6_ground, yX6_makes, yX6_makersTo, yX6_makers, yX6_maker, yX6_off, yX6_isMade, yX6_shown, yX6_count, yJ9_floorMod_7cf53, yJ9_abs_0f7a4, yJ9_max_7cf53, yJ9_min_7cf53, yL_law]
def zBs : List ByteArray := [cX0_init, cX0_look, cX0_mark, cX0_seen, cX0_ringsSeen, cX0_seenIn, cX1_init, cX1_has, cX1_flatten, cX1_cut, cX1_liftBehind, cX1_period, cX1_staysWhenTurned, cX1_wayToName, cX1_comesBefore, cX1_liftOnWay, cX1_become, cX2_init, cX2_get, cX2_put, cX3_init, cX3_find, cX3_findOfRosette, cX3_findOfGain, cX3_noteSeenRings, cX3_noteRests, cX3_restOfRing, cX3_restAt, cX3_drawLine, cX3_allOnLine, cX4_init, cX4_become, cX4_dropTurns, cX4_part, cX5_init, cX5_rosette, cX5_lift, cX5_at, cX5_about, cX5_name, cX5_alike, cX5_sameName, cX5_rosetteOf, cX5_setting, cX5_told, cX5_slip, cX5_mayBeSet, cX5_slipAt, cX5_place, cX5_closes, cX5_thin, cX5_wall, cX5_meets, cX5_overlaid, cX5_wallAt, cX5_slippedPlace, cX5_placeOf, cX5_see, cX5_print, cX5_makers, cX5_maker, cX5_off, cX5_shown, cX5_count, cX5_slipsNotNought, cX5_seenPlace, cX5_currentLength, cX5_noteFitting, cX5_ringFits, cX5_firstRingOff, cX5_fittingFrom, cX5_firstClicks, cX5_hasTurn, cX5_isRing, cX5_within, cX6_init, cX6_in, cX6_isRosette, cX6_begins, cX6_rosette, cX6_lift, cX6_at, cX6_by, cX6_liftAt, cX6_period, cX6_about, cX6_turned, cX6_against, cX6_turnOf, cX6_name, cX6_alike, cX6_isSetting, cX6_lays, cX6_setting, cX6_told, cX6_slip, cX6_slipAt, cX6_lifted, cX6_placed, cX6_placeAt, cX6_place, cX6_closes, cX6_wallAt, cX6_thin, cX6_wall, cX6_meets, cX6_overlaid, cX6_see, cX6_seen, cX6_isRing, cX6_ringsSeen, cX6_print, cX6_ground, cX6_makes, cX6_makersTo, cX6_makers, cX6_maker, cX6_off, cX6_isMade, cX6_shown, cX6_count, cJ9_floorMod_7cf53, cJ9_abs_0f7a4, cJ9_max_7cf53, cJ9_min_7cf53, cL_law]
def zCs : List Nat := [0, 0, 0, 0, 0, 0, 1, 1, 1, 1, 1, 1, 1, 1, 1, 1, 1, 2, 2, 2, 3, 3, 3, 3, 3, 3, 3, 3, 3, 3, 4, 4, 4, 4, 5, 5, 5, 5, 5, 5, 5, 5, 5, 5, 5, 5, 5, 5, 5, 5, 5, 5, 5, 5, 5, 5, 5, 5, 5, 5, 5, 5, 5, 5, 5, 5, 5, 5, 5, 5, 5, 5, 5, 5, 5, 6, 6, 6, 6, 6, 6, 6, 6, 6, 6, 6, 6, 6, 6, 6, 6, 6, 6, 6, 6, 6, 6, 6, 6, 6, 6, 6, 6, 6, 6, 6, 6, 6, 6, 6, 6, 6, 6, 6, 6, 6, 6, 6, 6, 6, 6, 7, 7, 7, 7, 8]
def zMLs : List Nat := [2, 3, 4, 3, 3, 4, 1, 2, 3, 3, 2, 2, 3, 3, 6, 3, 5, 2, 2, 3, 3, 5, 6, 7, 2, 6, 9, 4, 8, 5, 1, 7, 2, 2, 2, 4, 6, 4, 4, 6, 5, 5, 2, 7, 2, 4, 8, 4, 3, 4, 5, 5, 5, 11, 3, 3, 6, 5, 4, 1, 3, 5, 5, 2, 3, 4, 2, 5, 5, 2, 4, 3, 3, 1, 3, 2, 3, 1, 4, 3, 5, 3, 3, 3, 5, 3, 4, 7, 4, 6, 3, 7, 7, 7, 2, 4, 4, 5, 5, 3, 3, 3, 3, 5, 5, 6, 11, 5, 3, 4, 3, 5, 6, 7, 6, 1, 3, 5, 6, 3, 4, 3, 1, 2, 2, 4]
def zRets : List (Option FieldType) := [none, some .int, none, some .int, some .int, some .int, none, some .boolean, none, none, some .int, some .int, some .boolean, some .int, some .boolean, some .int, none, none, some .int, none, none, some .int, some .int, some .int, none, none, some .int, some .int, some .boolean, some .boolean, none, none, none, some .int, none, some .int, some .int, some .int, some .int, some .int, some .int, some .boolean, some (.object "RoseLathe$Rosette"), some .int, some .int, some .int, some .boolean, some .int, some .int, some .int, some .int, some .int, some .int, some .int, some .int, some .int, some .int, some .int, some .int, some .int, some .int, some .int, some .int, some .int, some .int, some .int, some .int, none, some .boolean, some .int, some .int, some .int, some .boolean, some .boolean, some .boolean, none, some .boolean, some .boolean, none, some .int, some .int, some .int, some .int, some .int, some .int, some .int, some .int, some .int, some .int, some .int, some .int, some .boolean, none, some .int, some .int, some .int, some .int, some .int, some .int, some .int, some .int, some .int, some .int, some .int, some .int, some .int, some .int, some .int, some .int, some .boolean, some .int, some .int, some .int, some .boolean, some .int, some .int, some .int, some .int, some .boolean, some .int, some .int, some .int, some .int, some .int, some .int, some .boolean]
def zNps : List Nat := [0, 2, 3, 0, 0, 1, 0, 1, 1, 2, 1, 0, 1, 0, 2, 2, 2, 1, 1, 2, 2, 1, 3, 3, 0, 2, 4, 3, 2, 2, 0, 6, 1, 1, 0, 2, 3, 2, 2, 2, 2, 2, 1, 6, 1, 2, 6, 1, 2, 0, 2, 1, 4, 7, 2, 2, 3, 3, 1, 0, 2, 0, 0, 1, 0, 2, 0, 1, 2, 0, 1, 2, 3, 1, 3, 0, 3, 1, 2, 2, 3, 2, 2, 2, 1, 2, 3, 4, 1, 2, 2, 6, 7, 6, 1, 2, 1, 4, 4, 2, 2, 0, 2, 2, 1, 4, 7, 3, 0, 1, 0, 1, 1, 0, 1, 0, 2, 0, 2, 0, 1, 2, 1, 2, 2, 1]
def zRfs : List Nat := [2, 1, 1, 3, 3, 2, 2, 0, 1, 1, 1, 3, 2, 4, 3, 2, 3, 1, 0, 0, 2, 5, 4, 3, 3, 3, 2, 1, 2, 2, 1, 0, 0, 0, 3, 2, 2, 2, 4, 5, 6, 5, 0, 2, 1, 2, 1, 1, 4, 4, 5, 5, 4, 3, 4, 3, 2, 2, 5, 6, 6, 4, 5, 4, 1, 4, 1, 4, 3, 1, 1, 2, 1, 1, 0, 1, 0, 1, 0, 2, 2, 2, 0, 1, 2, 3, 2, 3, 4, 5, 5, 2, 0, 3, 1, 1, 0, 2, 3, 4, 5, 3, 5, 6, 6, 5, 4, 1, 0, 0, 1, 5, 3, 4, 5, 6, 6, 5, 4, 5, 2, 0, 0, 0, 0, 9]
def zRls : List Nat := [42, 21, 22, 66, 66, 43, 42, 0, 22, 22, 22, 65, 43, 90, 65, 43, 65, 21, 0, 0, 42, 122, 97, 71, 66, 71, 43, 21, 44, 44, 20, 0, 0, 0, 64, 44, 44, 43, 86, 112, 136, 112, 0, 49, 21, 42, 22, 21, 90, 86, 112, 112, 90, 68, 90, 68, 43, 45, 113, 146, 146, 90, 116, 88, 21, 90, 21, 92, 68, 21, 21, 44, 22, 22, 0, 20, 0, 22, 0, 42, 42, 42, 0, 22, 44, 68, 44, 67, 93, 116, 116, 42, 0, 68, 22, 22, 0, 44, 68, 92, 114, 68, 114, 136, 136, 114, 92, 22, 0, 0, 23, 114, 68, 93, 119, 144, 144, 114, 92, 117, 45, 0, 0, 0, 0, 342]
def zMcs : List Nat := [2, 0, 0, 0, 0, 0, 4, 0, 0, 0, 0, 0, 0, 0, 0, 0, 0, 1, 0, 0, 5, 0, 0, 0, 0, 0, 0, 0, 0, 0, 0, 0, 0, 0, 36, 0, 0, 0, 0, 0, 0, 0, 0, 0, 0, 0, 0, 0, 0, 0, 0, 0, 0, 0, 0, 0, 0, 0, 0, 0, 0, 0, 0, 0, 0, 0, 0, 0, 0, 0, 0, 0, 0, 0, 0, 7, 0, 0, 0, 0, 0, 0, 0, 0, 0, 0, 0, 0, 0, 0, 0, 0, 0, 0, 0, 0, 0, 0, 0, 0, 0, 0, 0, 0, 0, 0, 0, 0, 0, 0, 0, 0, 0, 0, 0, 0, 0, 0, 0, 0, 0, 0, 0, 0, 0, 600000]
def zMss : List Nat := [577, 0, 0, 0, 0, 0, 1154, 0, 0, 0, 0, 0, 0, 0, 0, 0, 0, 576, 0, 0, 1160, 0, 0, 0, 0, 0, 0, 0, 0, 0, 0, 0, 0, 0, 7545, 0, 0, 0, 0, 0, 0, 0, 0, 0, 0, 0, 0, 0, 0, 0, 0, 0, 0, 0, 0, 0, 0, 0, 0, 0, 0, 0, 0, 0, 0, 0, 0, 0, 0, 0, 0, 0, 0, 0, 0, 724, 0, 0, 0, 0, 0, 0, 0, 0, 0, 0, 0, 0, 0, 0, 0, 0, 0, 0, 0, 0, 0, 0, 0, 0, 0, 0, 0, 0, 0, 0, 0, 0, 0, 0, 0, 0, 0, 0, 0, 0, 0, 0, 0, 0, 0, 0, 0, 0, 0, 7302249]
def zy (j : Nat) : MethodName := zys.getD j ⟨"", "", ""⟩
def zB (j : Nat) : ByteArray := zBs.getD j ⟨#[]⟩
def zC (j : Nat) : Nat := zCs.getD j 0
def zML (j : Nat) : Nat := zMLs.getD j 0
def zRet (j : Nat) : Option FieldType := zRets.getD j none
def zNp (j : Nat) : Nat := zNps.getD j 0
def zRf (j : Nat) : Nat := zRfs.getD j 0
def zRl (j : Nat) : Nat := zRls.getD j 0
def zMc (j : Nat) : Nat := zMcs.getD j 0
def zMs (j : Nat) : Nat := zMss.getD j 0
def zRm (j : Nat) : Room := { frames := zRf j, cells := zMc j, slots := zMs j, locals := zRl j }
/-- what a method must be -/
def zMok (j : Nat) : Bool := plainFor (zy j) && decide ((zy j).cls = zRn (zC j)) && decide ((zy j).cls ≠ "java/lang/invoke/MethodHandle") && decide ((zy j).cls ≠ "java/lang/invoke/VarHandle") && decide ((parseMethodDescriptor (zy j).desc).map (fun d => d.parameters.length) = some (zNp j))
set_option maxRecDepth 20000 in
theorem zMc0 : lw_tbl[110]? = some (Cond.code (zy 0) (zB 0) (zML 0) (zRet 0)) := rfl
set_option maxRecDepth 20000 in
theorem zMc1 : lw_tbl[374]? = some (Cond.code (zy 1) (zB 1) (zML 1) (zRet 1)) := rfl
set_option maxRecDepth 20000 in
theorem zMc2 : lw_tbl[379]? = some (Cond.code (zy 2) (zB 2) (zML 2) (zRet 2)) := rfl
set_option maxRecDepth 20000 in
theorem zMc3 : lw_tbl[391]? = some (Cond.code (zy 3) (zB 3) (zML 3) (zRet 3)) := rfl
set_option maxRecDepth 20000 in
theorem zMc4 : lw_tbl[492]? = some (Cond.code (zy 4) (zB 4) (zML 4) (zRet 4)) := rfl
set_option maxRecDepth 20000 in
theorem zMc5 : lw_tbl[395]? = some (Cond.code (zy 5) (zB 5) (zML 5) (zRet 5)) := rfl
set_option maxRecDepth 20000 in
theorem zMc6 : lw_tbl[125]? = some (Cond.code (zy 6) (zB 6) (zML 6) (zRet 6)) := rfl
set_option maxRecDepth 20000 in
theorem zMc7 : lw_tbl[228]? = some (Cond.code (zy 7) (zB 7) (zML 7) (zRet 7)) := rfl
set_option maxRecDepth 20000 in
theorem zMc8 : lw_tbl[215]? = some (Cond.code (zy 8) (zB 8) (zML 8) (zRet 8)) := rfl
set_option maxRecDepth 20000 in
theorem zMc9 : lw_tbl[243]? = some (Cond.code (zy 9) (zB 9) (zML 9) (zRet 9)) := rfl
set_option maxRecDepth 20000 in
theorem zMc10 : lw_tbl[232]? = some (Cond.code (zy 10) (zB 10) (zML 10) (zRet 10)) := rfl
set_option maxRecDepth 20000 in
theorem zMc11 : lw_tbl[255]? = some (Cond.code (zy 11) (zB 11) (zML 11) (zRet 11)) := rfl
set_option maxRecDepth 20000 in
theorem zMc12 : lw_tbl[259]? = some (Cond.code (zy 12) (zB 12) (zML 12) (zRet 12)) := rfl
set_option maxRecDepth 20000 in
theorem zMc13 : lw_tbl[268]? = some (Cond.code (zy 13) (zB 13) (zML 13) (zRet 13)) := rfl
set_option maxRecDepth 20000 in
theorem zMc14 : lw_tbl[272]? = some (Cond.code (zy 14) (zB 14) (zML 14) (zRet 14)) := rfl
set_option maxRecDepth 20000 in
theorem zMc15 : lw_tbl[276]? = some (Cond.code (zy 15) (zB 15) (zML 15) (zRet 15)) := rfl
set_option maxRecDepth 20000 in
theorem zMc16 : lw_tbl[280]? = some (Cond.code (zy 16) (zB 16) (zML 16) (zRet 16)) := rfl
set_option maxRecDepth 20000 in
theorem zMc17 : lw_tbl[96]? = some (Cond.code (zy 17) (zB 17) (zML 17) (zRet 17)) := rfl
set_option maxRecDepth 20000 in
theorem zMc18 : lw_tbl[239]? = some (Cond.code (zy 18) (zB 18) (zML 18) (zRet 18)) := rfl
set_option maxRecDepth 20000 in
theorem zMc19 : lw_tbl[117]? = some (Cond.code (zy 19) (zB 19) (zML 19) (zRet 19)) := rfl
set_option maxRecDepth 20000 in
theorem zMc20 : lw_tbl[144]? = some (Cond.code (zy 20) (zB 20) (zML 20) (zRet 20)) := rfl
set_option maxRecDepth 20000 in
theorem zMc21 : lw_tbl[404]? = some (Cond.code (zy 21) (zB 21) (zML 21) (zRet 21)) := rfl
set_option maxRecDepth 20000 in
theorem zMc22 : lw_tbl[414]? = some (Cond.code (zy 22) (zB 22) (zML 22) (zRet 22)) := rfl
set_option maxRecDepth 20000 in
theorem zMc23 : lw_tbl[431]? = some (Cond.code (zy 23) (zB 23) (zML 23) (zRet 23)) := rfl
set_option maxRecDepth 20000 in
theorem zMc24 : lw_tbl[408]? = some (Cond.code (zy 24) (zB 24) (zML 24) (zRet 24)) := rfl
set_option maxRecDepth 20000 in
theorem zMc25 : lw_tbl[419]? = some (Cond.code (zy 25) (zB 25) (zML 25) (zRet 25)) := rfl
set_option maxRecDepth 20000 in
theorem zMc26 : lw_tbl[424]? = some (Cond.code (zy 26) (zB 26) (zML 26) (zRet 26)) := rfl
set_option maxRecDepth 20000 in
theorem zMc27 : lw_tbl[439]? = some (Cond.code (zy 27) (zB 27) (zML 27) (zRet 27)) := rfl
set_option maxRecDepth 20000 in
theorem zMc28 : lw_tbl[435]? = some (Cond.code (zy 28) (zB 28) (zML 28) (zRet 28)) := rfl
set_option maxRecDepth 20000 in
theorem zMc29 : lw_tbl[444]? = some (Cond.code (zy 29) (zB 29) (zML 29) (zRet 29)) := rfl
set_option maxRecDepth 20000 in
theorem zMc30 : lw_tbl[65]? = some (Cond.code (zy 30) (zB 30) (zML 30) (zRet 30)) := rfl
set_option maxRecDepth 20000 in
theorem zMc31 : lw_tbl[301]? = some (Cond.code (zy 31) (zB 31) (zML 31) (zRet 31)) := rfl
set_option maxRecDepth 20000 in
theorem zMc32 : lw_tbl[220]? = some (Cond.code (zy 32) (zB 32) (zML 32) (zRet 32)) := rfl
set_option maxRecDepth 20000 in
theorem zMc33 : lw_tbl[309]? = some (Cond.code (zy 33) (zB 33) (zML 33) (zRet 33)) := rfl
set_option maxRecDepth 20000 in
theorem zMc34 : lw_tbl[55]? = some (Cond.code (zy 34) (zB 34) (zML 34) (zRet 34)) := rfl
set_option maxRecDepth 20000 in
theorem zMc35 : lw_tbl[204]? = some (Cond.code (zy 35) (zB 35) (zML 35) (zRet 35)) := rfl
set_option maxRecDepth 20000 in
theorem zMc36 : lw_tbl[224]? = some (Cond.code (zy 36) (zB 36) (zML 36) (zRet 36)) := rfl
set_option maxRecDepth 20000 in
theorem zMc37 : lw_tbl[247]? = some (Cond.code (zy 37) (zB 37) (zML 37) (zRet 37)) := rfl
set_option maxRecDepth 20000 in
theorem zMc38 : lw_tbl[251]? = some (Cond.code (zy 38) (zB 38) (zML 38) (zRet 38)) := rfl
set_option maxRecDepth 20000 in
theorem zMc39 : lw_tbl[264]? = some (Cond.code (zy 39) (zB 39) (zML 39) (zRet 39)) := rfl
set_option maxRecDepth 20000 in
theorem zMc40 : lw_tbl[285]? = some (Cond.code (zy 40) (zB 40) (zML 40) (zRet 40)) := rfl
set_option maxRecDepth 20000 in
theorem zMc41 : lw_tbl[288]? = some (Cond.code (zy 41) (zB 41) (zML 41) (zRet 41)) := rfl
set_option maxRecDepth 20000 in
theorem zMc42 : lw_tbl[208]? = some (Cond.code (zy 42) (zB 42) (zML 42) (zRet 42)) := rfl
set_option maxRecDepth 20000 in
theorem zMc43 : lw_tbl[293]? = some (Cond.code (zy 43) (zB 43) (zML 43) (zRet 43)) := rfl
set_option maxRecDepth 20000 in
theorem zMc44 : lw_tbl[305]? = some (Cond.code (zy 44) (zB 44) (zML 44) (zRet 44)) := rfl
set_option maxRecDepth 20000 in
theorem zMc45 : lw_tbl[313]? = some (Cond.code (zy 45) (zB 45) (zML 45) (zRet 45)) := rfl
set_option maxRecDepth 20000 in
theorem zMc46 : lw_tbl[297]? = some (Cond.code (zy 46) (zB 46) (zML 46) (zRet 46)) := rfl
set_option maxRecDepth 20000 in
theorem zMc47 : lw_tbl[331]? = some (Cond.code (zy 47) (zB 47) (zML 47) (zRet 47)) := rfl
set_option maxRecDepth 20000 in
theorem zMc48 : lw_tbl[322]? = some (Cond.code (zy 48) (zB 48) (zML 48) (zRet 48)) := rfl
set_option maxRecDepth 20000 in
theorem zMc49 : lw_tbl[339]? = some (Cond.code (zy 49) (zB 49) (zML 49) (zRet 49)) := rfl
set_option maxRecDepth 20000 in
theorem zMc50 : lw_tbl[344]? = some (Cond.code (zy 50) (zB 50) (zML 50) (zRet 50)) := rfl
set_option maxRecDepth 20000 in
theorem zMc51 : lw_tbl[352]? = some (Cond.code (zy 51) (zB 51) (zML 51) (zRet 51)) := rfl
set_option maxRecDepth 20000 in
theorem zMc52 : lw_tbl[359]? = some (Cond.code (zy 52) (zB 52) (zML 52) (zRet 52)) := rfl
set_option maxRecDepth 20000 in
theorem zMc53 : lw_tbl[366]? = some (Cond.code (zy 53) (zB 53) (zML 53) (zRet 53)) := rfl
set_option maxRecDepth 20000 in
theorem zMc54 : lw_tbl[348]? = some (Cond.code (zy 54) (zB 54) (zML 54) (zRet 54)) := rfl
set_option maxRecDepth 20000 in
theorem zMc55 : lw_tbl[327]? = some (Cond.code (zy 55) (zB 55) (zML 55) (zRet 55)) := rfl
set_option maxRecDepth 20000 in
theorem zMc56 : lw_tbl[335]? = some (Cond.code (zy 56) (zB 56) (zML 56) (zRet 56)) := rfl
set_option maxRecDepth 20000 in
theorem zMc57 : lw_tbl[370]? = some (Cond.code (zy 57) (zB 57) (zML 57) (zRet 57)) := rfl
set_option maxRecDepth 20000 in
theorem zMc58 : lw_tbl[383]? = some (Cond.code (zy 58) (zB 58) (zML 58) (zRet 58)) := rfl
set_option maxRecDepth 20000 in
theorem zMc59 : lw_tbl[400]? = some (Cond.code (zy 59) (zB 59) (zML 59) (zRet 59)) := rfl
set_option maxRecDepth 20000 in
theorem zMc60 : lw_tbl[449]? = some (Cond.code (zy 60) (zB 60) (zML 60) (zRet 60)) := rfl
set_option maxRecDepth 20000 in
theorem zMc61 : lw_tbl[453]? = some (Cond.code (zy 61) (zB 61) (zML 61) (zRet 61)) := rfl
set_option maxRecDepth 20000 in
theorem zMc62 : lw_tbl[457]? = some (Cond.code (zy 62) (zB 62) (zML 62) (zRet 62)) := rfl
set_option maxRecDepth 20000 in
theorem zMc63 : lw_tbl[488]? = some (Cond.code (zy 63) (zB 63) (zML 63) (zRet 63)) := rfl
set_option maxRecDepth 20000 in
theorem zMc64 : lw_tbl[496]? = some (Cond.code (zy 64) (zB 64) (zML 64) (zRet 64)) := rfl
set_option maxRecDepth 20000 in
theorem zMc65 : lw_tbl[387]? = some (Cond.code (zy 65) (zB 65) (zML 65) (zRet 65)) := rfl
set_option maxRecDepth 20000 in
theorem zMc66 : lw_tbl[461]? = some (Cond.code (zy 66) (zB 66) (zML 66) (zRet 66)) := rfl
set_option maxRecDepth 20000 in
theorem zMc67 : lw_tbl[465]? = some (Cond.code (zy 67) (zB 67) (zML 67) (zRet 67)) := rfl
set_option maxRecDepth 20000 in
theorem zMc68 : lw_tbl[469]? = some (Cond.code (zy 68) (zB 68) (zML 68) (zRet 68)) := rfl
set_option maxRecDepth 20000 in
theorem zMc69 : lw_tbl[473]? = some (Cond.code (zy 69) (zB 69) (zML 69) (zRet 69)) := rfl
set_option maxRecDepth 20000 in
theorem zMc70 : lw_tbl[477]? = some (Cond.code (zy 70) (zB 70) (zML 70) (zRet 70)) := rfl
set_option maxRecDepth 20000 in
theorem zMc71 : lw_tbl[480]? = some (Cond.code (zy 71) (zB 71) (zML 71) (zRet 71)) := rfl
set_option maxRecDepth 20000 in
theorem zMc72 : lw_tbl[483]? = some (Cond.code (zy 72) (zB 72) (zML 72) (zRet 72)) := rfl
set_option maxRecDepth 20000 in
theorem zMc73 : lw_tbl[316]? = some (Cond.code (zy 73) (zB 73) (zML 73) (zRet 73)) := rfl
set_option maxRecDepth 20000 in
theorem zMc74 : lw_tbl[211]? = some (Cond.code (zy 74) (zB 74) (zML 74) (zRet 74)) := rfl
set_option maxRecDepth 20000 in
theorem zMc75 : lw_tbl[501]? = some (Cond.code (zy 75) (zB 75) (zML 75) (zRet 75)) := rfl
set_option maxRecDepth 20000 in
theorem zMc76 : lw_tbl[534]? = some (Cond.code (zy 76) (zB 76) (zML 76) (zRet 76)) := rfl
set_option maxRecDepth 20000 in
theorem zMc77 : lw_tbl[531]? = some (Cond.code (zy 77) (zB 77) (zML 77) (zRet 77)) := rfl
set_option maxRecDepth 20000 in
theorem zMc78 : lw_tbl[538]? = some (Cond.code (zy 78) (zB 78) (zML 78) (zRet 78)) := rfl
set_option maxRecDepth 20000 in
theorem zMc79 : lw_tbl[528]? = some (Cond.code (zy 79) (zB 79) (zML 79) (zRet 79)) := rfl
set_option maxRecDepth 20000 in
theorem zMc80 : lw_tbl[542]? = some (Cond.code (zy 80) (zB 80) (zML 80) (zRet 80)) := rfl
set_option maxRecDepth 20000 in
theorem zMc81 : lw_tbl[546]? = some (Cond.code (zy 81) (zB 81) (zML 81) (zRet 81)) := rfl
set_option maxRecDepth 20000 in
theorem zMc82 : lw_tbl[561]? = some (Cond.code (zy 82) (zB 82) (zML 82) (zRet 82)) := rfl
set_option maxRecDepth 20000 in
theorem zMc83 : lw_tbl[558]? = some (Cond.code (zy 83) (zB 83) (zML 83) (zRet 83)) := rfl
set_option maxRecDepth 20000 in
theorem zMc84 : lw_tbl[554]? = some (Cond.code (zy 84) (zB 84) (zML 84) (zRet 84)) := rfl
set_option maxRecDepth 20000 in
theorem zMc85 : lw_tbl[550]? = some (Cond.code (zy 85) (zB 85) (zML 85) (zRet 85)) := rfl
set_option maxRecDepth 20000 in
theorem zMc86 : lw_tbl[577]? = some (Cond.code (zy 86) (zB 86) (zML 86) (zRet 86)) := rfl
set_option maxRecDepth 20000 in
theorem zMc87 : lw_tbl[573]? = some (Cond.code (zy 87) (zB 87) (zML 87) (zRet 87)) := rfl
set_option maxRecDepth 20000 in
theorem zMc88 : lw_tbl[569]? = some (Cond.code (zy 88) (zB 88) (zML 88) (zRet 88)) := rfl
set_option maxRecDepth 20000 in
theorem zMc89 : lw_tbl[565]? = some (Cond.code (zy 89) (zB 89) (zML 89) (zRet 89)) := rfl
set_option maxRecDepth 20000 in
theorem zMc90 : lw_tbl[581]? = some (Cond.code (zy 90) (zB 90) (zML 90) (zRet 90)) := rfl
set_option maxRecDepth 20000 in
theorem zMc91 : lw_tbl[589]? = some (Cond.code (zy 91) (zB 91) (zML 91) (zRet 91)) := rfl
set_option maxRecDepth 20000 in
theorem zMc92 : lw_tbl[592]? = some (Cond.code (zy 92) (zB 92) (zML 92) (zRet 92)) := rfl
set_option maxRecDepth 20000 in
theorem zMc93 : lw_tbl[585]? = some (Cond.code (zy 93) (zB 93) (zML 93) (zRet 93)) := rfl
set_option maxRecDepth 20000 in
theorem zMc94 : lw_tbl[596]? = some (Cond.code (zy 94) (zB 94) (zML 94) (zRet 94)) := rfl
set_option maxRecDepth 20000 in
theorem zMc95 : lw_tbl[600]? = some (Cond.code (zy 95) (zB 95) (zML 95) (zRet 95)) := rfl
set_option maxRecDepth 20000 in
theorem zMc96 : lw_tbl[612]? = some (Cond.code (zy 96) (zB 96) (zML 96) (zRet 96)) := rfl
set_option maxRecDepth 20000 in
theorem zMc97 : lw_tbl[620]? = some (Cond.code (zy 97) (zB 97) (zML 97) (zRet 97)) := rfl
set_option maxRecDepth 20000 in
theorem zMc98 : lw_tbl[616]? = some (Cond.code (zy 98) (zB 98) (zML 98) (zRet 98)) := rfl
set_option maxRecDepth 20000 in
theorem zMc99 : lw_tbl[608]? = some (Cond.code (zy 99) (zB 99) (zML 99) (zRet 99)) := rfl
set_option maxRecDepth 20000 in
theorem zMc100 : lw_tbl[604]? = some (Cond.code (zy 100) (zB 100) (zML 100) (zRet 100)) := rfl
set_option maxRecDepth 20000 in
theorem zMc101 : lw_tbl[625]? = some (Cond.code (zy 101) (zB 101) (zML 101) (zRet 101)) := rfl
set_option maxRecDepth 20000 in
theorem zMc102 : lw_tbl[633]? = some (Cond.code (zy 102) (zB 102) (zML 102) (zRet 102)) := rfl
set_option maxRecDepth 20000 in
theorem zMc103 : lw_tbl[629]? = some (Cond.code (zy 103) (zB 103) (zML 103) (zRet 103)) := rfl
set_option maxRecDepth 20000 in
theorem zMc104 : lw_tbl[637]? = some (Cond.code (zy 104) (zB 104) (zML 104) (zRet 104)) := rfl
set_option maxRecDepth 20000 in
theorem zMc105 : lw_tbl[642]? = some (Cond.code (zy 105) (zB 105) (zML 105) (zRet 105)) := rfl
set_option maxRecDepth 20000 in
theorem zMc106 : lw_tbl[646]? = some (Cond.code (zy 106) (zB 106) (zML 106) (zRet 106)) := rfl
set_option maxRecDepth 20000 in
theorem zMc107 : lw_tbl[650]? = some (Cond.code (zy 107) (zB 107) (zML 107) (zRet 107)) := rfl
set_option maxRecDepth 20000 in
theorem zMc108 : lw_tbl[658]? = some (Cond.code (zy 108) (zB 108) (zML 108) (zRet 108)) := rfl
set_option maxRecDepth 20000 in
theorem zMc109 : lw_tbl[703]? = some (Cond.code (zy 109) (zB 109) (zML 109) (zRet 109)) := rfl
set_option maxRecDepth 20000 in
theorem zMc110 : lw_tbl[699]? = some (Cond.code (zy 110) (zB 110) (zML 110) (zRet 110)) := rfl
set_option maxRecDepth 20000 in
theorem zMc111 : lw_tbl[654]? = some (Cond.code (zy 111) (zB 111) (zML 111) (zRet 111)) := rfl
set_option maxRecDepth 20000 in
theorem zMc112 : lw_tbl[674]? = some (Cond.code (zy 112) (zB 112) (zML 112) (zRet 112)) := rfl
set_option maxRecDepth 20000 in
theorem zMc113 : lw_tbl[670]? = some (Cond.code (zy 113) (zB 113) (zML 113) (zRet 113)) := rfl
set_option maxRecDepth 20000 in
theorem zMc114 : lw_tbl[666]? = some (Cond.code (zy 114) (zB 114) (zML 114) (zRet 114)) := rfl
set_option maxRecDepth 20000 in
theorem zMc115 : lw_tbl[662]? = some (Cond.code (zy 115) (zB 115) (zML 115) (zRet 115)) := rfl
set_option maxRecDepth 20000 in
theorem zMc116 : lw_tbl[679]? = some (Cond.code (zy 116) (zB 116) (zML 116) (zRet 116)) := rfl
set_option maxRecDepth 20000 in
theorem zMc117 : lw_tbl[683]? = some (Cond.code (zy 117) (zB 117) (zML 117) (zRet 117)) := rfl
set_option maxRecDepth 20000 in
theorem zMc118 : lw_tbl[691]? = some (Cond.code (zy 118) (zB 118) (zML 118) (zRet 118)) := rfl
set_option maxRecDepth 20000 in
theorem zMc119 : lw_tbl[687]? = some (Cond.code (zy 119) (zB 119) (zML 119) (zRet 119)) := rfl
set_option maxRecDepth 20000 in
theorem zMc120 : lw_tbl[695]? = some (Cond.code (zy 120) (zB 120) (zML 120) (zRet 120)) := rfl
set_option maxRecDepth 20000 in
theorem zMc121 : lw_tbl[235]? = some (Cond.code (zy 121) (zB 121) (zML 121) (zRet 121)) := rfl
set_option maxRecDepth 20000 in
theorem zMc122 : lw_tbl[362]? = some (Cond.code (zy 122) (zB 122) (zML 122) (zRet 122)) := rfl
set_option maxRecDepth 20000 in
theorem zMc123 : lw_tbl[100]? = some (Cond.code (zy 123) (zB 123) (zML 123) (zRet 123)) := rfl
set_option maxRecDepth 20000 in
theorem zMc124 : lw_tbl[355]? = some (Cond.code (zy 124) (zB 124) (zML 124) (zRet 124)) := rfl
theorem zMk0 : ∀ k, k < 25 → Cond.code (zy (0 + k)) (zB (0 + k)) (zML (0 + k)) (zRet (0 + k)) ∈ lw_tbl := by
  intro k h
  match k, h with
  | 0, _ => exact List.mem_of_getElem? zMc0
  | 1, _ => exact List.mem_of_getElem? zMc1
  | 2, _ => exact List.mem_of_getElem? zMc2
  | 3, _ => exact List.mem_of_getElem? zMc3
  | 4, _ => exact List.mem_of_getElem? zMc4
  | 5, _ => exact List.mem_of_getElem? zMc5
  | 6, _ => exact List.mem_of_getElem? zMc6
  | 7, _ => exact List.mem_of_getElem? zMc7
  | 8, _ => exact List.mem_of_getElem? zMc8
  | 9, _ => exact List.mem_of_getElem? zMc9
  | 10, _ => exact List.mem_of_getElem? zMc10
  | 11, _ => exact List.mem_of_getElem? zMc11
  | 12, _ => exact List.mem_of_getElem? zMc12
  | 13, _ => exact List.mem_of_getElem? zMc13
  | 14, _ => exact List.mem_of_getElem? zMc14
  | 15, _ => exact List.mem_of_getElem? zMc15
  | 16, _ => exact List.mem_of_getElem? zMc16
  | 17, _ => exact List.mem_of_getElem? zMc17
  | 18, _ => exact List.mem_of_getElem? zMc18
  | 19, _ => exact List.mem_of_getElem? zMc19
  | 20, _ => exact List.mem_of_getElem? zMc20
  | 21, _ => exact List.mem_of_getElem? zMc21
  | 22, _ => exact List.mem_of_getElem? zMc22
  | 23, _ => exact List.mem_of_getElem? zMc23
  | 24, _ => exact List.mem_of_getElem? zMc24
  | k + 25, h => exact absurd h (by omega)
theorem zMk1 : ∀ k, k < 25 → Cond.code (zy (25 + k)) (zB (25 + k)) (zML (25 + k)) (zRet (25 + k)) ∈ lw_tbl := by
  intro k h
  match k, h with
  | 0, _ => exact List.mem_of_getElem? zMc25
  | 1, _ => exact List.mem_of_getElem? zMc26
  | 2, _ => exact List.mem_of_getElem? zMc27
  | 3, _ => exact List.mem_of_getElem? zMc28
  | 4, _ => exact List.mem_of_getElem? zMc29
  | 5, _ => exact List.mem_of_getElem? zMc30
  | 6, _ => exact List.mem_of_getElem? zMc31
  | 7, _ => exact List.mem_of_getElem? zMc32
  | 8, _ => exact List.mem_of_getElem? zMc33
  | 9, _ => exact List.mem_of_getElem? zMc34
  | 10, _ => exact List.mem_of_getElem? zMc35
  | 11, _ => exact List.mem_of_getElem? zMc36
  | 12, _ => exact List.mem_of_getElem? zMc37
  | 13, _ => exact List.mem_of_getElem? zMc38
  | 14, _ => exact List.mem_of_getElem? zMc39
  | 15, _ => exact List.mem_of_getElem? zMc40
  | 16, _ => exact List.mem_of_getElem? zMc41
  | 17, _ => exact List.mem_of_getElem? zMc42
  | 18, _ => exact List.mem_of_getElem? zMc43
  | 19, _ => exact List.mem_of_getElem? zMc44
  | 20, _ => exact List.mem_of_getElem? zMc45
  | 21, _ => exact List.mem_of_getElem? zMc46
  | 22, _ => exact List.mem_of_getElem? zMc47
  | 23, _ => exact List.mem_of_getElem? zMc48
  | 24, _ => exact List.mem_of_getElem? zMc49
  | k + 25, h => exact absurd h (by omega)
theorem zMk2 : ∀ k, k < 25 → Cond.code (zy (50 + k)) (zB (50 + k)) (zML (50 + k)) (zRet (50 + k)) ∈ lw_tbl := by
  intro k h
  match k, h with
  | 0, _ => exact List.mem_of_getElem? zMc50
  | 1, _ => exact List.mem_of_getElem? zMc51
  | 2, _ => exact List.mem_of_getElem? zMc52
  | 3, _ => exact List.mem_of_getElem? zMc53
  | 4, _ => exact List.mem_of_getElem? zMc54
  | 5, _ => exact List.mem_of_getElem? zMc55
  | 6, _ => exact List.mem_of_getElem? zMc56
  | 7, _ => exact List.mem_of_getElem? zMc57
  | 8, _ => exact List.mem_of_getElem? zMc58
  | 9, _ => exact List.mem_of_getElem? zMc59
  | 10, _ => exact List.mem_of_getElem? zMc60
  | 11, _ => exact List.mem_of_getElem? zMc61
  | 12, _ => exact List.mem_of_getElem? zMc62
  | 13, _ => exact List.mem_of_getElem? zMc63
  | 14, _ => exact List.mem_of_getElem? zMc64
  | 15, _ => exact List.mem_of_getElem? zMc65
  | 16, _ => exact List.mem_of_getElem? zMc66
  | 17, _ => exact List.mem_of_getElem? zMc67
  | 18, _ => exact List.mem_of_getElem? zMc68
  | 19, _ => exact List.mem_of_getElem? zMc69
  | 20, _ => exact List.mem_of_getElem? zMc70
  | 21, _ => exact List.mem_of_getElem? zMc71
  | 22, _ => exact List.mem_of_getElem? zMc72
  | 23, _ => exact List.mem_of_getElem? zMc73
  | 24, _ => exact List.mem_of_getElem? zMc74
  | k + 25, h => exact absurd h (by omega)
theorem zMk3 : ∀ k, k < 25 → Cond.code (zy (75 + k)) (zB (75 + k)) (zML (75 + k)) (zRet (75 + k)) ∈ lw_tbl := by
  intro k h
  match k, h with
  | 0, _ => exact List.mem_of_getElem? zMc75
  | 1, _ => exact List.mem_of_getElem? zMc76
  | 2, _ => exact List.mem_of_getElem? zMc77
  | 3, _ => exact List.mem_of_getElem? zMc78
  | 4, _ => exact List.mem_of_getElem? zMc79
  | 5, _ => exact List.mem_of_getElem? zMc80
  | 6, _ => exact List.mem_of_getElem? zMc81
  | 7, _ => exact List.mem_of_getElem? zMc82
  | 8, _ => exact List.mem_of_getElem? zMc83
  | 9, _ => exact List.mem_of_getElem? zMc84
  | 10, _ => exact List.mem_of_getElem? zMc85
  | 11, _ => exact List.mem_of_getElem? zMc86
  | 12, _ => exact List.mem_of_getElem? zMc87
  | 13, _ => exact List.mem_of_getElem? zMc88
  | 14, _ => exact List.mem_of_getElem? zMc89
  | 15, _ => exact List.mem_of_getElem? zMc90
  | 16, _ => exact List.mem_of_getElem? zMc91
  | 17, _ => exact List.mem_of_getElem? zMc92
  | 18, _ => exact List.mem_of_getElem? zMc93
  | 19, _ => exact List.mem_of_getElem? zMc94
  | 20, _ => exact List.mem_of_getElem? zMc95
  | 21, _ => exact List.mem_of_getElem? zMc96
  | 22, _ => exact List.mem_of_getElem? zMc97
  | 23, _ => exact List.mem_of_getElem? zMc98
  | 24, _ => exact List.mem_of_getElem? zMc99
  | k + 25, h => exact absurd h (by omega)
theorem zMk4 : ∀ k, k < 25 → Cond.code (zy (100 + k)) (zB (100 + k)) (zML (100 + k)) (zRet (100 + k)) ∈ lw_tbl := by
  intro k h
  match k, h with
  | 0, _ => exact List.mem_of_getElem? zMc100
  | 1, _ => exact List.mem_of_getElem? zMc101
  | 2, _ => exact List.mem_of_getElem? zMc102
  | 3, _ => exact List.mem_of_getElem? zMc103
  | 4, _ => exact List.mem_of_getElem? zMc104
  | 5, _ => exact List.mem_of_getElem? zMc105
  | 6, _ => exact List.mem_of_getElem? zMc106
  | 7, _ => exact List.mem_of_getElem? zMc107
  | 8, _ => exact List.mem_of_getElem? zMc108
  | 9, _ => exact List.mem_of_getElem? zMc109
  | 10, _ => exact List.mem_of_getElem? zMc110
  | 11, _ => exact List.mem_of_getElem? zMc111
  | 12, _ => exact List.mem_of_getElem? zMc112
  | 13, _ => exact List.mem_of_getElem? zMc113
  | 14, _ => exact List.mem_of_getElem? zMc114
  | 15, _ => exact List.mem_of_getElem? zMc115
  | 16, _ => exact List.mem_of_getElem? zMc116
  | 17, _ => exact List.mem_of_getElem? zMc117
  | 18, _ => exact List.mem_of_getElem? zMc118
  | 19, _ => exact List.mem_of_getElem? zMc119
  | 20, _ => exact List.mem_of_getElem? zMc120
  | 21, _ => exact List.mem_of_getElem? zMc121
  | 22, _ => exact List.mem_of_getElem? zMc122
  | 23, _ => exact List.mem_of_getElem? zMc123
  | 24, _ => exact List.mem_of_getElem? zMc124
  | k + 25, h => exact absurd h (by omega)
theorem zMcode (j : Nat) (h : j < 125) : Cond.code (zy j) (zB j) (zML j) (zRet j) ∈ zT := by
  refine zT_in ?_ rfl
  by_cases h0 : j < 25
  · have e := zMk0 (j - 0) (by omega)
    rw [show 0 + (j - 0) = j by omega] at e
    exact e
  by_cases h1 : j < 50
  · have e := zMk1 (j - 25) (by omega)
    rw [show 25 + (j - 25) = j by omega] at e
    exact e
  by_cases h2 : j < 75
  · have e := zMk2 (j - 50) (by omega)
    rw [show 50 + (j - 50) = j by omega] at e
    exact e
  by_cases h3 : j < 100
  · have e := zMk3 (j - 75) (by omega)
    rw [show 75 + (j - 75) = j by omega] at e
    exact e
  by_cases h4 : j < 125
  · have e := zMk4 (j - 100) (by omega)
    rw [show 100 + (j - 100) = j by omega] at e
    exact e
  omega
def zMtab : List (Nat × Nat) := [(0, 47), (1, 47), (2, 47), (3, 47), (4, 47), (5, 47), (6, 48), (7, 48), (8, 48), (9, 48), (10, 48), (11, 48), (12, 48), (13, 48), (14, 48), (15, 48), (16, 48), (17, 45), (18, 45), (19, 45), (20, 49), (21, 49), (22, 49), (23, 49), (24, 49), (25, 49), (26, 49), (27, 49), (28, 49), (29, 49), (30, 44), (31, 44), (32, 44), (33, 44), (34, 43), (35, 43), (36, 43), (37, 43), (38, 43), (39, 43), (40, 43), (41, 43), (42, 43), (43, 43), (44, 43), (45, 43), (46, 43), (47, 43), (48, 43), (49, 43), (50, 43), (51, 43), (52, 43), (53, 43), (54, 43), (55, 43), (56, 43), (57, 43), (58, 43), (59, 43), (60, 43), (61, 43), (62, 43), (63, 43), (64, 43), (65, 43), (66, 43), (67, 43), (68, 43), (69, 43), (70, 43), (71, 43), (72, 43), (73, 43), (74, 43), (75, 50), (76, 50), (77, 50), (78, 50), (79, 50), (80, 50), (81, 50), (82, 50), (83, 50), (84, 50), (85, 50), (86, 50), (87, 50), (88, 50), (89, 50), (90, 50), (91, 50), (92, 50), (93, 50), (94, 50), (95, 50), (96, 50), (97, 50), (98, 50), (99, 50), (100, 50), (101, 50), (102, 50), (103, 50), (104, 50), (105, 50), (106, 50), (107, 50), (108, 50), (109, 50), (110, 50), (111, 50), (112, 50), (113, 50), (114, 50), (115, 50), (116, 50), (117, 50), (118, 50), (119, 50), (120, 50), (121, 46), (122, 46), (123, 46), (124, 46)]
def zMtabOk (q : Nat × Nat) : Bool := zMok q.1 && (decide (lw_tbl[q.2]? = some (Cond.initialized (zy q.1).cls)) && goodWord (Cond.initialized (zy q.1).cls))
set_option maxRecDepth 20000 in
theorem zMtab_ok : zMtab.all zMtabOk = true := by decide +kernel
/-- a call: class, entry, kind (0 virtual, 1 static, 2 constructor, 3 to 5 the same of a nest mate, 6 Object()), method, places of the words -/
def zCtab : List ((Nat × Nat) × (Nat × Nat) × (Nat × Nat × Nat)) := [((0, 3), (6, 0), (111, 0, 0)), ((0, 11), (2, 17), (113, 95, 0)), ((0, 20), (0, 19), (114, 115, 116)), ((0, 24), (0, 18), (375, 237, 238)), ((0, 28), (0, 5), (392, 393, 394)), ((0, 31), (0, 1), (396, 372, 373)), ((1, 3), (6, 0), (126, 0, 0)), ((1, 11), (2, 17), (128, 95, 0)), ((1, 27), (0, 19), (216, 115, 116)), ((1, 31), (1, 121), (233, 234, 0)), ((1, 37), (0, 18), (236, 237, 238)), ((1, 41), (0, 12), (256, 258, 1)), ((1, 45), (0, 10), (260, 230, 231)), ((1, 48), (0, 14), (269, 271, 2)), ((1, 52), (0, 15), (273, 274, 275)), ((1, 55), (0, 8), (281, 213, 214)), ((2, 1), (6, 0), (97, 0, 0)), ((2, 7), (1, 123), (98, 99, 0)), ((3, 3), (6, 0), (145, 0, 0)), ((3, 11), (5, 30), (147, 64, 0)), ((3, 20), (2, 17), (149, 95, 0)), ((3, 51), (0, 24), (405, 407, 9)), ((3, 54), (0, 22), (411, 413, 10)), ((3, 58), (0, 11), (415, 253, 254)), ((3, 63), (0, 25), (416, 418, 11)), ((3, 67), (0, 23), (428, 430, 13)), ((3, 71), (0, 28), (432, 434, 14)), ((3, 75), (0, 29), (441, 443, 16)), ((3, 78), (0, 31), (445, 299, 300)), ((3, 82), (0, 5), (409, 393, 394)), ((3, 88), (0, 19), (410, 115, 116)), ((3, 92), (0, 18), (420, 237, 238)), ((3, 95), (0, 26), (421, 423, 12)), ((3, 100), (0, 1), (426, 372, 373)), ((3, 104), (0, 10), (427, 230, 231)), ((3, 107), (0, 27), (436, 438, 15)), ((3, 110), (4, 74), (440, 210, 0)), ((4, 3), (6, 0), (66, 0, 0)), ((5, 3), (6, 0), (56, 0, 0)), ((5, 17), (5, 30), (63, 64, 0)), ((5, 27), (2, 17), (94, 95, 0)), ((5, 36), (2, 0), (108, 109, 0)), ((5, 44), (5, 6), (123, 124, 0)), ((5, 47), (2, 20), (142, 143, 0)), ((5, 54), (0, 42), (205, 207, 0)), ((5, 58), (1, 74), (209, 210, 0)), ((5, 62), (0, 8), (212, 213, 214)), ((5, 65), (0, 32), (217, 218, 219)), ((5, 68), (0, 7), (225, 226, 227)), ((5, 72), (0, 10), (229, 230, 231)), ((5, 76), (0, 9), (240, 241, 242)), ((5, 84), (0, 11), (252, 253, 254)), ((5, 88), (0, 13), (265, 266, 267)), ((5, 91), (0, 16), (277, 278, 279)), ((5, 95), (1, 41), (286, 287, 0)), ((5, 99), (0, 15), (289, 274, 275)), ((5, 103), (0, 46), (294, 296, 3)), ((5, 107), (0, 31), (298, 299, 300)), ((5, 110), (0, 33), (306, 307, 308)), ((5, 113), (1, 73), (314, 315, 0)), ((5, 116), (0, 18), (317, 237, 238)), ((5, 119), (0, 19), (318, 115, 116)), ((5, 123), (0, 55), (324, 326, 4)), ((5, 129), (1, 123), (340, 99, 0)), ((5, 134), (0, 54), (345, 347, 7)), ((5, 137), (1, 124), (353, 354, 0)), ((5, 140), (1, 122), (360, 361, 0)), ((5, 143), (0, 56), (332, 334, 6)), ((5, 147), (0, 47), (328, 330, 5)), ((5, 165), (0, 1), (371, 372, 373)), ((5, 168), (0, 2), (376, 377, 378)), ((5, 172), (0, 65), (384, 386, 8)), ((5, 175), (0, 3), (388, 389, 390)), ((5, 178), (0, 21), (401, 402, 403)), ((5, 184), (0, 66), (458, 460, 17)), ((5, 187), (0, 67), (462, 464, 18)), ((5, 190), (0, 69), (470, 472, 20)), ((5, 193), (0, 70), (474, 476, 21)), ((5, 196), (1, 71), (478, 479, 0)), ((5, 199), (0, 4), (489, 490, 491)), ((5, 202), (0, 64), (493, 495, 22)), ((5, 205), (0, 68), (466, 468, 19)), ((5, 209), (1, 72), (481, 482, 0)), ((5, 212), (1, 121), (484, 234, 0)), ((6, 1), (6, 0), (502, 0, 0)), ((6, 31), (1, 76), (532, 533, 0)), ((6, 35), (1, 77), (529, 530, 0)), ((6, 39), (0, 78), (535, 537, 23)), ((6, 43), (1, 82), (559, 560, 0)), ((6, 47), (0, 83), (555, 557, 25)), ((6, 50), (0, 84), (551, 553, 24)), ((6, 54), (0, 86), (574, 576, 28)), ((6, 58), (0, 87), (570, 572, 27)), ((6, 62), (0, 88), (566, 568, 26)), ((6, 65), (0, 91), (586, 588, 29)), ((6, 69), (1, 92), (590, 591, 0)), ((6, 73), (0, 97), (617, 619, 33)), ((6, 77), (0, 96), (609, 611, 31)), ((6, 80), (0, 98), (613, 615, 32)), ((6, 83), (0, 99), (605, 607, 30)), ((6, 87), (0, 102), (630, 632, 34)), ((6, 91), (0, 109), (700, 702, 41)), ((6, 94), (0, 108), (655, 657, 35)), ((6, 99), (0, 112), (671, 673, 38)), ((6, 102), (0, 113), (667, 669, 37)), ((6, 106), (0, 114), (663, 665, 36)), ((6, 109), (0, 118), (688, 690, 39)), ((6, 113), (0, 110), (696, 698, 40)), ((8, 9), (2, 34), (53, 54, 0)), ((8, 12), (2, 75), (499, 500, 0)), ((8, 13), (0, 35), (201, 202, 203)), ((8, 17), (0, 79), (525, 526, 527)), ((8, 18), (0, 36), (221, 222, 223)), ((8, 22), (0, 80), (539, 540, 541)), ((8, 23), (0, 37), (244, 245, 246)), ((8, 26), (0, 81), (543, 544, 545)), ((8, 27), (0, 38), (248, 249, 250)), ((8, 30), (0, 85), (547, 548, 549)), ((8, 31), (0, 39), (261, 262, 263)), ((8, 34), (0, 89), (562, 563, 564)), ((8, 35), (0, 40), (282, 283, 284)), ((8, 38), (0, 90), (578, 579, 580)), ((8, 39), (0, 43), (290, 291, 292)), ((8, 43), (0, 93), (582, 583, 584)), ((8, 44), (0, 44), (302, 303, 304)), ((8, 48), (0, 94), (593, 594, 595)), ((8, 49), (0, 45), (310, 311, 312)), ((8, 52), (0, 95), (597, 598, 599)), ((8, 53), (0, 48), (319, 320, 321)), ((8, 56), (0, 100), (601, 602, 603)), ((8, 57), (0, 49), (336, 337, 338)), ((8, 61), (0, 101), (622, 623, 624)), ((8, 62), (0, 50), (341, 342, 343)), ((8, 65), (0, 103), (626, 627, 628)), ((8, 66), (0, 51), (349, 350, 351)), ((8, 69), (0, 104), (634, 635, 636)), ((8, 70), (0, 52), (356, 357, 358)), ((8, 74), (0, 105), (639, 640, 641)), ((8, 75), (0, 53), (363, 364, 365)), ((8, 79), (0, 106), (643, 644, 645)), ((8, 80), (0, 57), (367, 368, 369)), ((8, 83), (0, 107), (647, 648, 649)), ((8, 84), (0, 58), (380, 381, 382)), ((8, 87), (0, 111), (651, 652, 653)), ((8, 88), (0, 59), (397, 398, 399)), ((8, 91), (0, 115), (659, 660, 661)), ((8, 92), (0, 60), (446, 447, 448)), ((8, 95), (0, 116), (676, 677, 678)), ((8, 96), (0, 61), (450, 451, 452)), ((8, 99), (0, 117), (680, 681, 682)), ((8, 100), (0, 62), (454, 455, 456)), ((8, 103), (0, 119), (684, 685, 686)), ((8, 104), (0, 63), (485, 486, 487)), ((8, 107), (0, 120), (692, 693, 694))]
def zCtabOk (q : (Nat × Nat) × (Nat × Nat) × (Nat × Nat × Nat)) : Bool := match q with
  | ((c, ix), (k, t), (p0, p1, p2)) => match k with
    | 0 => (decide (lw_tbl[p0]? = some (Cond.methodLink (zRn c) ix (zy t))) && goodWord (Cond.methodLink (zRn c) ix (zy t))) && ((decide (lw_tbl[p1]? = some (Cond.instanceMethod (zy t))) && goodWord (Cond.instanceMethod (zy t))) && (decide (lw_tbl[p2]? = some (Cond.selects (zy t).cls (zy t) (zy t))) && goodWord (Cond.selects (zy t).cls (zy t) (zy t))))
    | 1 => (decide (lw_tbl[p0]? = some (Cond.methodLink (zRn c) ix (zy t))) && goodWord (Cond.methodLink (zRn c) ix (zy t))) && (decide (lw_tbl[p1]? = some (Cond.static (zy t))) && goodWord (Cond.static (zy t)))
    | 2 => (decide (lw_tbl[p0]? = some (Cond.methodLink (zRn c) ix (zy t))) && goodWord (Cond.methodLink (zRn c) ix (zy t))) && ((decide (lw_tbl[p1]? = some (Cond.instanceMethod (zy t))) && goodWord (Cond.instanceMethod (zy t))) && (decide ((zy t).name = "<init>") && decide (zRet t = none)))
    | 3 => decide (lw_tbl[p0]? = some (Cond.methodLinkNest (zRn c) ix (zy t) RX5)) && ((decide (lw_tbl[p1]? = some (Cond.instanceMethod (zy t))) && goodWord (Cond.instanceMethod (zy t))) && (decide (lw_tbl[p2]? = some (Cond.selects (zy t).cls (zy t) (zy t))) && goodWord (Cond.selects (zy t).cls (zy t) (zy t))))
    | 4 => decide (lw_tbl[p0]? = some (Cond.methodLinkNest (zRn c) ix (zy t) RX5)) && (decide (lw_tbl[p1]? = some (Cond.static (zy t))) && goodWord (Cond.static (zy t)))
    | 5 => decide (lw_tbl[p0]? = some (Cond.methodLinkNest (zRn c) ix (zy t) RX5)) && ((decide (lw_tbl[p1]? = some (Cond.instanceMethod (zy t))) && goodWord (Cond.instanceMethod (zy t))) && (decide ((zy t).name = "<init>") && decide (zRet t = none)))
    | _ => decide (lw_tbl[p0]? = some (Cond.methodLink (zRn c) ix Lib.objectInit)) && goodWord (Cond.methodLink (zRn c) ix Lib.objectInit)
set_option maxRecDepth 20000 in
theorem zCtab_ok : zCtab.all zCtabOk = true := by decide +kernel
/-- a field: class, entry, class of the object, place, of a nest mate, place of the word -/
def zFtab : List ((Nat × Nat) × (Nat × Nat × Bool) × Nat) := [((0, 14), (0, 0, false), 118), ((1, 14), (1, 0, false), 129), ((1, 20), (1, 1, false), 130), ((1, 23), (1, 2, false), 131), ((2, 13), (2, 0, false), 101), ((3, 12), (3, 2, false), 152), ((3, 23), (3, 3, false), 154), ((3, 27), (3, 4, false), 155), ((3, 30), (3, 5, false), 156), ((3, 34), (3, 6, false), 157), ((3, 37), (3, 7, false), 158), ((3, 40), (3, 8, false), 159), ((3, 43), (3, 0, false), 150), ((3, 47), (3, 1, false), 151), ((4, 9), (4, 0, false), 67), ((4, 15), (4, 1, false), 69), ((4, 18), (4, 2, false), 71), ((4, 21), (4, 3, false), 73), ((4, 24), (4, 4, false), 75), ((4, 27), (4, 5, false), 77), ((5, 11), (5, 0, false), 179), ((5, 18), (5, 1, false), 180), ((5, 22), (5, 2, false), 181), ((5, 30), (5, 3, false), 182), ((5, 37), (5, 4, false), 183), ((5, 41), (5, 6, false), 185), ((5, 50), (5, 5, false), 184), ((5, 80), (1, 2, true), 132), ((5, 126), (4, 0, true), 68), ((5, 150), (4, 4, true), 76), ((5, 153), (4, 5, true), 78), ((5, 156), (4, 2, true), 72), ((5, 159), (4, 3, true), 74), ((5, 162), (4, 1, true), 70), ((5, 181), (3, 2, true), 153), ((6, 7), (6, 0, false), 503), ((6, 13), (6, 1, false), 504), ((6, 16), (6, 2, false), 505), ((6, 19), (6, 3, false), 506), ((6, 22), (6, 4, false), 507), ((6, 25), (6, 5, false), 508), ((6, 28), (6, 6, false), 509)]
def zCl (ci : Nat) : vw_C := vwCl.getD ci ("", fun _ => ("", "", "", false), 0)
def zFtabOk (q : (Nat × Nat) × (Nat × Nat × Bool) × Nat) : Bool := match q with
  | ((c, ix), (ci, k, nest), p) => decide (ci < 7) && decide (k < (zCl ci).2.2) && (match nest with
    | false => decide (lw_tbl[p]? = some (Cond.fieldLink (zRn c) ix (zCl ci).1 ((zCl ci).2.1 k).2.1 ((zCl ci).2.1 k).2.2.1)) && goodWord (Cond.fieldLink (zRn c) ix (zCl ci).1 ((zCl ci).2.1 k).2.1 ((zCl ci).2.1 k).2.2.1)
    | true => decide (lw_tbl[p]? = some (Cond.fieldLinkNest (zRn c) ix (zCl ci).1 ((zCl ci).2.1 k).2.1 ((zCl ci).2.1 k).2.2.1 RX5)))
set_option maxRecDepth 20000 in
theorem zFtab_ok : zFtab.all zFtabOk = true := by decide +kernel
def zNtab : List ((Nat × Nat) × Nat × (Nat × Nat × Nat)) := [((0, 9), 2, (112, 93, 45)), ((1, 9), 2, (127, 93, 45)), ((3, 9), 4, (146, 62, 44)), ((3, 18), 2, (148, 93, 45)), ((5, 9), 1, (59, 122, 48)), ((5, 15), 4, (61, 62, 44)), ((5, 25), 2, (92, 93, 45)), ((5, 34), 0, (106, 107, 47)), ((5, 45), 3, (140, 141, 49)), ((8, 7), 5, (51, 52, 43)), ((8, 10), 6, (497, 498, 50))]
def zAtab : List ((Nat × Nat) × Nat) := [((5, 9), 59)]
def zNtabOk (q : (Nat × Nat) × Nat × (Nat × Nat × Nat)) : Bool := match q with
  | ((c, ix), ci, (p0, p1, p2)) => decide (ci < 7) && (decide (lw_tbl[p0]? = some (Cond.classLink (zRn c) ix (zCl ci).1)) && goodWord (Cond.classLink (zRn c) ix (zCl ci).1)) && ((decide (lw_tbl[p1]? = some (Cond.instantiable (zCl ci).1 (zCl ci).2.2)) && goodWord (Cond.instantiable (zCl ci).1 (zCl ci).2.2)) && (decide (lw_tbl[p2]? = some (Cond.initialized (zCl ci).1)) && goodWord (Cond.initialized (zCl ci).1)))
theorem zNtab_ok : zNtab.all zNtabOk = true := by decide +kernel
def zAtabOk (q : (Nat × Nat) × Nat) : Bool := decide (lw_tbl[q.2]? = some (Cond.classLink (zRn q.1.1) q.1.2 RX1)) && goodWord (Cond.classLink (zRn q.1.1) q.1.2 RX1)
theorem zAtab_ok : zAtab.all zAtabOk = true := by decide +kernel
def zKtab : List ((Nat × Nat) × Int32 × Nat) := [((3, 99), (-100000), 425), ((5, 122), (-100000), 323), ((6, 86), (-100000), 621), ((6, 90), (99999), 638), ((6, 98), (99998), 675)]
def zKtabOk (q : (Nat × Nat) × Int32 × Nat) : Bool := decide (lw_tbl[q.2.2]? = some (Cond.constant (zRn q.1.1) q.1.2 q.2.1)) && goodWord (Cond.constant (zRn q.1.1) q.1.2 q.2.1)
theorem zKtab_ok : zKtab.all zKtabOk = true := by decide +kernel
/-- the words on nest mates, which a contract carries with it -/
def zNwords : List Cond := lw_tbl.filter (fun w => !goodWord w)
theorem zT_arr : Cond.arrayClass .int ∈ zT := zT_of (i := 105) (by decide +kernel)
theorem zT_over : Cond.arrayOver (.object RX1) ∈ lw_tbl := List.mem_of_getElem? (i := 60) (by decide +kernel)
theorem zT_obj : Cond.instanceMethod Lib.objectInit ∈ zT ∧ Cond.code Lib.objectInit ⟨#[0xb1]⟩ 1 none ∈ zT := ⟨zT_of (i := 57) (by decide +kernel), zT_of (i := 58) (by decide +kernel)⟩
theorem zW0 : ∀ w ∈ u_ws (zCl 0).1 (zCl 0).2.1 (zCl 0).2.2, w ∈ zT := by
  have h : (u_ws (zCl 0).1 (zCl 0).2.1 (zCl 0).2.2).all (fun w => decide (w ∈ zT)) = true := by decide +kernel
  intro w hw
  exact of_decide_eq_true (List.all_eq_true.mp h w hw)
theorem zW1 : ∀ w ∈ u_ws (zCl 1).1 (zCl 1).2.1 (zCl 1).2.2, w ∈ zT := by
  have h : (u_ws (zCl 1).1 (zCl 1).2.1 (zCl 1).2.2).all (fun w => decide (w ∈ zT)) = true := by decide +kernel
  intro w hw
  exact of_decide_eq_true (List.all_eq_true.mp h w hw)
theorem zW2 : ∀ w ∈ u_ws (zCl 2).1 (zCl 2).2.1 (zCl 2).2.2, w ∈ zT := by
  have h : (u_ws (zCl 2).1 (zCl 2).2.1 (zCl 2).2.2).all (fun w => decide (w ∈ zT)) = true := by decide +kernel
  intro w hw
  exact of_decide_eq_true (List.all_eq_true.mp h w hw)
theorem zW3 : ∀ w ∈ u_ws (zCl 3).1 (zCl 3).2.1 (zCl 3).2.2, w ∈ zT := by
  have h : (u_ws (zCl 3).1 (zCl 3).2.1 (zCl 3).2.2).all (fun w => decide (w ∈ zT)) = true := by decide +kernel
  intro w hw
  exact of_decide_eq_true (List.all_eq_true.mp h w hw)
theorem zW4 : ∀ w ∈ u_ws (zCl 4).1 (zCl 4).2.1 (zCl 4).2.2, w ∈ zT := by
  have h : (u_ws (zCl 4).1 (zCl 4).2.1 (zCl 4).2.2).all (fun w => decide (w ∈ zT)) = true := by decide +kernel
  intro w hw
  exact of_decide_eq_true (List.all_eq_true.mp h w hw)
theorem zW5 : ∀ w ∈ u_ws (zCl 5).1 (zCl 5).2.1 (zCl 5).2.2, w ∈ zT := by
  have h : (u_ws (zCl 5).1 (zCl 5).2.1 (zCl 5).2.2).all (fun w => decide (w ∈ zT)) = true := by decide +kernel
  intro w hw
  exact of_decide_eq_true (List.all_eq_true.mp h w hw)
theorem zW6 : ∀ w ∈ u_ws (zCl 6).1 (zCl 6).2.1 (zCl 6).2.2, w ∈ zT := by
  have h : (u_ws (zCl 6).1 (zCl 6).2.1 (zCl 6).2.2).all (fun w => decide (w ∈ zT)) = true := by decide +kernel
  intro w hw
  exact of_decide_eq_true (List.all_eq_true.mp h w hw)
theorem zWk : ∀ ci, ci < 7 → ∀ w ∈ u_ws (zCl ci).1 (zCl ci).2.1 (zCl ci).2.2, w ∈ zT := by
  intro ci h
  match ci, h with
  | 0, _ => exact zW0
  | 1, _ => exact zW1
  | 2, _ => exact zW2
  | 3, _ => exact zW3
  | 4, _ => exact zW4
  | 5, _ => exact zW5
  | 6, _ => exact zW6
  | k + 7, h => exact absurd h (by omega)
def zty (ci : Nat) : Nat → FieldType := match ci with
  | 0 => tyX0
  | 1 => tyX1
  | 2 => tyX2
  | 3 => tyX3
  | 4 => tyX4
  | 5 => tyX5
  | _ => tyX6
theorem zTyk : ∀ ci, ci < 7 → (∀ k, k < (zCl ci).2.2 → parseFieldDescriptor ((zCl ci).2.1 k).2.2.1 = some (zty ci k)) ∧ (∀ a, a < (zCl ci).2.2 → ∀ b, b < (zCl ci).2.2 → a ≠ b → ((zCl ci).2.1 a).2.1 ≠ ((zCl ci).2.1 b).2.1) ∧ vwCl[ci]? = some ((zCl ci).1, (zCl ci).2.1, (zCl ci).2.2) := by
  intro ci h
  match ci, h with
  | 0, _ => exact ⟨tyX0_ok, nmX0, rfl⟩
  | 1, _ => exact ⟨tyX1_ok, nmX1, rfl⟩
  | 2, _ => exact ⟨tyX2_ok, nmX2, rfl⟩
  | 3, _ => exact ⟨tyX3_ok, nmX3, rfl⟩
  | 4, _ => exact ⟨tyX4_ok, nmX4, rfl⟩
  | 5, _ => exact ⟨tyX5_ok, nmX5, rfl⟩
  | 6, _ => exact ⟨tyX6_ok, nmX6, rfl⟩
  | k + 7, h => exact absurd h (by omega)
end
section
/-! VALUES, CELLS AND HEAPS BY NUMBER. A reference is a number k: its cell lies at bs + k, where bs is the heap's size as the law begins; 'zsc' is the law's script. 'Zv X j pc ls st sz f kc ks P': whenever the machine stands in method j at pc, with these locals, this stack and this heap, it comes to the method's return with an answer and a heap that P takes. -/
abbrev ZVal : Type := Option (Int32 ⊕ Option Nat)
def zi (x : Int32) : ZVal := some (.inl x)
def zr (k : Nat) : ZVal := some (.inr (some k))
def zu : ZVal := none
def zsc : ZVal := some (.inr none)
def zo (r : Option Nat) : ZVal := match r with
  | none => zu
  | some k => zr k
abbrev ZC : Type := (Nat × (Nat → Int32)) ⊕ ((Nat × (Nat → Option Nat)) ⊕ (Nat × List ZVal))
def zA (n : Nat) (g : Nat → Int32) : ZC := .inl (n, g)
def zQ (n : Nat) (g : Nat → Option Nat) : ZC := .inr (.inl (n, g))
def zO (ci : Nat) (vs : List ZVal) : ZC := .inr (.inr (ci, vs))
abbrev ZH : Type := Nat → Option ZC
def zup (f : ZH) (k : Nat) (c : ZC) : ZH := fun j => if j = k then some c else f j
theorem zup_eq {f : ZH} {k : Nat} {c : ZC} : zup f k c k = some c := if_pos rfl
theorem zup_ne {f : ZH} {k j : Nat} {c : ZC} (h : j ≠ k) : zup f k c j = f j := if_neg h
def zpush (r : Option ZVal) (l : List ZVal) : List ZVal := match r with
  | none => l
  | some v => v :: l
def zvv (bs b : Nat) : ZVal → Value
  | none => .null
  | some (.inl x) => .int x
  | some (.inr (some k)) => .ref (bs + k)
  | some (.inr none) => .ref b
def zcv (cI cQ : ClassId) (bs b : Nat) : ZC → va_E
  | .inl (n, g) => .inl (cI, n, .inl g)
  | .inr (.inl (n, g)) => .inl (cQ, n, .inr (.inr (.inr (.inr (fun i => (g i).map (fun k => bs + k))))))
  | .inr (.inr (ci, vs)) => .inr (ci, vs.map (zvv bs b))
abbrev zTys (cI cQ : ClassId) : List (ClassId × FieldType) := [(cI, .int), (cQ, .object RX1)]
def zHp (D : va_G) (cI cQ : ClassId) (bs b sz : Nat) (f : ZH) (H : Heap) : Prop := H.size = bs + sz ∧ ∀ (k : Nat) (c : ZC), f k = some c → k < sz ∧ va_at D vwCl (bs + k, zcv cI cQ bs b c) H
def zNk : Cond → Bool
  | .fieldLinkNest _ _ _ _ _ _ => true
  | .methodLinkNest _ _ _ _ => true
  | .arrayOver (.object _) => true
  | _ => false
def zNs : List Cond := lw_tbl.filter zNk
theorem zNs_in {w : Cond} {i : Nat} (h : lw_tbl[i]? = some w) (hk : zNk w = true) : w ∈ zNs := List.mem_filter.mpr ⟨List.mem_of_getElem? h, hk⟩
theorem zNk_cases {w : Cond} (h : zNk w = true) : (∃ a i b n d k, w = .fieldLinkNest a i b n d k) ∨ (∃ a i x k, w = .methodLinkNest a i x k) ∨ ∃ C, w = .arrayOver (.object C) := by
  unfold zNk at h
  split at h
  · exact Or.inl ⟨_, _, _, _, _, _, rfl⟩
  · exact Or.inr (Or.inl ⟨_, _, _, _, rfl⟩)
  · exact Or.inr (Or.inr ⟨_, rfl⟩)
  · cases h
theorem zNw_warm {w : Cond} {s U : State} (hk : zNk w = true) (hW : s.WarmedH U.vm) (h : va_Nw w s) : va_Nw w U := by
  rcases zNk_cases hk with ⟨a, i, b, n, d, k, rfl⟩ | ⟨a, i, x, k, rfl⟩ | ⟨C, rfl⟩
  · exact va_Nw.warmF hW h
  · exact va_Nw.warmM hW h
  · exact va_AO.moved hW.alike h
theorem zNw_same {w : Cond} {u U : State} (hk : zNk w = true) (hv : u.vm = U.vm) (h : va_Nw w u) : va_Nw w U := by
  rcases zNk_cases hk with ⟨a, i, b, n, d, k, rfl⟩ | ⟨a, i, x, k, rfl⟩ | ⟨C, rfl⟩
  · exact va_Nw.same rfl hv h
  · exact va_Nw.same rfl hv h
  · exact va_AO.moved (by rw [hv]; exact Vm.Alike.refl _) h
abbrev ZX : Type := Option (Nat × (Nat → Int32))
def zScr (X : ZX) (bs b : Nat) (s : State) : Prop := match X with
  | none => True
  | some (L, xs) => va_X b L xs s s.heap ∧ b < bs
def zCx (X : ZX) (j : Nat) (p : Program) (R : Room) (s : State) (m : MethodId) (args : Array Value) (meth : Method) (c : Code) (D : va_G) (cI cQ : ClassId) (bs b : Nat) : Prop :=
  p.tables.exec = Jvm.exec ∧ c.code = zB j ∧ c.maxLocals = zML j ∧ s.vm.findClass (zRn (zC j)) = some m.cls ∧ (∀ w ∈ zT, w.before args s = true) ∧ (∀ w ∈ zNs, va_Nw w s) ∧ ((zy j).name = "<init>" → meth.name = "<init>") ∧ va_K D vwCl (zTys cI cQ) s ∧ bs ≤ s.heap.size ∧ (zRf j ≤ R.frames ∧ zRl j ≤ R.locals ∧ zMc j ≤ R.cells ∧ zMs j ≤ R.slots) ∧ zScr X bs b s
def zRins (j : Nat) (r : Option ZVal) (pc : Nat) : Prop :=
  (∃ (x : Int32) (ty : FieldType), r = some (zi x) ∧ zRet j = some ty ∧ narrow ty (.int x) = .int x ∧ decode (zB j) pc = .ok (.ireturn, 1)) ∨ (r = none ∧ zRet j = none ∧ decode (zB j) pc = .ok (.return_, 1)) ∨ (∃ (C : String) (o : Option Nat), zRet j = some (.object C) ∧ r = some (zo o) ∧ decode (zB j) pc = .ok (.areturn, 1))
def zprs (g : ZVal → Value) : Nat → List (Option ZVal) → List (Nat × Value)
  | _, [] => []
  | i, none :: l => zprs g (i + 1) l
  | i, some v :: l => (i, g v) :: zprs g (i + 1) l
theorem zprs_mem {g : ZVal → Value} : ∀ {l : List (Option ZVal)} {i : Nat} {q : Nat × Value}, q ∈ zprs g i l ↔ ∃ (k : Nat) (v : ZVal), l[k]? = some (some v) ∧ q = (i + k, g v)
  | [], i, q => by simp [zprs]
  | none :: l, i, q => by
    rw [show zprs g i (none :: l) = zprs g (i + 1) l from rfl, zprs_mem]
    constructor
    · rintro ⟨k, v, h, rfl⟩
      exact ⟨k + 1, v, by simpa using h, by simp; omega⟩
    · rintro ⟨k, v, h, rfl⟩
      cases k with
      | zero => simp at h
      | succ k => exact ⟨k, v, by simpa using h, by simp; omega⟩
  | some w :: l, i, q => by
    rw [show zprs g i (some w :: l) = (i, g w) :: zprs g (i + 1) l from rfl, List.mem_cons, zprs_mem]
    constructor
    · rintro (rfl | ⟨k, v, h, rfl⟩)
      · exact ⟨0, w, rfl, rfl⟩
      · exact ⟨k + 1, v, by simpa using h, by simp; omega⟩
    · rintro ⟨k, v, h, rfl⟩
      cases k with
      | zero =>
        have h1 : some w = some v := Option.some.inj h
        cases h1
        exact Or.inl rfl
      | succ k => exact Or.inr ⟨k, v, by simpa using h, by simp; omega⟩
theorem lv_mono {ls : Array Slot} {n : Nat} {l l' : List (Nat × Value)} (h : lv_has ls n l) (hl : ∀ q ∈ l', q ∈ l) : lv_has ls n l' := ⟨h.1, h.2.1, fun q hq => h.2.2 q (hl q hq)⟩
theorem zload {lsA : Array Slot} {n k : Nat} {g : ZVal → Value} {ls : List (Option ZVal)} {v : ZVal} (h : lv_has lsA n (zprs g 0 ls)) (hk : ls[k]? = some (some v)) : lsA[k]? = some (.val (g v)) :=
  h.2.2 (k, g v) (zprs_mem.mpr ⟨k, v, hk, by simp⟩)
theorem zvv_cat (bs b : Nat) (v : ZVal) : (zvv bs b v).category = 1 := by
  rcases v with _ | x | _ | k <;> rfl
theorem zvv_sum (bs b : Nat) (l : List ZVal) : ((l.map (zvv bs b)).map fun v => v.category).sum = l.length := by
  induction l with
  | nil => rfl
  | cons v l ih => simp only [List.map_cons, List.sum_cons, List.length_cons, ih, zvv_cat]; omega
theorem zstore {lsA' : Array Slot} {n k bs b : Nat} {ls : List (Option ZVal)} {v : ZVal} (h : lv_has lsA' n ((k, zvv bs b v) :: (zprs (zvv bs b) 0 ls).filter (fun q => !(q.1 == k) && !(q.1 + 1 == k && q.2.category == 2)))) : lv_has lsA' n (zprs (zvv bs b) 0 (ls.set k (some v))) := by
  refine lv_mono h fun q hq => ?_
  obtain ⟨i, w, hi, rfl⟩ := zprs_mem.mp hq
  simp only [Nat.zero_add]
  by_cases hik : i = k
  · subst hik
    have hl : i < (ls.set i (some v)).length := (List.getElem?_eq_some_iff.mp hi).1
    rw [List.length_set] at hl
    rw [List.getElem?_set_self hl] at hi
    cases hi
    exact List.mem_cons_self
  · rw [List.getElem?_set_ne (Ne.symm hik)] at hi
    refine List.mem_cons_of_mem _ (List.mem_filter.mpr ⟨zprs_mem.mpr ⟨i, w, hi, by simp⟩, ?_⟩)
    simp [hik, zvv_cat]
theorem zargs {bs b : Nat} : ∀ (as : List ZVal) (i n : Nat), zprs (zvv bs b) i (as.map some ++ List.replicate n none) = lv_args i (as.map (zvv bs b))
  | [], i, n => by
    show zprs (zvv bs b) i (List.replicate n none) = []
    induction n generalizing i with
    | zero => rfl
    | succ n ih => exact ih (i + 1)
  | v :: as, i, n => by
    show (i, zvv bs b v) :: zprs (zvv bs b) (i + 1) (as.map some ++ List.replicate n none) = (i, zvv bs b v) :: lv_args (if (zvv bs b v).category = 2 then i + 2 else i + 1) (as.map (zvv bs b))
    rw [zvv_cat, zargs as (i + 1) n]
    rfl
theorem zsl_len (bs b : Nat) (as : List ZVal) : (lg_sl (as.map (zvv bs b))).length = as.length := by
  induction as with
  | nil => rfl
  | cons v as ih =>
    show (List.flatMap _ (zvv bs b v :: as.map (zvv bs b))).length = _
    rw [List.flatMap_cons, List.length_append]
    have h1 : (if (zvv bs b v).category = 2 then [Slot.val (zvv bs b v), .second] else [Slot.val (zvv bs b v)]).length = 1 := by rw [zvv_cat]; rfl
    rw [h1, List.length_cons]
    have h2 : (List.flatMap (fun v : Value => if v.category = 2 then [Slot.val v, .second] else [Slot.val v]) (as.map (zvv bs b))).length = as.length := ih
    omega
/-- from here the method comes to its return, with an answer and a heap that P takes -/
def Zv (X : ZX) (j pc : Nat) (ls : List (Option ZVal)) (st : List ZVal) (sz : Nat) (f : ZH) (kc ks : Nat) (P : Option ZVal → Nat → ZH → Prop) : Prop :=
  ∀ (p : Program) (l : Launch) (e : Env) (R : Room) (s : State) (m : MethodId) (args : Array Value) (below : List Frame) (meth : Method) (c : Code) (D : va_G) (cI cQ : ClassId) (bs b : Nat) (Q : State → Prop), zCx X j p R s m args meth c D cI cQ bs b →
    (∀ (r : Option ZVal) (sz' : Nat) (f' : ZH), P r sz' f' → ∀ (pc : Nat) (H : Heap) (locs : List Loc) (lsA : Array Slot) (kc ks : Nat), zHp D cI cQ bs b sz' f' H → va_S (fun q => bs ≤ q) s.heap H locs → kc ≤ zMc j → ks ≤ zMs j → zRins j r pc → W p l e R s m args below meth c H locs kc ks Q (F0 m pc lsA (r.toList.map (zvv bs b)))) →
    ∀ (H : Heap) (locs : List Loc) (lsA : Array Slot), zHp D cI cQ bs b sz f H → va_S (fun q => bs ≤ q) s.heap H locs → lv_has lsA (zML j) (zprs (zvv bs b) 0 ls) → ls.length = zML j → kc ≤ zMc j → ks ≤ zMs j → W p l e R s m args below meth c H locs kc ks Q (F0 m pc lsA (st.map (zvv bs b)))
section ZR
variable {X : ZX} {j pc : Nat} {ls : List (Option ZVal)} {st : List ZVal} {sz : Nat} {f : ZH} {kc ks : Nat} {P : Option ZVal → Nat → ZH → Prop}
theorem zr_iret {x : Int32} (hd : decode (zB j) pc = .ok (.ireturn, 1)) (hr : zRet j = some .int) (hP : P (some (zi x)) sz f) : Zv X j pc ls [zi x] sz f kc ks P := by
  intro p l e R s m args below meth c D cI cQ bs b Q hC hret H locs lsA hH hS hl hn hkc hks
  exact hret _ _ _ hP pc H locs lsA kc ks hH hS hkc hks (Or.inl ⟨x, .int, rfl, hr, rfl, hd⟩)
theorem zr_bret {x : Int32} (hd : decode (zB j) pc = .ok (.ireturn, 1)) (hr : zRet j = some .boolean) (hx : x = 0 ∨ x = 1) (hP : P (some (zi x)) sz f) : Zv X j pc ls [zi x] sz f kc ks P := by
  intro p l e R s m args below meth c D cI cQ bs b Q hC hret H locs lsA hH hS hl hn hkc hks
  exact hret _ _ _ hP pc H locs lsA kc ks hH hS hkc hks (Or.inl ⟨x, .boolean, rfl, hr, by rcases hx with rfl | rfl <;> rfl, hd⟩)
theorem zr_vret (hd : decode (zB j) pc = .ok (.return_, 1)) (hr : zRet j = none) (hP : P none sz f) : Zv X j pc ls [] sz f kc ks P := by
  intro p l e R s m args below meth c D cI cQ bs b Q hC hret H locs lsA hH hS hl hn hkc hks
  exact hret _ _ _ hP pc H locs lsA kc ks hH hS hkc hks (Or.inr (Or.inl ⟨rfl, hr, hd⟩))
theorem zr_aret {o : Option Nat} {C : String} (hd : decode (zB j) pc = .ok (.areturn, 1)) (hr : zRet j = some (.object C)) (hP : P (some (zo o)) sz f) : Zv X j pc ls [zo o] sz f kc ks P := by
  intro p l e R s m args below meth c D cI cQ bs b Q hC hret H locs lsA hH hS hl hn hkc hks
  exact hret _ _ _ hP pc H locs lsA kc ks hH hS hkc hks (Or.inr (Or.inr ⟨C, o, hr, rfl, hd⟩))
theorem zr_null (hd : decode (zB j) pc = .ok (.aconst_null, 1)) (k : Zv X j (pc + 1) ls (zu :: st) sz f kc ks P) : Zv X j pc ls st sz f kc ks P := by
  intro p l e R s m args below meth c D cI cQ bs b Q hC hret H locs lsA hH hS hl hn hkc hks
  exact lv_null hC.1 hC.2.1 hd (k _ _ _ _ _ _ _ _ _ _ _ _ _ _ _ _ hC hret H locs lsA hH hS hl hn hkc hks)
theorem zr_iconst {n : Int} {v : Int32} (hd : decode (zB j) pc = .ok (.iconst n, 1)) (hv : Int32.ofInt n = v) (k : Zv X j (pc + 1) ls (zi v :: st) sz f kc ks P) : Zv X j pc ls st sz f kc ks P := by
  intro p l e R s m args below meth c D cI cQ bs b Q hC hret H locs lsA hH hS hl hn hkc hks
  exact lv_iconst hC.1 hC.2.1 hd hv (k _ _ _ _ _ _ _ _ _ _ _ _ _ _ _ _ hC hret H locs lsA hH hS hl hn hkc hks)
theorem zr_bipush {n : Int} {v : Int32} (hd : decode (zB j) pc = .ok (.bipush n, 2)) (hv : (Int8.ofInt n).toInt32 = v) (k : Zv X j (pc + 2) ls (zi v :: st) sz f kc ks P) : Zv X j pc ls st sz f kc ks P := by
  intro p l e R s m args below meth c D cI cQ bs b Q hC hret H locs lsA hH hS hl hn hkc hks
  exact lv_bipush hC.1 hC.2.1 hd hv (k _ _ _ _ _ _ _ _ _ _ _ _ _ _ _ _ hC hret H locs lsA hH hS hl hn hkc hks)
theorem zr_sipush {n : Int} {v : Int32} (hd : decode (zB j) pc = .ok (.sipush n, 3)) (hv : (Int16.ofInt n).toInt32 = v) (k : Zv X j (pc + 3) ls (zi v :: st) sz f kc ks P) : Zv X j pc ls st sz f kc ks P := by
  intro p l e R s m args below meth c D cI cQ bs b Q hC hret H locs lsA hH hS hl hn hkc hks
  exact lv_sipush hC.1 hC.2.1 hd hv (k _ _ _ _ _ _ _ _ _ _ _ _ _ _ _ _ hC hret H locs lsA hH hS hl hn hkc hks)
theorem zKt {i : Nat} {q : (Nat × Nat) × Int32 × Nat} (h : zKtab[i]? = some q) : Cond.constant (zRn q.1.1) q.1.2 q.2.1 ∈ zT := zT_of (List.all_eq_true.mp zKtab_ok q (List.mem_of_getElem? h))
theorem zr_ldc {i ix p0 : Nat} {v : Int32} (hd : decode (zB j) pc = .ok (.ldc ix, 2)) (hi : zKtab[i]? = some ((zC j, ix), v, p0)) (k : Zv X j (pc + 2) ls (zi v :: st) sz f kc ks P) : Zv X j pc ls st sz f kc ks P := by
  intro p l e R s m args below meth c D cI cQ bs b Q hC hret H locs lsA hH hS hl hn hkc hks
  exact lv_ldc hC.1 hC.2.1 hC.2.2.2.1 (hC.2.2.2.2.1 _ (zKt hi)) hd (k _ _ _ _ _ _ _ _ _ _ _ _ _ _ _ _ hC hret H locs lsA hH hS hl hn hkc hks)
theorem zr_iload_n {q : Fin 4} {i : Nat} {x : Int32} (hd : decode (zB j) pc = .ok (.iload_n q, 1)) (hi : (q : Nat) = i) (hx : ls[i]? = some (some (zi x))) (k : Zv X j (pc + 1) ls (zi x :: st) sz f kc ks P) : Zv X j pc ls st sz f kc ks P := by
  intro p l e R s m args below meth c D cI cQ bs b Q hC hret H locs lsA hH hS hl hn hkc hks
  exact lv_iload_n hC.1 hC.2.1 hd hi (zload hl hx) (k _ _ _ _ _ _ _ _ _ _ _ _ _ _ _ _ hC hret H locs lsA hH hS hl hn hkc hks)
theorem zr_iload {i : Nat} {x : Int32} (hd : decode (zB j) pc = .ok (.iload i, 2)) (hx : ls[i]? = some (some (zi x))) (k : Zv X j (pc + 2) ls (zi x :: st) sz f kc ks P) : Zv X j pc ls st sz f kc ks P := by
  intro p l e R s m args below meth c D cI cQ bs b Q hC hret H locs lsA hH hS hl hn hkc hks
  exact lv_iload hC.1 hC.2.1 hd (zload hl hx) (k _ _ _ _ _ _ _ _ _ _ _ _ _ _ _ _ hC hret H locs lsA hH hS hl hn hkc hks)
theorem zr_aload_n {q : Fin 4} {i : Nat} {v : Option (Option Nat)} (hd : decode (zB j) pc = .ok (.aload_n q, 1)) (hi : (q : Nat) = i) (hx : ls[i]? = some (some (v.map .inr))) (k : Zv X j (pc + 1) ls (v.map .inr :: st) sz f kc ks P) : Zv X j pc ls st sz f kc ks P := by
  intro p l e R s m args below meth c D cI cQ bs b Q hC hret H locs lsA hH hS hl hn hkc hks
  have kk := k _ _ _ _ _ _ _ _ _ _ _ _ _ _ _ _ hC hret H locs lsA hH hS hl hn hkc hks
  rcases v with _ | _ | a
  · exact lv_aload_nN hC.1 hC.2.1 hd hi (zload hl hx) kk
  · exact lv_aload_n hC.1 hC.2.1 hd hi (zload hl hx) kk
  · exact lv_aload_n hC.1 hC.2.1 hd hi (zload hl hx) kk
theorem zr_aload {i : Nat} {v : Option (Option Nat)} (hd : decode (zB j) pc = .ok (.aload i, 2)) (hx : ls[i]? = some (some (v.map .inr))) (k : Zv X j (pc + 2) ls (v.map .inr :: st) sz f kc ks P) : Zv X j pc ls st sz f kc ks P := by
  intro p l e R s m args below meth c D cI cQ bs b Q hC hret H locs lsA hH hS hl hn hkc hks
  have kk := k _ _ _ _ _ _ _ _ _ _ _ _ _ _ _ _ hC hret H locs lsA hH hS hl hn hkc hks
  rcases v with _ | _ | a
  · exact lv_aloadN hC.1 hC.2.1 hd (zload hl hx) kk
  · exact lv_aload hC.1 hC.2.1 hd (zload hl hx) kk
  · exact lv_aload hC.1 hC.2.1 hd (zload hl hx) kk
theorem zr_istore_n {q : Fin 4} {i : Nat} {x : Int32} (hd : decode (zB j) pc = .ok (.istore_n q, 1)) (hi : (q : Nat) = i) (hin : i < ls.length) (k : Zv X j (pc + 1) (ls.set i (some (zi x))) st sz f kc ks P) : Zv X j pc ls (zi x :: st) sz f kc ks P := by
  intro p l e R s m args below meth c D cI cQ bs b Q hC hret H locs lsA hH hS hl hn hkc hks
  exact lv_istore_n hC.1 hC.2.1 hd hi hl (by rw [← hn]; exact hin) rfl (fun ls' hl' => k _ _ _ _ _ _ _ _ _ _ _ _ _ _ _ _ hC hret H locs ls' hH hS (zstore (v := zi x) hl') (by rw [List.length_set]; exact hn) hkc hks)
theorem zr_istore {i : Nat} {x : Int32} (hd : decode (zB j) pc = .ok (.istore i, 2)) (hin : i < ls.length) (k : Zv X j (pc + 2) (ls.set i (some (zi x))) st sz f kc ks P) : Zv X j pc ls (zi x :: st) sz f kc ks P := by
  intro p l e R s m args below meth c D cI cQ bs b Q hC hret H locs lsA hH hS hl hn hkc hks
  exact lv_istore hC.1 hC.2.1 hd hl (by rw [← hn]; exact hin) rfl (fun ls' hl' => k _ _ _ _ _ _ _ _ _ _ _ _ _ _ _ _ hC hret H locs ls' hH hS (zstore (v := zi x) hl') (by rw [List.length_set]; exact hn) hkc hks)
theorem zr_astore_n {q : Fin 4} {i : Nat} {v : Option (Option Nat)} (hd : decode (zB j) pc = .ok (.astore_n q, 1)) (hi : (q : Nat) = i) (hin : i < ls.length) (k : Zv X j (pc + 1) (ls.set i (some (v.map .inr))) st sz f kc ks P) : Zv X j pc ls (v.map .inr :: st) sz f kc ks P := by
  intro p l e R s m args below meth c D cI cQ bs b Q hC hret H locs lsA hH hS hl hn hkc hks
  rcases v with _ | _ | a
  · exact lv_astore_nN hC.1 hC.2.1 hd hi hl (by rw [← hn]; exact hin) rfl (fun ls' hl' => k _ _ _ _ _ _ _ _ _ _ _ _ _ _ _ _ hC hret H locs ls' hH hS (zstore (v := none) hl') (by rw [List.length_set]; exact hn) hkc hks)
  · exact lv_astore_n hC.1 hC.2.1 hd hi hl (by rw [← hn]; exact hin) rfl (fun ls' hl' => k _ _ _ _ _ _ _ _ _ _ _ _ _ _ _ _ hC hret H locs ls' hH hS (zstore (v := zsc) hl') (by rw [List.length_set]; exact hn) hkc hks)
  · exact lv_astore_n hC.1 hC.2.1 hd hi hl (by rw [← hn]; exact hin) rfl (fun ls' hl' => k _ _ _ _ _ _ _ _ _ _ _ _ _ _ _ _ hC hret H locs ls' hH hS (zstore (v := zr a) hl') (by rw [List.length_set]; exact hn) hkc hks)
theorem zr_astore {i : Nat} {v : Option (Option Nat)} (hd : decode (zB j) pc = .ok (.astore i, 2)) (hin : i < ls.length) (k : Zv X j (pc + 2) (ls.set i (some (v.map .inr))) st sz f kc ks P) : Zv X j pc ls (v.map .inr :: st) sz f kc ks P := by
  intro p l e R s m args below meth c D cI cQ bs b Q hC hret H locs lsA hH hS hl hn hkc hks
  rcases v with _ | _ | a
  · exact lv_astoreN hC.1 hC.2.1 hd hl (by rw [← hn]; exact hin) rfl (fun ls' hl' => k _ _ _ _ _ _ _ _ _ _ _ _ _ _ _ _ hC hret H locs ls' hH hS (zstore (v := none) hl') (by rw [List.length_set]; exact hn) hkc hks)
  · exact lv_astore hC.1 hC.2.1 hd hl (by rw [← hn]; exact hin) rfl (fun ls' hl' => k _ _ _ _ _ _ _ _ _ _ _ _ _ _ _ _ hC hret H locs ls' hH hS (zstore (v := zsc) hl') (by rw [List.length_set]; exact hn) hkc hks)
  · exact lv_astore hC.1 hC.2.1 hd hl (by rw [← hn]; exact hin) rfl (fun ls' hl' => k _ _ _ _ _ _ _ _ _ _ _ _ _ _ _ _ hC hret H locs ls' hH hS (zstore (v := zr a) hl') (by rw [List.length_set]; exact hn) hkc hks)
theorem zr_iinc {i : Nat} {n : Int} {x v : Int32} (hd : decode (zB j) pc = .ok (.iinc i n, 3)) (hx : ls[i]? = some (some (zi x))) (hv : x + Int32.ofInt n = v) (k : Zv X j (pc + 3) (ls.set i (some (zi v))) st sz f kc ks P) : Zv X j pc ls st sz f kc ks P := by
  intro p l e R s m args below meth c D cI cQ bs b Q hC hret H locs lsA hH hS hl hn hkc hks
  have hin : i < ls.length := (List.getElem?_eq_some_iff.mp hx).1
  obtain ⟨q, hq⟩ := List.getElem?_of_mem ((zprs_mem (g := zvv bs b) (l := ls) (i := 0) (q := (i, Value.int x))).mpr ⟨i, zi x, hx, by simp [zvv, zi]⟩)
  exact lv_iinc hC.1 hC.2.1 hd hl hq hv (by rw [← hn]; exact hin) rfl (fun ls' hl' => k _ _ _ _ _ _ _ _ _ _ _ _ _ _ _ _ hC hret H locs ls' hH hS (zstore (v := zi v) hl') (by rw [List.length_set]; exact hn) hkc hks)
theorem zr_iadd {x y : Int32} (hd : decode (zB j) pc = .ok (.iadd, 1)) (k : Zv X j (pc + 1) ls (zi (x + y) :: st) sz f kc ks P) : Zv X j pc ls (zi y :: zi x :: st) sz f kc ks P := by
  intro p l e R s m args below meth c D cI cQ bs b Q hC hret H locs lsA hH hS hl hn hkc hks
  exact lv_iadd hC.1 hC.2.1 hd (k _ _ _ _ _ _ _ _ _ _ _ _ _ _ _ _ hC hret H locs lsA hH hS hl hn hkc hks)
theorem zr_isub {x y : Int32} (hd : decode (zB j) pc = .ok (.isub, 1)) (k : Zv X j (pc + 1) ls (zi (x - y) :: st) sz f kc ks P) : Zv X j pc ls (zi y :: zi x :: st) sz f kc ks P := by
  intro p l e R s m args below meth c D cI cQ bs b Q hC hret H locs lsA hH hS hl hn hkc hks
  exact lv_isub hC.1 hC.2.1 hd (k _ _ _ _ _ _ _ _ _ _ _ _ _ _ _ _ hC hret H locs lsA hH hS hl hn hkc hks)
theorem zr_imul {x y : Int32} (hd : decode (zB j) pc = .ok (.imul, 1)) (k : Zv X j (pc + 1) ls (zi (x * y) :: st) sz f kc ks P) : Zv X j pc ls (zi y :: zi x :: st) sz f kc ks P := by
  intro p l e R s m args below meth c D cI cQ bs b Q hC hret H locs lsA hH hS hl hn hkc hks
  exact lv_imul hC.1 hC.2.1 hd (k _ _ _ _ _ _ _ _ _ _ _ _ _ _ _ _ hC hret H locs lsA hH hS hl hn hkc hks)
theorem zr_iand {x y : Int32} (hd : decode (zB j) pc = .ok (.iand, 1)) (k : Zv X j (pc + 1) ls (zi (x &&& y) :: st) sz f kc ks P) : Zv X j pc ls (zi y :: zi x :: st) sz f kc ks P := by
  intro p l e R s m args below meth c D cI cQ bs b Q hC hret H locs lsA hH hS hl hn hkc hks
  exact lv_iand hC.1 hC.2.1 hd (k _ _ _ _ _ _ _ _ _ _ _ _ _ _ _ _ hC hret H locs lsA hH hS hl hn hkc hks)
theorem zr_ior {x y : Int32} (hd : decode (zB j) pc = .ok (.ior, 1)) (k : Zv X j (pc + 1) ls (zi (x ||| y) :: st) sz f kc ks P) : Zv X j pc ls (zi y :: zi x :: st) sz f kc ks P := by
  intro p l e R s m args below meth c D cI cQ bs b Q hC hret H locs lsA hH hS hl hn hkc hks
  exact lv_ior hC.1 hC.2.1 hd (k _ _ _ _ _ _ _ _ _ _ _ _ _ _ _ _ hC hret H locs lsA hH hS hl hn hkc hks)
theorem zr_ixor {x y : Int32} (hd : decode (zB j) pc = .ok (.ixor, 1)) (k : Zv X j (pc + 1) ls (zi (x ^^^ y) :: st) sz f kc ks P) : Zv X j pc ls (zi y :: zi x :: st) sz f kc ks P := by
  intro p l e R s m args below meth c D cI cQ bs b Q hC hret H locs lsA hH hS hl hn hkc hks
  exact lv_ixor hC.1 hC.2.1 hd (k _ _ _ _ _ _ _ _ _ _ _ _ _ _ _ _ hC hret H locs lsA hH hS hl hn hkc hks)
theorem zr_ishl {x y : Int32} (hd : decode (zB j) pc = .ok (.ishl, 1)) (k : Zv X j (pc + 1) ls (zi (x <<< (y &&& 31)) :: st) sz f kc ks P) : Zv X j pc ls (zi y :: zi x :: st) sz f kc ks P := by
  intro p l e R s m args below meth c D cI cQ bs b Q hC hret H locs lsA hH hS hl hn hkc hks
  exact lv_ishl hC.1 hC.2.1 hd (k _ _ _ _ _ _ _ _ _ _ _ _ _ _ _ _ hC hret H locs lsA hH hS hl hn hkc hks)
theorem zr_ishr {x y : Int32} (hd : decode (zB j) pc = .ok (.ishr, 1)) (k : Zv X j (pc + 1) ls (zi (x >>> (y &&& 31)) :: st) sz f kc ks P) : Zv X j pc ls (zi y :: zi x :: st) sz f kc ks P := by
  intro p l e R s m args below meth c D cI cQ bs b Q hC hret H locs lsA hH hS hl hn hkc hks
  exact lv_ishr hC.1 hC.2.1 hd (k _ _ _ _ _ _ _ _ _ _ _ _ _ _ _ _ hC hret H locs lsA hH hS hl hn hkc hks)
theorem zr_idiv {x y : Int32} (hd : decode (zB j) pc = .ok (.idiv, 1)) (hy : ¬ y = 0) (k : Zv X j (pc + 1) ls (zi (x / y) :: st) sz f kc ks P) : Zv X j pc ls (zi y :: zi x :: st) sz f kc ks P := by
  intro p l e R s m args below meth c D cI cQ bs b Q hC hret H locs lsA hH hS hl hn hkc hks
  exact lv_idiv hC.1 hC.2.1 hd hy (k _ _ _ _ _ _ _ _ _ _ _ _ _ _ _ _ hC hret H locs lsA hH hS hl hn hkc hks)
theorem zr_irem {x y : Int32} (hd : decode (zB j) pc = .ok (.irem, 1)) (hy : ¬ y = 0) (k : Zv X j (pc + 1) ls (zi (x - x / y * y) :: st) sz f kc ks P) : Zv X j pc ls (zi y :: zi x :: st) sz f kc ks P := by
  intro p l e R s m args below meth c D cI cQ bs b Q hC hret H locs lsA hH hS hl hn hkc hks
  exact lv_irem hC.1 hC.2.1 hd hy (k _ _ _ _ _ _ _ _ _ _ _ _ _ _ _ _ hC hret H locs lsA hH hS hl hn hkc hks)
theorem zr_ineg {x : Int32} (hd : decode (zB j) pc = .ok (.ineg, 1)) (k : Zv X j (pc + 1) ls (zi (-x) :: st) sz f kc ks P) : Zv X j pc ls (zi x :: st) sz f kc ks P := by
  intro p l e R s m args below meth c D cI cQ bs b Q hC hret H locs lsA hH hS hl hn hkc hks
  exact lv_ineg hC.1 hC.2.1 hd (k _ _ _ _ _ _ _ _ _ _ _ _ _ _ _ _ hC hret H locs lsA hH hS hl hn hkc hks)
theorem zr_dup {v : ZVal} (hd : decode (zB j) pc = .ok (.dup, 1)) (k : Zv X j (pc + 1) ls (v :: v :: st) sz f kc ks P) : Zv X j pc ls (v :: st) sz f kc ks P := by
  intro p l e R s m args below meth c D cI cQ bs b Q hC hret H locs lsA hH hS hl hn hkc hks
  exact lv_dup hC.1 hC.2.1 hd (zvv_cat bs b v) (k _ _ _ _ _ _ _ _ _ _ _ _ _ _ _ _ hC hret H locs lsA hH hS hl hn hkc hks)
theorem zr_if_eq {x : Int32} {off : Int} {tgt : Nat} (hd : decode (zB j) pc = .ok (.ifCond .eq off, 3)) (ht : (pc : Int) + off = (tgt : Int)) (kt : x = 0 → Zv X j tgt ls st sz f kc ks P) (kf : ¬ x = 0 → Zv X j (pc + 3) ls st sz f kc ks P) : Zv X j pc ls (zi x :: st) sz f kc ks P := by
  intro p l e R s m args below meth c D cI cQ bs b Q hC hret H locs lsA hH hS hl hn hkc hks
  exact lv_if_eq hC.1 hC.2.1 hd ht (fun h => kt h _ _ _ _ _ _ _ _ _ _ _ _ _ _ _ _ hC hret H locs lsA hH hS hl hn hkc hks) (fun h => kf h _ _ _ _ _ _ _ _ _ _ _ _ _ _ _ _ hC hret H locs lsA hH hS hl hn hkc hks)
theorem zr_icmp_eq {x y : Int32} {off : Int} {tgt : Nat} (hd : decode (zB j) pc = .ok (.if_icmp .eq off, 3)) (ht : (pc : Int) + off = (tgt : Int)) (kt : x = y → Zv X j tgt ls st sz f kc ks P) (kf : ¬ x = y → Zv X j (pc + 3) ls st sz f kc ks P) : Zv X j pc ls (zi y :: zi x :: st) sz f kc ks P := by
  intro p l e R s m args below meth c D cI cQ bs b Q hC hret H locs lsA hH hS hl hn hkc hks
  exact lv_icmp_eq hC.1 hC.2.1 hd ht (fun h => kt h _ _ _ _ _ _ _ _ _ _ _ _ _ _ _ _ hC hret H locs lsA hH hS hl hn hkc hks) (fun h => kf h _ _ _ _ _ _ _ _ _ _ _ _ _ _ _ _ hC hret H locs lsA hH hS hl hn hkc hks)
theorem zr_if_ne {x : Int32} {off : Int} {tgt : Nat} (hd : decode (zB j) pc = .ok (.ifCond .ne off, 3)) (ht : (pc : Int) + off = (tgt : Int)) (kt : ¬ x = 0 → Zv X j tgt ls st sz f kc ks P) (kf : x = 0 → Zv X j (pc + 3) ls st sz f kc ks P) : Zv X j pc ls (zi x :: st) sz f kc ks P := by
  intro p l e R s m args below meth c D cI cQ bs b Q hC hret H locs lsA hH hS hl hn hkc hks
  exact lv_if_ne hC.1 hC.2.1 hd ht (fun h => kt h _ _ _ _ _ _ _ _ _ _ _ _ _ _ _ _ hC hret H locs lsA hH hS hl hn hkc hks) (fun h => kf h _ _ _ _ _ _ _ _ _ _ _ _ _ _ _ _ hC hret H locs lsA hH hS hl hn hkc hks)
theorem zr_icmp_ne {x y : Int32} {off : Int} {tgt : Nat} (hd : decode (zB j) pc = .ok (.if_icmp .ne off, 3)) (ht : (pc : Int) + off = (tgt : Int)) (kt : ¬ x = y → Zv X j tgt ls st sz f kc ks P) (kf : x = y → Zv X j (pc + 3) ls st sz f kc ks P) : Zv X j pc ls (zi y :: zi x :: st) sz f kc ks P := by
  intro p l e R s m args below meth c D cI cQ bs b Q hC hret H locs lsA hH hS hl hn hkc hks
  exact lv_icmp_ne hC.1 hC.2.1 hd ht (fun h => kt h _ _ _ _ _ _ _ _ _ _ _ _ _ _ _ _ hC hret H locs lsA hH hS hl hn hkc hks) (fun h => kf h _ _ _ _ _ _ _ _ _ _ _ _ _ _ _ _ hC hret H locs lsA hH hS hl hn hkc hks)
theorem zr_if_lt {x : Int32} {off : Int} {tgt : Nat} (hd : decode (zB j) pc = .ok (.ifCond .lt off, 3)) (ht : (pc : Int) + off = (tgt : Int)) (kt : x < 0 → Zv X j tgt ls st sz f kc ks P) (kf : ¬ x < 0 → Zv X j (pc + 3) ls st sz f kc ks P) : Zv X j pc ls (zi x :: st) sz f kc ks P := by
  intro p l e R s m args below meth c D cI cQ bs b Q hC hret H locs lsA hH hS hl hn hkc hks
  exact lv_if_lt hC.1 hC.2.1 hd ht (fun h => kt h _ _ _ _ _ _ _ _ _ _ _ _ _ _ _ _ hC hret H locs lsA hH hS hl hn hkc hks) (fun h => kf h _ _ _ _ _ _ _ _ _ _ _ _ _ _ _ _ hC hret H locs lsA hH hS hl hn hkc hks)
theorem zr_icmp_lt {x y : Int32} {off : Int} {tgt : Nat} (hd : decode (zB j) pc = .ok (.if_icmp .lt off, 3)) (ht : (pc : Int) + off = (tgt : Int)) (kt : x < y → Zv X j tgt ls st sz f kc ks P) (kf : ¬ x < y → Zv X j (pc + 3) ls st sz f kc ks P) : Zv X j pc ls (zi y :: zi x :: st) sz f kc ks P := by
  intro p l e R s m args below meth c D cI cQ bs b Q hC hret H locs lsA hH hS hl hn hkc hks
  exact lv_icmp_lt hC.1 hC.2.1 hd ht (fun h => kt h _ _ _ _ _ _ _ _ _ _ _ _ _ _ _ _ hC hret H locs lsA hH hS hl hn hkc hks) (fun h => kf h _ _ _ _ _ _ _ _ _ _ _ _ _ _ _ _ hC hret H locs lsA hH hS hl hn hkc hks)
theorem zr_if_ge {x : Int32} {off : Int} {tgt : Nat} (hd : decode (zB j) pc = .ok (.ifCond .ge off, 3)) (ht : (pc : Int) + off = (tgt : Int)) (kt : 0 ≤ x → Zv X j tgt ls st sz f kc ks P) (kf : ¬ 0 ≤ x → Zv X j (pc + 3) ls st sz f kc ks P) : Zv X j pc ls (zi x :: st) sz f kc ks P := by
  intro p l e R s m args below meth c D cI cQ bs b Q hC hret H locs lsA hH hS hl hn hkc hks
  exact lv_if_ge hC.1 hC.2.1 hd ht (fun h => kt h _ _ _ _ _ _ _ _ _ _ _ _ _ _ _ _ hC hret H locs lsA hH hS hl hn hkc hks) (fun h => kf h _ _ _ _ _ _ _ _ _ _ _ _ _ _ _ _ hC hret H locs lsA hH hS hl hn hkc hks)
theorem zr_icmp_ge {x y : Int32} {off : Int} {tgt : Nat} (hd : decode (zB j) pc = .ok (.if_icmp .ge off, 3)) (ht : (pc : Int) + off = (tgt : Int)) (kt : y ≤ x → Zv X j tgt ls st sz f kc ks P) (kf : ¬ y ≤ x → Zv X j (pc + 3) ls st sz f kc ks P) : Zv X j pc ls (zi y :: zi x :: st) sz f kc ks P := by
  intro p l e R s m args below meth c D cI cQ bs b Q hC hret H locs lsA hH hS hl hn hkc hks
  exact lv_icmp_ge hC.1 hC.2.1 hd ht (fun h => kt h _ _ _ _ _ _ _ _ _ _ _ _ _ _ _ _ hC hret H locs lsA hH hS hl hn hkc hks) (fun h => kf h _ _ _ _ _ _ _ _ _ _ _ _ _ _ _ _ hC hret H locs lsA hH hS hl hn hkc hks)
theorem zr_if_gt {x : Int32} {off : Int} {tgt : Nat} (hd : decode (zB j) pc = .ok (.ifCond .gt off, 3)) (ht : (pc : Int) + off = (tgt : Int)) (kt : 0 < x → Zv X j tgt ls st sz f kc ks P) (kf : ¬ 0 < x → Zv X j (pc + 3) ls st sz f kc ks P) : Zv X j pc ls (zi x :: st) sz f kc ks P := by
  intro p l e R s m args below meth c D cI cQ bs b Q hC hret H locs lsA hH hS hl hn hkc hks
  exact lv_if_gt hC.1 hC.2.1 hd ht (fun h => kt h _ _ _ _ _ _ _ _ _ _ _ _ _ _ _ _ hC hret H locs lsA hH hS hl hn hkc hks) (fun h => kf h _ _ _ _ _ _ _ _ _ _ _ _ _ _ _ _ hC hret H locs lsA hH hS hl hn hkc hks)
theorem zr_icmp_gt {x y : Int32} {off : Int} {tgt : Nat} (hd : decode (zB j) pc = .ok (.if_icmp .gt off, 3)) (ht : (pc : Int) + off = (tgt : Int)) (kt : y < x → Zv X j tgt ls st sz f kc ks P) (kf : ¬ y < x → Zv X j (pc + 3) ls st sz f kc ks P) : Zv X j pc ls (zi y :: zi x :: st) sz f kc ks P := by
  intro p l e R s m args below meth c D cI cQ bs b Q hC hret H locs lsA hH hS hl hn hkc hks
  exact lv_icmp_gt hC.1 hC.2.1 hd ht (fun h => kt h _ _ _ _ _ _ _ _ _ _ _ _ _ _ _ _ hC hret H locs lsA hH hS hl hn hkc hks) (fun h => kf h _ _ _ _ _ _ _ _ _ _ _ _ _ _ _ _ hC hret H locs lsA hH hS hl hn hkc hks)
theorem zr_if_le {x : Int32} {off : Int} {tgt : Nat} (hd : decode (zB j) pc = .ok (.ifCond .le off, 3)) (ht : (pc : Int) + off = (tgt : Int)) (kt : x ≤ 0 → Zv X j tgt ls st sz f kc ks P) (kf : ¬ x ≤ 0 → Zv X j (pc + 3) ls st sz f kc ks P) : Zv X j pc ls (zi x :: st) sz f kc ks P := by
  intro p l e R s m args below meth c D cI cQ bs b Q hC hret H locs lsA hH hS hl hn hkc hks
  exact lv_if_le hC.1 hC.2.1 hd ht (fun h => kt h _ _ _ _ _ _ _ _ _ _ _ _ _ _ _ _ hC hret H locs lsA hH hS hl hn hkc hks) (fun h => kf h _ _ _ _ _ _ _ _ _ _ _ _ _ _ _ _ hC hret H locs lsA hH hS hl hn hkc hks)
theorem zr_icmp_le {x y : Int32} {off : Int} {tgt : Nat} (hd : decode (zB j) pc = .ok (.if_icmp .le off, 3)) (ht : (pc : Int) + off = (tgt : Int)) (kt : x ≤ y → Zv X j tgt ls st sz f kc ks P) (kf : ¬ x ≤ y → Zv X j (pc + 3) ls st sz f kc ks P) : Zv X j pc ls (zi y :: zi x :: st) sz f kc ks P := by
  intro p l e R s m args below meth c D cI cQ bs b Q hC hret H locs lsA hH hS hl hn hkc hks
  exact lv_icmp_le hC.1 hC.2.1 hd ht (fun h => kt h _ _ _ _ _ _ _ _ _ _ _ _ _ _ _ _ hC hret H locs lsA hH hS hl hn hkc hks) (fun h => kf h _ _ _ _ _ _ _ _ _ _ _ _ _ _ _ _ hC hret H locs lsA hH hS hl hn hkc hks)
theorem zr_goto {off : Int} {tgt : Nat} (hd : decode (zB j) pc = .ok (.goto off, 3)) (ht : (pc : Int) + off = (tgt : Int)) (k : Zv X j tgt ls st sz f kc ks P) : Zv X j pc ls st sz f kc ks P := by
  intro p l e R s m args below meth c D cI cQ bs b Q hC hret H locs lsA hH hS hl hn hkc hks
  exact lv_goto hC.1 hC.2.1 hd ht (k _ _ _ _ _ _ _ _ _ _ _ _ _ _ _ _ hC hret H locs lsA hH hS hl hn hkc hks)
theorem zr_ifnonnull {a : Nat} {off : Int} {tgt : Nat} (hd : decode (zB j) pc = .ok (.ifnonnull off, 3)) (ht : (pc : Int) + off = (tgt : Int)) (k : Zv X j tgt ls st sz f kc ks P) : Zv X j pc ls (zr a :: st) sz f kc ks P := by
  intro p l e R s m args below meth c D cI cQ bs b Q hC hret H locs lsA hH hS hl hn hkc hks
  exact lv_ifnonnull hC.1 hC.2.1 hd ht (k _ _ _ _ _ _ _ _ _ _ _ _ _ _ _ _ hC hret H locs lsA hH hS hl hn hkc hks)
theorem zr_ifnonnullN {off : Int} (hd : decode (zB j) pc = .ok (.ifnonnull off, 3)) (k : Zv X j (pc + 3) ls st sz f kc ks P) : Zv X j pc ls (zu :: st) sz f kc ks P := by
  intro p l e R s m args below meth c D cI cQ bs b Q hC hret H locs lsA hH hS hl hn hkc hks
  exact lv_ifnonnullN hC.1 hC.2.1 hd (k _ _ _ _ _ _ _ _ _ _ _ _ _ _ _ _ hC hret H locs lsA hH hS hl hn hkc hks)
theorem zr_ifnull {a : Nat} {off : Int} (hd : decode (zB j) pc = .ok (.ifnull off, 3)) (k : Zv X j (pc + 3) ls st sz f kc ks P) : Zv X j pc ls (zr a :: st) sz f kc ks P := by
  intro p l e R s m args below meth c D cI cQ bs b Q hC hret H locs lsA hH hS hl hn hkc hks
  exact lv_ifnull hC.1 hC.2.1 hd (k _ _ _ _ _ _ _ _ _ _ _ _ _ _ _ _ hC hret H locs lsA hH hS hl hn hkc hks)
theorem zr_ifnullN {off : Int} {tgt : Nat} (hd : decode (zB j) pc = .ok (.ifnull off, 3)) (ht : (pc : Int) + off = (tgt : Int)) (k : Zv X j tgt ls st sz f kc ks P) : Zv X j pc ls (zu :: st) sz f kc ks P := by
  intro p l e R s m args below meth c D cI cQ bs b Q hC hret H locs lsA hH hS hl hn hkc hks
  exact lv_ifnullN hC.1 hC.2.1 hd ht (k _ _ _ _ _ _ _ _ _ _ _ _ _ _ _ _ hC hret H locs lsA hH hS hl hn hkc hks)
theorem zr_swOut {dflt lo hi : Int} {offs : Array Int} {len : Nat} {x : Int32} {tgt : Nat} (hd : decode (zB j) pc = .ok (.tableswitch dflt lo hi offs, len)) (h : x.toInt < lo ∨ hi < x.toInt) (ht : (pc : Int) + dflt = (tgt : Int)) (k : Zv X j tgt ls st sz f kc ks P) : Zv X j pc ls (zi x :: st) sz f kc ks P := by
  intro p l e R s m args below meth c D cI cQ bs b Q hC hret H locs lsA hH hS hl hn hkc hks
  exact lv_tableOut hC.1 hC.2.1 hd h ht (k _ _ _ _ _ _ _ _ _ _ _ _ _ _ _ _ hC hret H locs lsA hH hS hl hn hkc hks)
theorem zr_swIn {dflt lo hi : Int} {offs : Array Int} {len : Nat} {x : Int32} {off : Int} {tgt : Nat} (hd : decode (zB j) pc = .ok (.tableswitch dflt lo hi offs, len)) (h1 : ¬ x.toInt < lo) (h2 : ¬ hi < x.toInt) (ho : offs[(x.toInt - lo).toNat]? = some off) (ht : (pc : Int) + off = (tgt : Int)) (k : Zv X j tgt ls st sz f kc ks P) : Zv X j pc ls (zi x :: st) sz f kc ks P := by
  intro p l e R s m args below meth c D cI cQ bs b Q hC hret H locs lsA hH hS hl hn hkc hks
  exact lv_tableIn hC.1 hC.2.1 hd h1 h2 ho ht (k _ _ _ _ _ _ _ _ _ _ _ _ _ _ _ _ hC hret H locs lsA hH hS hl hn hkc hks)
theorem va_one {D : va_G} {q : Nat × va_E} {H : Heap} (h : va_at D vwCl q H) : va_P D vwCl [q] H := by
  intro k q' hk
  cases k with
  | zero => cases hk; exact h
  | succ k => simp at hk
theorem zHp.set {D : va_G} {cI cQ : ClassId} {bs b k : Nat} {H H1 : Heap} {c : ZC} (h : zHp D cI cQ bs b sz f H) (hk : k < sz) (he : va_at D vwCl (bs + k, zcv cI cQ bs b c) H1) (z : H1.size = H.size) (oq : ∀ q : Nat, q ≠ bs + k → H1[q]? = H[q]?) : zHp D cI cQ bs b sz (zup f k c) H1 := by
  refine ⟨z.trans h.1, fun i ci hi => ?_⟩
  by_cases hik : i = k
  · subst hik
    rw [zup_eq] at hi
    cases hi
    exact ⟨hk, he⟩
  · rw [zup_ne hik] at hi
    obtain ⟨h1, h2⟩ := h.2 i ci hi
    exact ⟨h1, h2.kept (oq _ (by show bs + i ≠ bs + k; omega))⟩
theorem zHp.push {D : va_G} {cI cQ : ClassId} {bs b : Nat} {H H1 : Heap} {c : ZC} (h : zHp D cI cQ bs b sz f H) (he : va_at D vwCl (bs + sz, zcv cI cQ bs b c) H1) (z : H1.size = H.size + 1) (oq : ∀ q : Nat, q < H.size → H1[q]? = H[q]?) : zHp D cI cQ bs b (sz + 1) (zup f sz c) H1 := by
  refine ⟨by rw [z, h.1]; omega, fun i ci hi => ?_⟩
  by_cases hik : i = sz
  · subst hik
    rw [zup_eq] at hi
    cases hi
    exact ⟨by omega, he⟩
  · rw [zup_ne hik] at hi
    obtain ⟨h1, h2⟩ := h.2 i ci hi
    refine ⟨by omega, h2.kept (oq _ ?_)⟩
    show bs + i < H.size
    rw [h.1]
    omega
theorem zFt {i : Nat} {c ix ci k p0 : Nat} {nest : Bool} (h : zFtab[i]? = some ((c, ix), (ci, k, nest), p0)) : ci < 7 ∧ k < (zCl ci).2.2 ∧ (nest = false → Cond.fieldLink (zRn c) ix (zCl ci).1 ((zCl ci).2.1 k).2.1 ((zCl ci).2.1 k).2.2.1 ∈ zT) ∧ (nest = true → Cond.fieldLinkNest (zRn c) ix (zCl ci).1 ((zCl ci).2.1 k).2.1 ((zCl ci).2.1 k).2.2.1 RX5 ∈ zNs) := by
  have h1 := List.all_eq_true.mp zFtab_ok _ (List.mem_of_getElem? h)
  cases nest with
  | false =>
    simp only [zFtabOk, Bool.and_eq_true, decide_eq_true_eq] at h1
    exact ⟨h1.1.1, h1.1.2, fun _ => zT_in (List.mem_of_getElem? h1.2.1) h1.2.2, fun h => by cases h⟩
  | true =>
    simp only [zFtabOk, Bool.and_eq_true, decide_eq_true_eq] at h1
    exact ⟨h1.1.1, h1.1.2, fun h => (by cases h), fun _ => zNs_in h1.2 rfl⟩
theorem zOwn : ∀ ci, ci < 7 → ∀ q, q < (zCl ci).2.2 → ((zCl ci).2.1 q).1 = (zCl ci).1 := by decide +kernel
theorem zr_get {i ix ci q p0 a : Nat} {vs : List ZVal} {v : ZVal} (hd : decode (zB j) pc = .ok (.getfield ix, 3)) (hi : zFtab[i]? = some ((zC j, ix), (ci, q, false), p0)) (hf : f a = some (zO ci vs)) (hv : vs[q]? = some v) (k : Zv X j (pc + 3) ls (v :: st) sz f kc ks P) : Zv X j pc ls (zr a :: st) sz f kc ks P := by
  intro p l e R s m args below meth c D cI cQ bs b Q hC hret H locs lsA hH hS hl hn hkc hks
  obtain ⟨h1, h2, h3, -⟩ := zFt hi
  have hP := va_one (hH.2 a _ hf).2
  exact va_get (v := zvv bs b v) (fs := vs.map (zvv bs b)) hC.1 hC.2.1 hC.2.2.2.2.1 (zWk ci h1) hC.2.2.2.1 hC.2.2.2.2.2.2.2.1 hP 0 rfl (zTyk ci h1).2.2 q h2 (hC.2.2.2.2.1 _ (h3 rfl)) (fun _ hx => by rw [zOwn ci h1 q h2] at hx; exact hx) (by rw [List.getElem?_map, hv]; rfl) hd (k _ _ _ _ _ _ _ _ _ _ _ _ _ _ _ _ hC hret H locs lsA hH hS hl hn hkc hks)
theorem zr_getN {i ix ci q p0 a : Nat} {vs : List ZVal} {v : ZVal} (hd : decode (zB j) pc = .ok (.getfield ix, 3)) (hi : zFtab[i]? = some ((zC j, ix), (ci, q, true), p0)) (hf : f a = some (zO ci vs)) (hv : vs[q]? = some v) (k : Zv X j (pc + 3) ls (v :: st) sz f kc ks P) : Zv X j pc ls (zr a :: st) sz f kc ks P := by
  intro p l e R s m args below meth c D cI cQ bs b Q hC hret H locs lsA hH hS hl hn hkc hks
  obtain ⟨h1, h2, -, h3⟩ := zFt hi
  have hP := va_one (hH.2 a _ hf).2
  exact va_getN (v := zvv bs b v) (fs := vs.map (zvv bs b)) hC.1 hC.2.1 hC.2.2.2.2.1 (zWk ci h1) hC.2.2.2.1 hC.2.2.2.2.2.2.2.1 hP 0 rfl (zTyk ci h1).2.2 q h2 (va_Nw.use rfl (hC.2.2.2.2.2.1 _ (h3 rfl))) (fun _ hx => by rw [zOwn ci h1 q h2] at hx; exact hx) (by rw [List.getElem?_map, hv]; rfl) hd (k _ _ _ _ _ _ _ _ _ _ _ _ _ _ _ _ hC hret H locs lsA hH hS hl hn hkc hks)
def zfit (ty : FieldType) (v : ZVal) : Bool := match ty, v with
  | .int, some (.inl _) => true
  | .object _, none => true
  | .object _, some (.inr (some _)) => true
  | .array _, none => true
  | .array _, some (.inr (some _)) => true
  | _, _ => false
theorem zfit_ok {ty : FieldType} {v : ZVal} (h : zfit ty v = true) (bs b : Nat) : narrow ty (zvv bs b v) = zvv bs b v ∧ fits ty (zvv bs b v) = true := by
  unfold zfit at h
  split at h
  all_goals first | exact ⟨rfl, rfl⟩ | cases h
theorem zr_put {i ix ci q p0 a : Nat} {vs : List ZVal} {v : ZVal} (hd : decode (zB j) pc = .ok (.putfield ix, 3)) (hi : zFtab[i]? = some ((zC j, ix), (ci, q, false), p0)) (hf : f a = some (zO ci vs)) (hq : q < vs.length) (hfit : zfit (zty ci q) v = true) (hfin : ((zCl ci).2.1 q).2.2.2 = false) (k : Zv X j (pc + 3) ls st sz (zup f a (zO ci (vs.set q v))) kc ks P) : Zv X j pc ls (v :: zr a :: st) sz f kc ks P := by
  intro p l e R s m args below meth c D cI cQ bs b Q hC hret H locs lsA hH hS hl hn hkc hks
  obtain ⟨h1, h2, h3, -⟩ := zFt hi
  obtain ⟨hty, hnm, hcl⟩ := zTyk ci h1
  obtain ⟨hx, hb, -, hown, hts, -, -, hK, hbs, -⟩ := id hC
  have hap := va_apart (own := zRn (zC j)) hts (zWk ci h1) (zty ci) hty hnm hK hcl
  obtain ⟨hak, r, g1, cell, q1, q2, q3, q4⟩ := hH.2 a _ hf
  have hr : r = ((zCl ci).1, (zCl ci).2.1, (zCl ci).2.2) := Option.some.inj (g1.symm.trans hcl)
  subst hr
  obtain ⟨hSl, hfc, kC, hkC, hkind⟩ := hK.1 ci _ hcl
  obtain ⟨cf, kf, fi, fd, hif, hsl⟩ := hSl q h2
  have hlay := hts _ (zWk ci h1 _ (u_in_lay h2))
  unfold u_lay at hlay
  rw [if_neg (by rw [hfin]; decide)] at hlay
  have hst := (u_facts hfc hkC (u_lays hts (zWk ci h1) h2) hif).1
  have hif2 := hif
  dsimp only at hif2
  rw [zOwn ci h1 q h2] at hif2
  have hz := zfit_ok hfit bs b
  have h6 := u_store hfc hkC hkind hlay hif (hty q h2) hz.1 hz.2
  refine W.putK hx hb (f := fd) ⟨hown, hts _ (h3 rfl), ⟨_, _, _, hif2⟩, hst⟩ (by rw [q2]; exact h6) q1 q3 (by rw [hsl]; exact k2_hasslot (q4 q h2)) rfl rfl hd fun H' e1 e2 e3 => ?_
  rw [hsl] at e1 ⊢
  refine k _ _ _ _ _ _ _ _ _ _ _ _ _ _ _ _ hC hret H' _ lsA (hH.set hak ⟨_, hcl, t_OB.to (V := updV (vp_V (vs.map (zvv bs b))) q (zvv bs b v)) ⟨_, e1, q2, q3, t_set q4 hap h2 _⟩ (fun j _ => ?_)⟩ e2 e3) (hS.put e2 e3 (Nat.le_add_right _ _)) hl hn hkc hks
  rw [List.map_set]
  exact vp_updV_set (by rw [List.length_map]; exact hq) _ j
theorem zr_putF {i ix ci q p0 a : Nat} {vs : List ZVal} {v : ZVal} (hd : decode (zB j) pc = .ok (.putfield ix, 3)) (hi : zFtab[i]? = some ((zC j, ix), (ci, q, false), p0)) (hf : f a = some (zO ci vs)) (hq : q < vs.length) (hfit : zfit (zty ci q) v = true) (hfin : ((zCl ci).2.1 q).2.2.2 = true) (hin : (zy j).name = "<init>") (hdecl : ((zCl ci).2.1 q).1 = zRn (zC j)) (k : Zv X j (pc + 3) ls st sz (zup f a (zO ci (vs.set q v))) kc ks P) : Zv X j pc ls (v :: zr a :: st) sz f kc ks P := by
  intro p l e R s m args below meth c D cI cQ bs b Q hC hret H locs lsA hH hS hl hn hkc hks
  obtain ⟨h1, h2, h3, -⟩ := zFt hi
  obtain ⟨hty, hnm, hcl⟩ := zTyk ci h1
  obtain ⟨hx, hb, -, hown, hts, -, hin2, hK, hbs, -⟩ := id hC
  have hap := va_apart (own := zRn (zC j)) hts (zWk ci h1) (zty ci) hty hnm hK hcl
  obtain ⟨hak, r, g1, cell, q1, q2, q3, q4⟩ := hH.2 a _ hf
  have hr : r = ((zCl ci).1, (zCl ci).2.1, (zCl ci).2.2) := Option.some.inj (g1.symm.trans hcl)
  subst hr
  obtain ⟨hSl, hfc, kC, hkC, hkind⟩ := hK.1 ci _ hcl
  obtain ⟨cf, kf, fi, fd, hif, hsl⟩ := hSl q h2
  have hlay := hts _ (zWk ci h1 _ (u_in_lay h2))
  unfold u_lay at hlay
  rw [if_pos hfin] at hlay
  have hst := (u_facts hfc hkC (u_lays hts (zWk ci h1) h2) hif).1
  have hcf : m.cls = cf := by
    obtain ⟨_, _, c', _, _, _, -, -, hf', -, -, -, hown2, -⟩ := Cond.laysFinal_spec hlay
    have e1 : c' = cf := by have := hif.symm.trans hf'; simp at this; exact this.1.symm
    rw [hdecl] at hown2
    rw [← e1]; exact Option.some.inj (hown.symm.trans hown2)
  have hif2 := hif
  dsimp only at hif2
  rw [zOwn ci h1 q h2] at hif2
  have hz := zfit_ok hfit bs b
  have h6 := u_fits hfc hkC hkind (Or.inr hlay) hif (hty q h2) hz.1 hz.2
  refine W.putFinK hx hb hown (hts _ (h3 rfl)) hif2 hst hcf (hin2 hin) (by rw [q2]; exact h6) q1 q3 (by rw [hsl]; exact k2_hasslot (q4 q h2)) rfl rfl hd fun H' e1 e2 e3 => ?_
  rw [hsl] at e1 ⊢
  refine k _ _ _ _ _ _ _ _ _ _ _ _ _ _ _ _ hC hret H' _ lsA (hH.set hak ⟨_, hcl, t_OB.to (V := updV (vp_V (vs.map (zvv bs b))) q (zvv bs b v)) ⟨_, e1, q2, q3, t_set q4 hap h2 _⟩ (fun j _ => ?_)⟩ e2 e3) (hS.put e2 e3 (Nat.le_add_right _ _)) hl hn hkc hks
  rw [List.map_set]
  exact vp_updV_set (by rw [List.length_map]; exact hq) _ j
theorem zr_iald {a n : Nat} {g : Nat → Int32} {i : Int32} (hd : decode (zB j) pc = .ok (.iaload, 1)) (hf : f a = some (zA n g)) (hin : vp_in i n) (k : Zv X j (pc + 1) ls (zi (g i.toNatClampNeg) :: st) sz f kc ks P) : Zv X j pc ls (zi i :: zr a :: st) sz f kc ks P := by
  intro p l e R s m args below meth c D cI cQ bs b Q hC hret H locs lsA hH hS hl hn hkc hks
  exact va_iald hC.1 hC.2.1 hC.2.2.2.2.2.2.2.1 (va_one (hH.2 a _ hf).2) 0 0 rfl rfl hin hd (k _ _ _ _ _ _ _ _ _ _ _ _ _ _ _ _ hC hret H locs lsA hH hS hl hn hkc hks)
theorem zr_sld {L : Nat} {xs : Nat → Int32} {i : Int32} (hd : decode (zB j) pc = .ok (.iaload, 1)) (hin : vp_in i L) (k : Zv (some (L, xs)) j (pc + 1) ls (zi (xs i.toNatClampNeg) :: st) sz f kc ks P) : Zv (some (L, xs)) j pc ls (zi i :: zsc :: st) sz f kc ks P := by
  intro p l e R s m args below meth c D cI cQ bs b Q hC hret H locs lsA hH hS hl hn hkc hks
  obtain ⟨hx, hb, -, -, -, -, -, -, hbs, -, hX, hbb⟩ := id hC
  exact va_sld hx hb hX (by omega) (Nat.not_le.mpr hbb) hS hin hd (k _ _ _ _ _ _ _ _ _ _ _ _ _ _ _ _ hC hret H locs lsA hH hS hl hn hkc hks)
theorem zr_slen {L : Nat} {xs : Nat → Int32} (hd : decode (zB j) pc = .ok (.arraylength, 1)) (k : Zv (some (L, xs)) j (pc + 1) ls (zi (nI L) :: st) sz f kc ks P) : Zv (some (L, xs)) j pc ls (zsc :: st) sz f kc ks P := by
  intro p l e R s m args below meth c D cI cQ bs b Q hC hret H locs lsA hH hS hl hn hkc hks
  obtain ⟨hx, hb, -, -, -, -, -, -, hbs, -, hX, hbb⟩ := id hC
  exact va_slen hx hb hX (by omega) (Nat.not_le.mpr hbb) hS hd (k _ _ _ _ _ _ _ _ _ _ _ _ _ _ _ _ hC hret H locs lsA hH hS hl hn hkc hks)
theorem zr_alen {a n : Nat} {g : Nat → Int32} (hd : decode (zB j) pc = .ok (.arraylength, 1)) (hf : f a = some (zA n g)) (k : Zv X j (pc + 1) ls (zi (nI n) :: st) sz f kc ks P) : Zv X j pc ls (zr a :: st) sz f kc ks P := by
  intro p l e R s m args below meth c D cI cQ bs b Q hC hret H locs lsA hH hS hl hn hkc hks
  exact va_alen hC.1 hC.2.1 hC.2.2.2.2.2.2.2.1 (va_one (hH.2 a _ hf).2) 0 0 rfl rfl rfl hd (k _ _ _ _ _ _ _ _ _ _ _ _ _ _ _ _ hC hret H locs lsA hH hS hl hn hkc hks)
theorem zr_alenQ {a n : Nat} {g : Nat → Option Nat} (hd : decode (zB j) pc = .ok (.arraylength, 1)) (hf : f a = some (zQ n g)) (k : Zv X j (pc + 1) ls (zi (nI n) :: st) sz f kc ks P) : Zv X j pc ls (zr a :: st) sz f kc ks P := by
  intro p l e R s m args below meth c D cI cQ bs b Q hC hret H locs lsA hH hS hl hn hkc hks
  exact va_alen hC.1 hC.2.1 hC.2.2.2.2.2.2.2.1 (va_one (hH.2 a _ hf).2) 0 1 rfl rfl rfl hd (k _ _ _ _ _ _ _ _ _ _ _ _ _ _ _ _ hC hret H locs lsA hH hS hl hn hkc hks)
theorem zr_iast {a n : Nat} {g : Nat → Int32} {i x : Int32} (hd : decode (zB j) pc = .ok (.iastore, 1)) (hf : f a = some (zA n g)) (hin : vp_in i n) (k : Zv X j (pc + 1) ls st sz (zup f a (zA n (upd g i.toNatClampNeg x))) kc ks P) : Zv X j pc ls (zi x :: zi i :: zr a :: st) sz f kc ks P := by
  intro p l e R s m args below meth c D cI cQ bs b Q hC hret H locs lsA hH hS hl hn hkc hks
  obtain ⟨hx, hb, -, hown, hts, -, hin2, hK, hbs, -⟩ := id hC
  obtain ⟨hak, ha⟩ := hH.2 a _ hf
  refine W.iast hx hb ha ((hK.2 0 _ rfl).1 n (fun j => .int (g j))) (fun q => by cases q) (by show ¬ (i < 0 ∨ (arrV _ _ _).slots.size ≤ _); rw [arrV_size]; exact hin) rfl rfl hd fun H1 e z oq => ?_
  refine k _ _ _ _ _ _ _ _ _ _ _ _ _ _ _ _ hC hret H1 _ lsA (hH.set hak ?_ z oq) (hS.put z oq (Nat.le_add_right _ _)) hl hn hkc hks
  show H1[bs + a]? = some (vp_cell _ _)
  rw [e]
  rw [vp_cell_i, vp_cell_i, arrV_store]
  congr 2
  funext q
  by_cases hq : q = i.toNatClampNeg
  · subst hq
    simp [updV, upd]
  · simp [updV, upd, hq]
theorem zr_aald {a n : Nat} {g : Nat → Option Nat} {i : Int32} (hd : decode (zB j) pc = .ok (.aaload, 1)) (hf : f a = some (zQ n g)) (hin : vp_in i n) (k : Zv X j (pc + 1) ls (zo (g i.toNatClampNeg) :: st) sz f kc ks P) : Zv X j pc ls (zi i :: zr a :: st) sz f kc ks P := by
  intro p l e R s m args below meth c D cI cQ bs b Q hC hret H locs lsA hH hS hl hn hkc hks
  have kk := k _ _ _ _ _ _ _ _ _ _ _ _ _ _ _ _ hC hret H locs lsA hH hS hl hn hkc hks
  refine va_aldq hC.1 hC.2.1 hC.2.2.2.2.2.2.2.1 (va_one (hH.2 a _ hf).2) 0 1 rfl rfl hin hd ?_
  cases hg : g i.toNatClampNeg with
  | none => rw [hg] at kk; exact kk
  | some q => rw [hg] at kk; exact kk
theorem zr_aast {a n v : Nat} {g : Nat → Option Nat} {vs : List ZVal} {i : Int32} (hd : decode (zB j) pc = .ok (.aastore, 1)) (hf : f a = some (zQ n g)) (hv : f v = some (zO 1 vs)) (hin : vp_in i n) (k : Zv X j (pc + 1) ls st sz (zup f a (zQ n (va_up g i.toNatClampNeg (some v)))) kc ks P) : Zv X j pc ls (zr v :: zi i :: zr a :: st) sz f kc ks P := by
  intro p l e R s m args below meth c D cI cQ bs b Q hC hret H locs lsA hH hS hl hn hkc hks
  obtain ⟨hx, hb, -, hown, hts, -, hin2, hK, hbs, -⟩ := id hC
  obtain ⟨hak, ha⟩ := hH.2 a _ hf
  obtain ⟨-, r', hr', cellV, g1, g2, g3, -⟩ := hH.2 v _ hv
  have hlt : i.toNatClampNeg < n := Nat.not_le.mp fun q => hin (Or.inr q)
  have h0 : ¬ i < 0 := fun q => hin (Or.inl q)
  have hcls := (hK.1 1 _ (zTyk 1 (by decide)).2.2).2
  obtain ⟨kA, comp, k1, k2, k3, -⟩ := (hK.2 1 _ rfl).2
  have hcomp : comp = D.1 1 := Option.some.inj (k3.symm.trans hcls.1)
  subst hcomp
  obtain ⟨kC, hkC, -⟩ := hcls.2
  refine W.aast hx hb ha (fun q h => by cases h) (fun h => by cases h) k1 k2 rfl hkC ⟨h0, by show _ < (arrV _ _ _).slots.size; rw [arrV_size]; exact hlt⟩ g1 (fun q h => by rw [g3] at h; cases h) (by rw [g2]; exact hkC) (by rw [g2]; exact va_assign hcls) rfl rfl hd fun H1 e z oq => ?_
  refine k _ _ _ _ _ _ _ _ _ _ _ _ _ _ _ _ hC hret H1 _ lsA (hH.set hak ?_ z oq) (hS.put z oq (Nat.le_add_right _ _)) hl hn hkc hks
  show H1[bs + a]? = some (vp_cell _ _)
  rw [e, vp_cell_q, vp_cell_q, arrV_store]
  congr 2
  funext q
  by_cases hq : q = i.toNatClampNeg
  · subst hq
    simp [updV, va_up, va_rf]
  · simp [updV, va_up, hq]
def zdv (ty : FieldType) : ZVal := match ty with
  | .int => zi 0
  | _ => zu
def zdf (ci : Nat) : List ZVal := (List.range (zCl ci).2.2).map (fun k => zdv (zty ci k))
def zplain (ty : FieldType) : Bool := match ty with
  | .int => true
  | .object _ => true
  | .array _ => true
  | _ => false
theorem zplain_all : ∀ ci, ci < 7 → ∀ k, k < (zCl ci).2.2 → zplain (zty ci k) = true := by decide +kernel
theorem zdf_ok {ci : Nat} (h : ci < 7) (bs b : Nat) : ∀ k, k < (zCl ci).2.2 → defaultValue (zty ci k) = vp_V ((zdf ci).map (zvv bs b)) k := by
  intro k hk
  have hp := zplain_all ci h k hk
  have e : ((zdf ci).map (zvv bs b))[k]? = some (zvv bs b (zdv (zty ci k))) := by
    simp [zdf, hk]
  unfold vp_V
  rw [List.getD_eq_getElem?_getD, e]
  unfold zplain at hp
  split at hp
  · rename_i h1; rw [h1]; rfl
  · rename_i h1; rw [h1]; rfl
  · rename_i h1; rw [h1]; rfl
  · cases hp
theorem zr_new {i ix ci : Nat} {ps : Nat × Nat × Nat} (hd : decode (zB j) pc = .ok (.new ix, 3)) (hi : zNtab[i]? = some ((zC j, ix), ci, ps)) (hr : kc + 1 ≤ zMc j ∧ ks + (zCl ci).2.2 ≤ zMs j) (k : Zv X j (pc + 3) ls (zr sz :: st) (sz + 1) (zup f sz (zO ci (zdf ci))) (kc + 1) (ks + (zCl ci).2.2) P) : Zv X j pc ls st sz f kc ks P := by
  intro p l e R s m args below meth c D cI cQ bs b Q hC hret H locs lsA hH hS hl hn hkc hks
  obtain ⟨hx, hb, -, hown, hts, -, hin2, hK, hbs, hR, -⟩ := id hC
  have h1 := List.all_eq_true.mp zNtab_ok _ (List.mem_of_getElem? hi)
  obtain ⟨p0, p1, p2⟩ := ps
  simp only [zNtabOk, Bool.and_eq_true, decide_eq_true_eq] at h1
  obtain ⟨⟨hci, w1⟩, w2, w3⟩ := h1
  obtain ⟨hty, hnm, hcl⟩ := zTyk ci hci
  have hKn := hK.1 ci _ hcl
  refine W.newcK hx hb hown (hts _ (zT_in (List.mem_of_getElem? w1.1) w1.2)) (hts _ (zT_in (List.mem_of_getElem? w2.1) w2.2)) (hts _ (zT_in (List.mem_of_getElem? w3.1) w3.2)) rfl hd (by omega) (by omega) hKn.2.1 (h := bs + sz) hH.1 fun H1 kC hkC e1 z1 o1 => ?_
  refine k _ _ _ _ _ _ _ _ _ _ _ _ _ _ _ _ hC hret H1 _ lsA (hH.push ?_ (by rw [z1, hH.1]) (fun q hq => o1 q (by rw [← hH.1]; exact hq))) ⟨Nat.le_trans hS.1 (by rw [z1, hH.1]; omega), fun x h1 h2 => (o1 x (by rw [← hH.1]; exact Nat.lt_of_lt_of_le h1 hS.1)).trans (hS.2.1 x h1 h2), hS.2.2⟩ hl hn hr.1 hr.2
  exact ⟨_, hcl, (u_born (zty ci) hts (zWk ci hci) hKn hkC e1 hty).to (zdf_ok hci bs b)⟩
theorem zr_newa {n : Int32} {N : Nat} (hd : decode (zB j) pc = .ok (.newarray .int, 2)) (hn0 : ¬ n < 0) (hN : n.toNatClampNeg = N) (hN2 : N ≤ 100000) (hr : kc + 1 ≤ zMc j ∧ ks + N ≤ zMs j) (k : Zv X j (pc + 2) ls (zr sz :: st) (sz + 1) (zup f sz (zA N (fun _ => 0))) (kc + 1) (ks + N) P) : Zv X j pc ls (zi n :: st) sz f kc ks P := by
  intro p l e R s m args below meth c D cI cQ bs b Q hC hret H locs lsA hH hS hl hn hkc hks
  obtain ⟨hx, hb, -, hown, hts, -, hin2, hK, hbs, hR, -⟩ := id hC
  refine va_newaK (atype := .int) hx hb (hts _ zT_arr) rfl hd rfl hn0 hN (by show N * 4 ≤ _; omega) (by omega) (by omega) (h := bs + sz) hH.1 fun H1 cA e1 z1 o1 hAr hNm => ?_
  have hcA : cA = cI := Option.some.inj (hNm.symm.trans (hK.2 0 _ rfl).2)
  subst hcA
  refine k _ _ _ _ _ _ _ _ _ _ _ _ _ _ _ _ hC hret H1 _ lsA (hH.push ?_ (by rw [z1, hH.1]) (fun q hq => o1 q (by rw [← hH.1]; exact hq))) ⟨Nat.le_trans hS.1 (by rw [z1, hH.1]; omega), fun x h1 h2 => (o1 x (by rw [← hH.1]; exact Nat.lt_of_lt_of_le h1 hS.1)).trans (hS.2.1 x h1 h2), hS.2.2⟩ hl hn hr.1 hr.2
  exact e1
theorem zr_newq {i ix p0 : Nat} {n : Int32} {N : Nat} (hd : decode (zB j) pc = .ok (.anewarray ix, 3)) (hi : zAtab[i]? = some ((zC j, ix), p0)) (hn0 : ¬ n < 0) (hN : n.toNatClampNeg = N) (hN2 : N ≤ 100000) (hr : kc + 1 ≤ zMc j ∧ ks + N ≤ zMs j) (k : Zv X j (pc + 3) ls (zr sz :: st) (sz + 1) (zup f sz (zQ N (fun _ => none))) (kc + 1) (ks + N) P) : Zv X j pc ls (zi n :: st) sz f kc ks P := by
  intro p l e R s m args below meth c D cI cQ bs b Q hC hret H locs lsA hH hS hl hn hkc hks
  obtain ⟨hx, hb, -, hown, hts, hNw, hin2, hK, hbs, hR, -⟩ := id hC
  have h1 := List.all_eq_true.mp zAtab_ok _ (List.mem_of_getElem? hi)
  simp only [zAtabOk, Bool.and_eq_true, decide_eq_true_eq] at h1
  subst hN
  refine W.anew hx hb hown (hts _ (zT_in (List.mem_of_getElem? h1.1) h1.2)) (va_AO.use (hNw _ (List.mem_filter.mpr ⟨zT_over, rfl⟩))) rfl hd rfl hn0 (by omega) (by omega) (by omega) fun cA kA comp f1 f2 f3 f4 => ?_
  obtain ⟨kA', comp', k1, k2, k3, k4⟩ := (hK.2 1 _ rfl).2
  have hcA : cA = cQ := Option.some.inj (f1.symm.trans k4)
  subst hcA
  generalize hH1 : H.push ({ cls := cA, slots := Array.replicate n.toNatClampNeg .null, vm := .none } : Cell) = H1
  have z1 : H1.size = H.size + 1 := by rw [← hH1, Array.size_push]
  have e1 : H1[H.size]? = some (arrV cA n.toNatClampNeg (fun _ => .null)) := by rw [← hH1, Array.getElem?_push_size, ← arrV_new]
  have o1 : ∀ q : Nat, q < H.size → H1[q]? = H[q]? := fun q hq => by rw [← hH1, Array.getElem?_push, if_neg (Nat.ne_of_lt hq)]
  rw [hH.1] at e1 ⊢
  refine k _ _ _ _ _ _ _ _ _ _ _ _ _ _ _ _ hC hret H1 _ lsA (hH.push ?_ z1 o1) ⟨Nat.le_trans hS.1 (by omega), fun x h1 h2 => (o1 x (Nat.lt_of_lt_of_le h1 hS.1)).trans (hS.2.1 x h1 h2), hS.2.2⟩ hl hn hr.1 hr.2
  show H1[bs + sz]? = some (vp_cell _ _)
  rw [e1, vp_cell_q]
  rfl
/-- what a method's contract takes and gives -/
def zWs (t : Nat) : List Cond := Cond.code (zy t) (zB t) (zML t) (zRet t) :: zT
def zPre (D : va_G) (cI cQ : ClassId) (bs b sz : Nat) (f : ZH) (U : State) : Prop := zHp D cI cQ bs b sz f U.heap ∧ va_K D vwCl (zTys cI cQ) U ∧ ∀ w ∈ zNs, va_Nw w U
def zPost (D : va_G) (cI cQ : ClassId) (bs b : Nat) (P : Option ZVal → Nat → ZH → Prop) : Array Value → State → Outcome → State → Prop := fun _ st o t => (∃ (r : Option ZVal) (sz : Nat) (f : ZH), o = .returned (r.map (zvv bs b)) ∧ P r sz f ∧ zHp D cI cQ bs b sz f t.heap) ∧ va_F (fun q => bs ≤ q) st t
theorem zMt {t : Nat} (ht : t < 125) : (plainFor (zy t) = true ∧ (zy t).cls = zRn (zC t) ∧ ((zy t).cls ≠ "java/lang/invoke/MethodHandle" ∧ (zy t).cls ≠ "java/lang/invoke/VarHandle") ∧ (parseMethodDescriptor (zy t).desc).map (fun d => d.parameters.length) = some (zNp t)) ∧ Cond.initialized (zy t).cls ∈ zT := by
  have hl : zMtab.map (·.1) = List.range 125 := by decide +kernel
  obtain ⟨q, hq, rfl⟩ := List.mem_map.mp (by rw [hl]; exact List.mem_range.mpr ht : t ∈ zMtab.map (·.1))
  have h1 := List.all_eq_true.mp zMtab_ok q hq
  simp only [zMtabOk, zMok, Bool.and_eq_true, decide_eq_true_eq] at h1
  obtain ⟨⟨⟨⟨⟨h1, h2⟩, h3⟩, h4⟩, h5⟩, h6, h7⟩ := h1
  exact ⟨⟨h1, h2, ⟨h3, h4⟩, h5⟩, zT_in (List.mem_of_getElem? h6) h7⟩
theorem zMet {t : Nat} (ht : t < 125) {as : List ZVal} {ls0 : List (Option ZVal)} (hls : ls0 = as.map some ++ List.replicate (zML t - as.length) none) (hal : as.length ≤ zML t) (k : Zv none t 0 ls0 [] sz f 0 0 P) (l : Launch) (D : va_G) (cI cQ : ClassId) (bs b : Nat) :
    Met l (zy t) (zWs t) (zRm t) (va_Pc (as.map (zvv bs b)) (zPre D cI cQ bs b sz f)) (zPost D cI cQ bs b P) (zMc t) (zMs t) (fun q => bs ≤ q) := by
  obtain ⟨⟨hpf, hcl, -, -⟩, -⟩ := zMt ht
  refine va_MetF (cc := zB t) (maxL := zML t) (ret := zRet t) hpf rfl ?_
  intro p e s m args below meth c s₁ B hml hv
  obtain ⟨rfl, hH, hK, hN⟩ := hv
  have hb := B.bytes
  have hx := B.exec
  have hr := B.returns
  have hlocks := B.notSynchronized
  have hts := atoms_spec (ws := zWs t) B.pre
  have hown : s.vm.findClass (zy t).cls = some m.cls := findClass_of_methodNamed B.named
  have hin : meth.name = (zy t).name := (name_of_methodNamed B.named B.method).1
  have hl := lv_entry (as.map (zvv bs b)) (n := zML t) (by rw [zsl_len]; exact hal)
  rw [lg_entry_eq]
  generalize (lg_sl (as.map (zvv bs b)) ++ List.replicate (zML t - (lg_sl (as.map (zvv bs b))).length) Slot.unset).toArray = lsA at hl ⊢
  refine k p l e _ s m _ below meth c D cI cQ bs b _ ⟨hx, hb, hml, by rw [← hcl]; exact hown, fun w hw => hts w (List.mem_cons_of_mem _ hw), hN, fun h => by rw [hin]; exact h, hK, by rw [hH.1]; exact Nat.le_add_right _ _, ⟨Nat.le_refl _, Nat.le_refl _, Nat.le_refl _, Nat.le_refl _⟩, trivial⟩ ?_ s.heap [] lsA hH va_S.rf ?_ ?_ (Nat.zero_le _) (Nat.zero_le _)
  · intro r sz' f' hP pc H locs lsA kc ks hH1 hS1 hkc hks hins
    refine W.widen hkc hks ?_
    have hq : ∀ (v : Option Value) (t' : State), v = r.map (zvv bs b) → t'.heap = H → s.WarmedH t'.vm → zPost D cI cQ bs b P (as.map (zvv bs b)).toArray s (.returned v) t' := fun v t' hv ht' _ => ⟨⟨r, sz', f', by rw [hv], hP, by rw [ht']; exact hH1⟩, hS1.F ht'⟩
    rcases hins with ⟨x, ty, rfl, h2, h3, h4⟩ | ⟨rfl, h2, h4⟩ | ⟨C, o, h2, rfl, h4⟩
    · exact W.zret hx hb (hr.trans h2) h3 (fun t' h5 h6 => hq _ t' rfl h5 h6) hS1.2.2 h4
    · exact W.vret hx hb (hr.trans h2) (fun t' h5 h6 => hq _ t' rfl h5 h6) hS1.2.2 h4
    · cases o with
      | none => exact W.aret (v := .null) hx hb (hr.trans h2) (Or.inl ⟨_, rfl⟩) (Or.inl rfl) (fun t' h5 h6 => hq _ t' rfl h5 h6) hS1.2.2 h4
      | some a => exact W.aret (v := .ref (bs + a)) hx hb (hr.trans h2) (Or.inl ⟨_, rfl⟩) (Or.inr ⟨_, rfl⟩) (fun t' h5 h6 => hq _ t' rfl h5 h6) hS1.2.2 h4
  · rw [hls, zargs]; exact hl
  · rw [hls, List.length_append, List.length_map, List.length_replicate]; omega
theorem zPc_blind {av : List Value} {D : va_G} {cI cQ : ClassId} {bs b : Nat} : FrameBlind (va_Pc av (zPre D cI cQ bs b sz f)) := by
  intro a U g mk h
  obtain ⟨h1, h2, h3, h4⟩ := h
  exact ⟨h1, h2, va_K.moved (u := U) (U := U.calling g mk a) (Vm.Alike.refl U.vm) h3, fun w hw => zNw_same (u := U) (U := U.calling g mk a) (List.mem_filter.mp hw).2 rfl (h4 w hw)⟩
theorem zGood (t : Nat) (ht : t < 125) : GoodIn zT (zWs t) := by
  intro w hw
  rcases List.mem_cons.mp hw with rfl | h
  · exact ⟨zMcode t ht, Or.inl rfl⟩
  · exact ⟨h, zT_good w h⟩
theorem zRet_go {p : Program} {l : Launch} {e : Env} {R : Room} {s : State} {m : MethodId} {args : Array Value} {below : List Frame} {meth : Method} {c : Code} {D : va_G} {cI cQ : ClassId} {bs b t : Nat} {Q : State → Prop} (hC : zCx X j p R s m args meth c D cI cQ bs b)
    (hret : ∀ (r : Option ZVal) (sz' : Nat) (f' : ZH), P r sz' f' → ∀ (pc : Nat) (H : Heap) (locs : List Loc) (lsA : Array Slot) (kc ks : Nat), zHp D cI cQ bs b sz' f' H → va_S (fun q => bs ≤ q) s.heap H locs → kc ≤ zMc j → ks ≤ zMs j → zRins j r pc → W p l e R s m args below meth c H locs kc ks Q (F0 m pc lsA (r.toList.map (zvv bs b))))
    {H : Heap} {locs : List Loc} {lsA : Array Slot} (hS : va_S (fun q => bs ≤ q) s.heap H locs) (hl : lv_has lsA (zML j) (zprs (zvv bs b) 0 ls)) (hn : ls.length = zML j) {rest : List ZVal} {stA : List Value} {a : Array Value}
    (hkk : kc + zMc t ≤ zMc j ∧ ks + zMs t ≤ zMs j) (hr : va_Run p l e R s m args below meth c H locs kc ks (zMc t) (zMs t) (F0 m pc lsA stA) (rest.map (zvv bs b)) (zPost D cI cQ bs b (fun r sz' f' => Zv X j (pc + 3) ls (zpush r rest) sz' f' (kc + zMc t) (ks + zMs t) P) a) (fun q => bs ≤ q)) : W p l e R s m args below meth c H locs kc ks Q (F0 m pc lsA stA) := by
  intro T hT XT
  obtain ⟨v, st₀, t', T', L, h0, X', hL, e1, e2, ⟨⟨r, sz', f', hv, hp, hb⟩, hz, hk⟩, st⟩ := hr T hT XT
  have hv : v = r.map (zvv bs b) := by
    have h := hv
    simp only [Outcome.returned.injEq] at h
    exact h
  subst hv
  rw [h0] at hz hk
  have hS' : va_S (fun q => bs ≤ q) s.heap T'.heap (locs ++ L) := ⟨Nat.le_trans hS.1 (by rw [e1]; exact hz), fun q h1 h2 => by rw [e1, hk q (Nat.lt_of_lt_of_le h1 hS.1) h2]; exact hS.2.1 q h1 h2, fun q hq => by
    rcases List.mem_append.mp hq with h | h
    · exact hS.2.2 q h
    · exact hL q h⟩
  have kk := hp _ _ _ _ _ _ _ _ _ _ _ _ _ _ _ _ hC hret T'.heap (locs ++ L) lsA (by rw [e1]; exact hb) hS' hl hn hkk.1 hkk.2
  have hst : (zpush r rest).map (zvv bs b) = (r.map (zvv bs b)).toList ++ rest.map (zvv bs b) := by cases r <;> rfl
  rw [hst] at kk
  obtain ⟨t2, a1, b1⟩ := kk T' rfl X'
  exact ⟨t2, st t2 a1, b1⟩
theorem zCt {i c ix k t p0 p1 p2 : Nat} (h : zCtab[i]? = some ((c, ix), (k, t), (p0, p1, p2))) : zCtabOk ((c, ix), (k, t), (p0, p1, p2)) = true := List.all_eq_true.mp zCtab_ok _ (List.mem_of_getElem? h)
/-- the frames and the words of locals that a callee wants -/
def zRoom (t j : Nat) : Prop := zRf t + 1 ≤ zRf j ∧ 8 + (zML t + 11) + zRl t ≤ zRl j
theorem zr_callS {i ix t : Nat} {ps : Nat × Nat × Nat} {as rest : List ZVal} {ls0 : List (Option ZVal)} (hd : decode (zB j) pc = .ok (.invokestatic ix, 3)) (hi : zCtab[i]? = some ((zC j, ix), (1, t), ps)) (ht : t < 125) (hn1 : as.length = zNp t) (hrest : rest.length ≤ 8) (hroom : zRoom t j) (hkk : kc + zMc t ≤ zMc j ∧ ks + zMs t ≤ zMs j) (hls : ls0 = as.map some ++ List.replicate (zML t - as.length) none) (hal : as.length ≤ zML t)
    (k : Zv none t 0 ls0 [] sz f 0 0 (fun r sz' f' => Zv X j (pc + 3) ls (zpush r rest) sz' f' (kc + zMc t) (ks + zMs t) P)) : Zv X j pc ls (as.reverse ++ rest) sz f kc ks P := by
  intro p l e R s m args below meth c D cI cQ bs b Q hC hret H locs lsA hH hS hl hn hkc hks
  obtain ⟨hx, hb, hml, hown, hts, hN, -, hK, hbs, hR, -⟩ := id hC
  obtain ⟨p0, p1, p2⟩ := ps
  have h1 := zCt hi
  simp only [zCtabOk, Bool.and_eq_true, decide_eq_true_eq] at h1
  obtain ⟨w1, w2⟩ := h1
  obtain ⟨⟨-, -, hmh, hnp⟩, hini⟩ := zMt ht
  have hM := zMet ht hls hal k l D cI cQ bs b
  have hG : GoodIn zT (va_wsS (zRn (zC j)) ix (zy t) (zWs t)) := by
    intro w hw
    rcases List.mem_append.mp hw with h | h
    · have hw2 : w ∈ zT := by
        simp only [List.mem_cons, List.not_mem_nil, or_false] at h
        rcases h with rfl | rfl | rfl
        · exact zT_in (List.mem_of_getElem? w1.1) w1.2
        · exact zT_in (List.mem_of_getElem? w2.1) w2.2
        · exact hini
      exact ⟨hw2, zT_good w hw2⟩
    · exact zGood t ht w h
  have cw := va_cwS (R := R) (rm := zRm t) (mc := zMc t) (ms := zMs t) (zNp t) hts hG rfl rfl rfl ⟨hmh.1, hmh.2, hnp⟩ ⟨Nat.le_trans hroom.1 hR.1, Nat.le_trans hroom.2 hR.2.1⟩
  refine zRet_go hC hret hS hl hn hkk (va_runS (As := as.map (zvv bs b)) (rest := rest.map (zvv bs b)) ⟨hx, hb, hml, hown, hts⟩ hM cw ⟨zPc_blind, fun U hU hW => ⟨rfl, by rw [hU]; exact hH, va_K.moved hW.alike hK, fun w hw => zNw_warm (List.mem_filter.mp hw).2 hW (hN w hw)⟩⟩ rfl (by rw [List.length_map]; exact hn1) hl.1 (by rw [List.map_append, List.map_reverse]) (lv_room (by rw [zvv_sum]; exact hrest)) hd ⟨Nat.le_trans hkk.1 hR.2.2.1, Nat.le_trans hkk.2 hR.2.2.2⟩)
theorem zr_callV {i ix t a : Nat} {ps : Nat × Nat × Nat} {as rest vs : List ZVal} {ls0 : List (Option ZVal)} (hd : decode (zB j) pc = .ok (.invokevirtual ix, 3)) (hi : zCtab[i]? = some ((zC j, ix), (0, t), ps)) (ht : t < 125) (hct : zC t < 7) (hn1 : as.length = zNp t) (hrest : rest.length ≤ 8) (hroom : zRoom t j) (hkk : kc + zMc t ≤ zMc j ∧ ks + zMs t ≤ zMs j) (hls : ls0 = (zr a :: as).map some ++ List.replicate (zML t - (zr a :: as).length) none) (hal : (zr a :: as).length ≤ zML t) (hcl1 : (zCl (zC t)).1 = (zy t).cls) (hf : f a = some (zO (zC t) vs))
    (k : Zv none t 0 ls0 [] sz f 0 0 (fun r sz' f' => Zv X j (pc + 3) ls (zpush r rest) sz' f' (kc + zMc t) (ks + zMs t) P)) : Zv X j pc ls (as.reverse ++ zr a :: rest) sz f kc ks P := by
  intro p l e R s m args below meth c D cI cQ bs b Q hC hret H locs lsA hH hS hl hn hkc hks
  obtain ⟨hx, hb, hml, hown, hts, hN, -, hK, hbs, hR, -⟩ := id hC
  obtain ⟨p0, p1, p2⟩ := ps
  have h1 := zCt hi
  simp only [zCtabOk, Bool.and_eq_true, decide_eq_true_eq] at h1
  obtain ⟨w1, w2, w3⟩ := h1
  obtain ⟨⟨-, -, hmh, hnp⟩, hini⟩ := zMt ht
  have hM := zMet ht hls hal k l D cI cQ bs b
  have hG : GoodIn zT (wsV (zRn (zC j)) ix (zy t).cls (zy t) (zWs t)) := by
    intro w hw
    rcases List.mem_append.mp hw with h | h
    · have hw2 : w ∈ zT := by
        simp only [List.mem_cons, List.not_mem_nil, or_false] at h
        rcases h with rfl | rfl | rfl | rfl
        · exact zT_in (List.mem_of_getElem? w1.1) w1.2
        · exact zT_in (List.mem_of_getElem? w2.1) w2.2
        · exact zT_in (List.mem_of_getElem? w3.1) w3.2
        · exact hini
      exact ⟨hw2, zT_good w hw2⟩
    · exact zGood t ht w h
  have cw := cwV (R := R) (rm := zRm t) (mc := zMc t) (ms := zMs t) (zNp t) hts hG rfl rfl rfl ⟨rfl, hmh.1, hmh.2, hnp⟩ ⟨Nat.le_trans hroom.1 hR.1, Nat.le_trans hroom.2 hR.2.1⟩
  have hrv := va_recv hK (va_one (hH.2 a _ hf).2) (zTyk (zC t) hct).2.2 (q0 := 0) rfl
  rw [show ((zCl (zC t)).1, (zCl (zC t)).2.1, (zCl (zC t)).2.2).1 = (zy t).cls from hcl1] at hrv
  refine zRet_go hC hret hS hl hn hkk (va_runV (b := bs + a) (As := as.map (zvv bs b)) (rest := rest.map (zvv bs b)) ⟨hx, hb, hml, hown, hts⟩ hM cw ⟨zPc_blind, hrv, fun U hU hW => ⟨rfl, by rw [hU]; exact hH, va_K.moved hW.alike hK, fun w hw => zNw_warm (List.mem_filter.mp hw).2 hW (hN w hw)⟩⟩ rfl (by rw [List.length_map]; exact hn1) hl.1 (by rw [List.map_append, List.map_reverse]; rfl) (lv_room (by rw [zvv_sum]; exact hrest)) hd ⟨Nat.le_trans hkk.1 hR.2.2.1, Nat.le_trans hkk.2 hR.2.2.2⟩)
theorem zr_callI {i ix t a : Nat} {ps : Nat × Nat × Nat} {as rest : List ZVal} {ls0 : List (Option ZVal)} (hd : decode (zB j) pc = .ok (.invokespecial ix, 3)) (hi : zCtab[i]? = some ((zC j, ix), (2, t), ps)) (ht : t < 125) (hn1 : as.length = zNp t) (hrest : rest.length ≤ 8) (hroom : zRoom t j) (hkk : kc + zMc t ≤ zMc j ∧ ks + zMs t ≤ zMs j) (hls : ls0 = (zr a :: as).map some ++ List.replicate (zML t - (zr a :: as).length) none) (hal : (zr a :: as).length ≤ zML t)
    (k : Zv none t 0 ls0 [] sz f 0 0 (fun r sz' f' => Zv X j (pc + 3) ls (zpush r rest) sz' f' (kc + zMc t) (ks + zMs t) P)) : Zv X j pc ls (as.reverse ++ zr a :: rest) sz f kc ks P := by
  intro p l e R s m args below meth c D cI cQ bs b Q hC hret H locs lsA hH hS hl hn hkc hks
  obtain ⟨hx, hb, hml, hown, hts, hN, -, hK, hbs, hR, -⟩ := id hC
  obtain ⟨p0, p1, p2⟩ := ps
  have h1 := zCt hi
  simp only [zCtabOk, Bool.and_eq_true, decide_eq_true_eq] at h1
  obtain ⟨w1, w2, w3, w4⟩ := h1
  obtain ⟨⟨-, -, hmh, hnp⟩, hini⟩ := zMt ht
  have hM := zMet ht hls hal k l D cI cQ bs b
  have cw := cwI (R := R) (rm := zRm t) (mc := zMc t) (ms := zMs t) (own := zRn (zC j)) (index := ix) (y := zy t) (bytes := zB t) (maxL := zML t) (ws' := zT) (zNp t) hts (zGood t ht) (by rw [← w4]; rfl) rfl rfl (hts _ hini) (hts _ (zT_in (List.mem_of_getElem? w1.1) w1.2)) (hts _ (zT_in (List.mem_of_getElem? w2.1) w2.2)) w3 ⟨hmh.1, hmh.2, hnp⟩ ⟨Nat.le_trans hroom.1 hR.1, Nat.le_trans hroom.2 hR.2.1⟩
  refine zRet_go hC hret hS hl hn hkk (va_runI (b := bs + a) (As := as.map (zvv bs b)) (rest := rest.map (zvv bs b)) ⟨hx, hb, hml, hown, hts⟩ hM cw ⟨zPc_blind, fun U hU hW => ⟨rfl, by rw [hU]; exact hH, va_K.moved hW.alike hK, fun w hw => zNw_warm (List.mem_filter.mp hw).2 hW (hN w hw)⟩⟩ rfl (by rw [List.length_map]; exact hn1) hl.1 (by rw [List.map_append, List.map_reverse]; rfl) (lv_room (by rw [zvv_sum]; exact hrest)) hd ⟨Nat.le_trans hkk.1 hR.2.2.1, Nat.le_trans hkk.2 hR.2.2.2⟩)
theorem zr_callSN {i ix t : Nat} {ps : Nat × Nat × Nat} {as rest : List ZVal} {ls0 : List (Option ZVal)} (hd : decode (zB j) pc = .ok (.invokestatic ix, 3)) (hi : zCtab[i]? = some ((zC j, ix), (4, t), ps)) (ht : t < 125) (hn1 : as.length = zNp t) (hrest : rest.length ≤ 8) (hroom : zRoom t j) (hkk : kc + zMc t ≤ zMc j ∧ ks + zMs t ≤ zMs j) (hls : ls0 = as.map some ++ List.replicate (zML t - as.length) none) (hal : as.length ≤ zML t)
    (k : Zv none t 0 ls0 [] sz f 0 0 (fun r sz' f' => Zv X j (pc + 3) ls (zpush r rest) sz' f' (kc + zMc t) (ks + zMs t) P)) : Zv X j pc ls (as.reverse ++ rest) sz f kc ks P := by
  intro p l e R s m args below meth c D cI cQ bs b Q hC hret H locs lsA hH hS hl hn hkc hks
  obtain ⟨hx, hb, hml, hown, hts, hN, -, hK, hbs, hR, -⟩ := id hC
  obtain ⟨p0, p1, p2⟩ := ps
  have h1 := zCt hi
  simp only [zCtabOk, Bool.and_eq_true, decide_eq_true_eq] at h1
  obtain ⟨w1, w2⟩ := h1
  obtain ⟨⟨-, -, hmh, hnp⟩, hini⟩ := zMt ht
  have hM := zMet ht hls hal k l D cI cQ bs b
  have cw := va_cnB (R := R) (rm := zRm t) (mc := zMc t) (ms := zMs t) (own := zRn (zC j)) (index := ix) (y := zy t) (host := RX5) (bytes := zB t) (maxL := zML t) (ret := zRet t) (ws' := zT) (zNp t) hts (zGood t ht) rfl rfl rfl (hN _ (zNs_in w1 rfl)) (hts _ hini) ⟨hmh.1, hmh.2, hnp⟩ ⟨Nat.le_trans hroom.1 hR.1, Nat.le_trans hroom.2 hR.2.1⟩
  refine zRet_go hC hret hS hl hn hkk (va_runSN (As := as.map (zvv bs b)) (rest := rest.map (zvv bs b)) ⟨hx, hb, hml, hown, hts⟩ hM ⟨cw, hts _ (zT_in (List.mem_of_getElem? w2.1) w2.2), trivial⟩ ⟨zPc_blind, fun U hU hW => ⟨rfl, by rw [hU]; exact hH, va_K.moved hW.alike hK, fun w hw => zNw_warm (List.mem_filter.mp hw).2 hW (hN w hw)⟩⟩ rfl (by rw [List.length_map]; exact hn1) hl.1 (by rw [List.map_append, List.map_reverse]) (lv_room (by rw [zvv_sum]; exact hrest)) hd ⟨Nat.le_trans hkk.1 hR.2.2.1, Nat.le_trans hkk.2 hR.2.2.2⟩)
theorem zr_callIN {i ix t a : Nat} {ps : Nat × Nat × Nat} {as rest : List ZVal} {ls0 : List (Option ZVal)} (hd : decode (zB j) pc = .ok (.invokespecial ix, 3)) (hi : zCtab[i]? = some ((zC j, ix), (5, t), ps)) (ht : t < 125) (hn1 : as.length = zNp t) (hrest : rest.length ≤ 8) (hroom : zRoom t j) (hkk : kc + zMc t ≤ zMc j ∧ ks + zMs t ≤ zMs j) (hls : ls0 = (zr a :: as).map some ++ List.replicate (zML t - (zr a :: as).length) none) (hal : (zr a :: as).length ≤ zML t)
    (k : Zv none t 0 ls0 [] sz f 0 0 (fun r sz' f' => Zv X j (pc + 3) ls (zpush r rest) sz' f' (kc + zMc t) (ks + zMs t) P)) : Zv X j pc ls (as.reverse ++ zr a :: rest) sz f kc ks P := by
  intro p l e R s m args below meth c D cI cQ bs b Q hC hret H locs lsA hH hS hl hn hkc hks
  obtain ⟨hx, hb, hml, hown, hts, hN, -, hK, hbs, hR, -⟩ := id hC
  obtain ⟨p0, p1, p2⟩ := ps
  have h1 := zCt hi
  simp only [zCtabOk, Bool.and_eq_true, decide_eq_true_eq] at h1
  obtain ⟨w1, w2, w3, w4⟩ := h1
  obtain ⟨⟨-, -, hmh, hnp⟩, hini⟩ := zMt ht
  have hM := zMet ht hls hal k l D cI cQ bs b
  have cw := va_cnB (R := R) (rm := zRm t) (mc := zMc t) (ms := zMs t) (own := zRn (zC j)) (index := ix) (y := zy t) (host := RX5) (bytes := zB t) (maxL := zML t) (ret := none) (ws' := zT) (zNp t) hts (zGood t ht) (by rw [← w4]; rfl) rfl rfl (hN _ (zNs_in w1 rfl)) (hts _ hini) ⟨hmh.1, hmh.2, hnp⟩ ⟨Nat.le_trans hroom.1 hR.1, Nat.le_trans hroom.2 hR.2.1⟩
  refine zRet_go hC hret hS hl hn hkk (va_runIN (b := bs + a) (As := as.map (zvv bs b)) (rest := rest.map (zvv bs b)) ⟨hx, hb, hml, hown, hts⟩ hM ⟨cw, w3, hts _ (zT_in (List.mem_of_getElem? w2.1) w2.2)⟩ ⟨zPc_blind, fun U hU hW => ⟨rfl, by rw [hU]; exact hH, va_K.moved hW.alike hK, fun w hw => zNw_warm (List.mem_filter.mp hw).2 hW (hN w hw)⟩⟩ rfl (by rw [List.length_map]; exact hn1) hl.1 (by rw [List.map_append, List.map_reverse]; rfl) (lv_room (by rw [zvv_sum]; exact hrest)) hd ⟨Nat.le_trans hkk.1 hR.2.2.1, Nat.le_trans hkk.2 hR.2.2.2⟩)
theorem zr_objInit {i ix a : Nat} {ps : Nat × Nat × Nat} {rest : List ZVal} (hd : decode (zB j) pc = .ok (.invokespecial ix, 3)) (hi : zCtab[i]? = some ((zC j, ix), (6, 0), ps)) (hrest : rest.length ≤ 8) (hroom : 1 ≤ zRf j ∧ 20 ≤ zRl j) (k : Zv X j (pc + 3) ls rest sz f kc ks P) : Zv X j pc ls (zr a :: rest) sz f kc ks P := by
  intro p l e R s m args below meth c D cI cQ bs b Q hC hret H locs lsA hH hS hl hn hkc hks
  obtain ⟨hx, hb, hml, hown, hts, hN, -, hK, hbs, hR, -⟩ := id hC
  obtain ⟨p0, p1, p2⟩ := ps
  have h1 := zCt hi
  simp only [zCtabOk, Bool.and_eq_true, decide_eq_true_eq] at h1
  refine W.objInit hx hb hown (hts _ (zT_in (List.mem_of_getElem? h1.1) h1.2)) (hts _ zT_obj.1) (hts _ zT_obj.2) rfl (by rw [hml]; exact hl.1) rfl hd (Nat.le_trans hroom.1 hR.1) ?_ (k _ _ _ _ _ _ _ _ _ _ _ _ _ _ _ _ hC hret H locs lsA hH hS hl hn hkc hks)
  have := lv_room (m := m) (pc := pc) (ls := lsA) (rest := (zr a :: rest).map (zvv bs b)) (st := rest.map (zvv bs b)) (by rw [zvv_sum]; exact hrest)
  omega
end ZR
end
