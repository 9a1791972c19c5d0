-- ===== PART A: goes FIRST, ahead of the names: the tables' words, and 'selects' of the private methods out of them =====
/-- a private method of a class that the tables say can be made, by its rows of tables_1 -/
def lw_okq (q : MethodName × Nat) : Prop := (q.1.cls ≠ "java/lang/invoke/MethodHandle" ∧ q.1.cls ≠ "java/lang/invoke/VarHandle") ∧ Cond.instantiable q.1.cls q.2 ∈ tables_1 ∧ Cond.privateMethod q.1 ∈ tables_1 ∧ Cond.instanceMethod q.1 ∈ tables_1
theorem lw_p0 : lw_okq (⟨"RimCoins$Tape", "readRun", "()V"⟩, 11) := ⟨⟨by decide +kernel, by decide +kernel⟩, List.mem_of_getElem? (i := 32) (by decide +kernel), List.mem_of_getElem? (i := 461) (by decide +kernel), List.mem_of_getElem? (i := 462) (by decide +kernel)⟩
theorem lw_p1 : lw_okq (⟨"RimCoins$Folk", "refresh", "()V"⟩, 9) := ⟨⟨by decide +kernel, by decide +kernel⟩, List.mem_of_getElem? (i := 93) (by decide +kernel), List.mem_of_getElem? (i := 524) (by decide +kernel), List.mem_of_getElem? (i := 525) (by decide +kernel)⟩
theorem lw_p2 : lw_okq (⟨"RimCoins$ValleyText", "readLine", "()Z"⟩, 8) := ⟨⟨by decide +kernel, by decide +kernel⟩, List.mem_of_getElem? (i := 480) (by decide +kernel), List.mem_of_getElem? (i := 547) (by decide +kernel), List.mem_of_getElem? (i := 548) (by decide +kernel)⟩
theorem lw_p3 : lw_okq (⟨"RimCoins$ValleyText", "readRim", "()Z"⟩, 8) := ⟨⟨by decide +kernel, by decide +kernel⟩, List.mem_of_getElem? (i := 480) (by decide +kernel), List.mem_of_getElem? (i := 563) (by decide +kernel), List.mem_of_getElem? (i := 564) (by decide +kernel)⟩
theorem lw_p4 : lw_okq (⟨"RimCoins$ValleyText", "takesNumber", "(II)Z"⟩, 8) := ⟨⟨by decide +kernel, by decide +kernel⟩, List.mem_of_getElem? (i := 480) (by decide +kernel), List.mem_of_getElem? (i := 568) (by decide +kernel), List.mem_of_getElem? (i := 569) (by decide +kernel)⟩
theorem lw_p5 : lw_okq (⟨"RimCoins$ValleyText", "seesNumber", "(II)Z"⟩, 8) := ⟨⟨by decide +kernel, by decide +kernel⟩, List.mem_of_getElem? (i := 480) (by decide +kernel), List.mem_of_getElem? (i := 572) (by decide +kernel), List.mem_of_getElem? (i := 573) (by decide +kernel)⟩
theorem lw_p6 : lw_okq (⟨"RimCoins$ValleyText", "readWho", "()Z"⟩, 8) := ⟨⟨by decide +kernel, by decide +kernel⟩, List.mem_of_getElem? (i := 480) (by decide +kernel), List.mem_of_getElem? (i := 576) (by decide +kernel), List.mem_of_getElem? (i := 577) (by decide +kernel)⟩
theorem lw_p7 : lw_okq (⟨"RimCoins$ValleyText", "readRoad", "()Z"⟩, 8) := ⟨⟨by decide +kernel, by decide +kernel⟩, List.mem_of_getElem? (i := 480) (by decide +kernel), List.mem_of_getElem? (i := 601) (by decide +kernel), List.mem_of_getElem? (i := 602) (by decide +kernel)⟩
theorem lw_p8 : lw_okq (⟨"RimCoins$ValleyText", "readCoin", "()Z"⟩, 8) := ⟨⟨by decide +kernel, by decide +kernel⟩, List.mem_of_getElem? (i := 480) (by decide +kernel), List.mem_of_getElem? (i := 610) (by decide +kernel), List.mem_of_getElem? (i := 611) (by decide +kernel)⟩
theorem lw_p9 : lw_okq (⟨"RimCoins$ValleyText", "seesWho", "()Z"⟩, 8) := ⟨⟨by decide +kernel, by decide +kernel⟩, List.mem_of_getElem? (i := 480) (by decide +kernel), List.mem_of_getElem? (i := 614) (by decide +kernel), List.mem_of_getElem? (i := 615) (by decide +kernel)⟩
theorem lw_p10 : lw_okq (⟨"RimCoins$ValleyText", "readDebt", "()Z"⟩, 8) := ⟨⟨by decide +kernel, by decide +kernel⟩, List.mem_of_getElem? (i := 480) (by decide +kernel), List.mem_of_getElem? (i := 630) (by decide +kernel), List.mem_of_getElem? (i := 631) (by decide +kernel)⟩
theorem lw_p11 : lw_okq (⟨"RimCoins$ValleyText", "readStranger", "()Z"⟩, 8) := ⟨⟨by decide +kernel, by decide +kernel⟩, List.mem_of_getElem? (i := 480) (by decide +kernel), List.mem_of_getElem? (i := 638) (by decide +kernel), List.mem_of_getElem? (i := 639) (by decide +kernel)⟩
theorem lw_p12 : lw_okq (⟨"RimCoins$ValleyText", "readFee", "()Z"⟩, 8) := ⟨⟨by decide +kernel, by decide +kernel⟩, List.mem_of_getElem? (i := 480) (by decide +kernel), List.mem_of_getElem? (i := 646) (by decide +kernel), List.mem_of_getElem? (i := 647) (by decide +kernel)⟩
theorem lw_p13 : lw_okq (⟨"RimCoins$ValleyText", "readLaw", "()Z"⟩, 8) := ⟨⟨by decide +kernel, by decide +kernel⟩, List.mem_of_getElem? (i := 480) (by decide +kernel), List.mem_of_getElem? (i := 650) (by decide +kernel), List.mem_of_getElem? (i := 651) (by decide +kernel)⟩
theorem lw_p14 : lw_okq (⟨"RimCoins", "closeTape", "(ZI)I"⟩, 14) := ⟨⟨by decide +kernel, by decide +kernel⟩, List.mem_of_getElem? (i := 24) (by decide +kernel), List.mem_of_getElem? (i := 676) (by decide +kernel), List.mem_of_getElem? (i := 677) (by decide +kernel)⟩
theorem lw_p15 : lw_okq (⟨"RimCoins", "isCoin", "(I)Z"⟩, 14) := ⟨⟨by decide +kernel, by decide +kernel⟩, List.mem_of_getElem? (i := 24) (by decide +kernel), List.mem_of_getElem? (i := 688) (by decide +kernel), List.mem_of_getElem? (i := 689) (by decide +kernel)⟩
def lw_privs_1 : List (MethodName × Nat) := [(⟨"RimCoins$Tape", "readRun", "()V"⟩, 11), (⟨"RimCoins$Folk", "refresh", "()V"⟩, 9), (⟨"RimCoins$ValleyText", "readLine", "()Z"⟩, 8), (⟨"RimCoins$ValleyText", "readRim", "()Z"⟩, 8), (⟨"RimCoins$ValleyText", "takesNumber", "(II)Z"⟩, 8), (⟨"RimCoins$ValleyText", "seesNumber", "(II)Z"⟩, 8), (⟨"RimCoins$ValleyText", "readWho", "()Z"⟩, 8), (⟨"RimCoins$ValleyText", "readRoad", "()Z"⟩, 8), (⟨"RimCoins$ValleyText", "readCoin", "()Z"⟩, 8), (⟨"RimCoins$ValleyText", "seesWho", "()Z"⟩, 8), (⟨"RimCoins$ValleyText", "readDebt", "()Z"⟩, 8), (⟨"RimCoins$ValleyText", "readStranger", "()Z"⟩, 8), (⟨"RimCoins$ValleyText", "readFee", "()Z"⟩, 8), (⟨"RimCoins$ValleyText", "readLaw", "()Z"⟩, 8), (⟨"RimCoins", "closeTape", "(ZI)I"⟩, 14), (⟨"RimCoins", "isCoin", "(I)Z"⟩, 14)]
theorem lw_r1 : ∀ q ∈ lw_privs_1, lw_okq q := List.forall_mem_cons.mpr ⟨lw_p0, List.forall_mem_cons.mpr ⟨lw_p1, List.forall_mem_cons.mpr ⟨lw_p2, List.forall_mem_cons.mpr ⟨lw_p3, List.forall_mem_cons.mpr ⟨lw_p4, List.forall_mem_cons.mpr ⟨lw_p5, List.forall_mem_cons.mpr ⟨lw_p6, List.forall_mem_cons.mpr ⟨lw_p7, List.forall_mem_cons.mpr ⟨lw_p8, List.forall_mem_cons.mpr ⟨lw_p9, List.forall_mem_cons.mpr ⟨lw_p10, List.forall_mem_cons.mpr ⟨lw_p11, List.forall_mem_cons.mpr ⟨lw_p12, List.forall_mem_cons.mpr ⟨lw_p13, List.forall_mem_cons.mpr ⟨lw_p14, List.forall_mem_cons.mpr ⟨lw_p15, fun _ h => absurd h List.not_mem_nil⟩⟩⟩⟩⟩⟩⟩⟩⟩⟩⟩⟩⟩⟩⟩⟩
theorem lw_p16 : lw_okq (⟨"RimCoins", "isWho", "(I)Z"⟩, 14) := ⟨⟨by decide +kernel, by decide +kernel⟩, List.mem_of_getElem? (i := 24) (by decide +kernel), List.mem_of_getElem? (i := 714) (by decide +kernel), List.mem_of_getElem? (i := 715) (by decide +kernel)⟩
theorem lw_p17 : lw_okq (⟨"RimCoins$Folk", "housesOn", "(I)I"⟩, 9) := ⟨⟨by decide +kernel, by decide +kernel⟩, List.mem_of_getElem? (i := 93) (by decide +kernel), List.mem_of_getElem? (i := 732) (by decide +kernel), List.mem_of_getElem? (i := 733) (by decide +kernel)⟩
theorem lw_p18 : lw_okq (⟨"RimCoins$Payment", "addCoin", "(III)V"⟩, 3) := ⟨⟨by decide +kernel, by decide +kernel⟩, List.mem_of_getElem? (i := 271) (by decide +kernel), List.mem_of_getElem? (i := 778) (by decide +kernel), List.mem_of_getElem? (i := 779) (by decide +kernel)⟩
theorem lw_p19 : lw_okq (⟨"RimCoins$Payment", "take", "(J)I"⟩, 3) := ⟨⟨by decide +kernel, by decide +kernel⟩, List.mem_of_getElem? (i := 271) (by decide +kernel), List.mem_of_getElem? (i := 789) (by decide +kernel), List.mem_of_getElem? (i := 790) (by decide +kernel)⟩
theorem lw_p20 : lw_okq (⟨"RimCoins", "told", "(I)I"⟩, 14) := ⟨⟨by decide +kernel, by decide +kernel⟩, List.mem_of_getElem? (i := 24) (by decide +kernel), List.mem_of_getElem? (i := 799) (by decide +kernel), List.mem_of_getElem? (i := 800) (by decide +kernel)⟩
theorem lw_p21 : lw_okq (⟨"RimCoins$Payment", "addDayCoin", "(IIIII)V"⟩, 3) := ⟨⟨by decide +kernel, by decide +kernel⟩, List.mem_of_getElem? (i := 271) (by decide +kernel), List.mem_of_getElem? (i := 841) (by decide +kernel), List.mem_of_getElem? (i := 842) (by decide +kernel)⟩
theorem lw_p22 : lw_okq (⟨"RimCoins$Valley", "feeFor", "(I)I"⟩, 10) := ⟨⟨by decide +kernel, by decide +kernel⟩, List.mem_of_getElem? (i := 87) (by decide +kernel), List.mem_of_getElem? (i := 855) (by decide +kernel), List.mem_of_getElem? (i := 856) (by decide +kernel)⟩
theorem lw_p23 : lw_okq (⟨"RimCoins", "stuckWithRoad", "(II)I"⟩, 14) := ⟨⟨by decide +kernel, by decide +kernel⟩, List.mem_of_getElem? (i := 24) (by decide +kernel), List.mem_of_getElem? (i := 963) (by decide +kernel), List.mem_of_getElem? (i := 964) (by decide +kernel)⟩
theorem lw_p24 : lw_okq (⟨"RimCoins$Journey", "spread", "(LRimCoins$Valley;III)I"⟩, 9) := ⟨⟨by decide +kernel, by decide +kernel⟩, List.mem_of_getElem? (i := 288) (by decide +kernel), List.mem_of_getElem? (i := 991) (by decide +kernel), List.mem_of_getElem? (i := 992) (by decide +kernel)⟩
theorem lw_p25 : lw_okq (⟨"RimCoins$Journey", "begin", "(LRimCoins$Valley;)V"⟩, 9) := ⟨⟨by decide +kernel, by decide +kernel⟩, List.mem_of_getElem? (i := 288) (by decide +kernel), List.mem_of_getElem? (i := 995) (by decide +kernel), List.mem_of_getElem? (i := 996) (by decide +kernel)⟩
theorem lw_p26 : lw_okq (⟨"RimCoins$Journey", "codeOf", "(I)I"⟩, 9) := ⟨⟨by decide +kernel, by decide +kernel⟩, List.mem_of_getElem? (i := 288) (by decide +kernel), List.mem_of_getElem? (i := 999) (by decide +kernel), List.mem_of_getElem? (i := 1000) (by decide +kernel)⟩
theorem lw_p27 : lw_okq (⟨"RimCoins$Journey", "steps", "(I)I"⟩, 9) := ⟨⟨by decide +kernel, by decide +kernel⟩, List.mem_of_getElem? (i := 288) (by decide +kernel), List.mem_of_getElem? (i := 1030) (by decide +kernel), List.mem_of_getElem? (i := 1031) (by decide +kernel)⟩
theorem lw_p28 : lw_okq (⟨"RimCoins$Journey", "before", "(I)I"⟩, 9) := ⟨⟨by decide +kernel, by decide +kernel⟩, List.mem_of_getElem? (i := 288) (by decide +kernel), List.mem_of_getElem? (i := 1034) (by decide +kernel), List.mem_of_getElem? (i := 1035) (by decide +kernel)⟩
theorem lw_p29 : lw_okq (⟨"RimCoins$Journey", "writeRow", "(II)V"⟩, 9) := ⟨⟨by decide +kernel, by decide +kernel⟩, List.mem_of_getElem? (i := 288) (by decide +kernel), List.mem_of_getElem? (i := 1038) (by decide +kernel), List.mem_of_getElem? (i := 1039) (by decide +kernel)⟩
theorem lw_p30 : lw_okq (⟨"RimCoins$Valley", "standsTwice", "(III)Z"⟩, 10) := ⟨⟨by decide +kernel, by decide +kernel⟩, List.mem_of_getElem? (i := 87) (by decide +kernel), List.mem_of_getElem? (i := 1071) (by decide +kernel), List.mem_of_getElem? (i := 1072) (by decide +kernel)⟩
theorem lw_p31 : lw_okq (⟨"RimCoins$Valley", "areNeighbours", "(II)Z"⟩, 10) := ⟨⟨by decide +kernel, by decide +kernel⟩, List.mem_of_getElem? (i := 87) (by decide +kernel), List.mem_of_getElem? (i := 1075) (by decide +kernel), List.mem_of_getElem? (i := 1076) (by decide +kernel)⟩
def lw_privs_2 : List (MethodName × Nat) := [(⟨"RimCoins", "isWho", "(I)Z"⟩, 14), (⟨"RimCoins$Folk", "housesOn", "(I)I"⟩, 9), (⟨"RimCoins$Payment", "addCoin", "(III)V"⟩, 3), (⟨"RimCoins$Payment", "take", "(J)I"⟩, 3), (⟨"RimCoins", "told", "(I)I"⟩, 14), (⟨"RimCoins$Payment", "addDayCoin", "(IIIII)V"⟩, 3), (⟨"RimCoins$Valley", "feeFor", "(I)I"⟩, 10), (⟨"RimCoins", "stuckWithRoad", "(II)I"⟩, 14), (⟨"RimCoins$Journey", "spread", "(LRimCoins$Valley;III)I"⟩, 9), (⟨"RimCoins$Journey", "begin", "(LRimCoins$Valley;)V"⟩, 9), (⟨"RimCoins$Journey", "codeOf", "(I)I"⟩, 9), (⟨"RimCoins$Journey", "steps", "(I)I"⟩, 9), (⟨"RimCoins$Journey", "before", "(I)I"⟩, 9), (⟨"RimCoins$Journey", "writeRow", "(II)V"⟩, 9), (⟨"RimCoins$Valley", "standsTwice", "(III)Z"⟩, 10), (⟨"RimCoins$Valley", "areNeighbours", "(II)Z"⟩, 10)]
theorem lw_r2 : ∀ q ∈ lw_privs_2, lw_okq q := List.forall_mem_cons.mpr ⟨lw_p16, List.forall_mem_cons.mpr ⟨lw_p17, List.forall_mem_cons.mpr ⟨lw_p18, List.forall_mem_cons.mpr ⟨lw_p19, List.forall_mem_cons.mpr ⟨lw_p20, List.forall_mem_cons.mpr ⟨lw_p21, List.forall_mem_cons.mpr ⟨lw_p22, List.forall_mem_cons.mpr ⟨lw_p23, List.forall_mem_cons.mpr ⟨lw_p24, List.forall_mem_cons.mpr ⟨lw_p25, List.forall_mem_cons.mpr ⟨lw_p26, List.forall_mem_cons.mpr ⟨lw_p27, List.forall_mem_cons.mpr ⟨lw_p28, List.forall_mem_cons.mpr ⟨lw_p29, List.forall_mem_cons.mpr ⟨lw_p30, List.forall_mem_cons.mpr ⟨lw_p31, fun _ h => absurd h List.not_mem_nil⟩⟩⟩⟩⟩⟩⟩⟩⟩⟩⟩⟩⟩⟩⟩⟩
theorem lw_p32 : lw_okq (⟨"RimCoins$Journey", "enter", "(II)V"⟩, 9) := ⟨⟨by decide +kernel, by decide +kernel⟩, List.mem_of_getElem? (i := 288) (by decide +kernel), List.mem_of_getElem? (i := 1089) (by decide +kernel), List.mem_of_getElem? (i := 1090) (by decide +kernel)⟩
theorem lw_p33 : lw_okq (⟨"RimCoins$Journey", "nextHand", "(LRimCoins$Valley;II)I"⟩, 9) := ⟨⟨by decide +kernel, by decide +kernel⟩, List.mem_of_getElem? (i := 288) (by decide +kernel), List.mem_of_getElem? (i := 1094) (by decide +kernel), List.mem_of_getElem? (i := 1095) (by decide +kernel)⟩
theorem lw_p34 : lw_okq (⟨"RimCoins", "isDebt", "(I)Z"⟩, 14) := ⟨⟨by decide +kernel, by decide +kernel⟩, List.mem_of_getElem? (i := 24) (by decide +kernel), List.mem_of_getElem? (i := 1102) (by decide +kernel), List.mem_of_getElem? (i := 1103) (by decide +kernel)⟩
theorem lw_p35 : lw_okq (⟨"RimCoins$Orderings", "place", "(LRimCoins$Valley;LRimCoins$Payment;III)V"⟩, 7) := ⟨⟨by decide +kernel, by decide +kernel⟩, List.mem_of_getElem? (i := 323) (by decide +kernel), List.mem_of_getElem? (i := 1131) (by decide +kernel), List.mem_of_getElem? (i := 1132) (by decide +kernel)⟩
theorem lw_p36 : lw_okq (⟨"RimCoins$Orderings", "keepBest", "(I)V"⟩, 7) := ⟨⟨by decide +kernel, by decide +kernel⟩, List.mem_of_getElem? (i := 323) (by decide +kernel), List.mem_of_getElem? (i := 1135) (by decide +kernel), List.mem_of_getElem? (i := 1136) (by decide +kernel)⟩
theorem lw_p37 : lw_okq (⟨"RimCoins$Orderings", "placeNext", "(LRimCoins$Valley;LRimCoins$Payment;III)V"⟩, 7) := ⟨⟨by decide +kernel, by decide +kernel⟩, List.mem_of_getElem? (i := 323) (by decide +kernel), List.mem_of_getElem? (i := 1139) (by decide +kernel), List.mem_of_getElem? (i := 1140) (by decide +kernel)⟩
theorem lw_p38 : lw_okq (⟨"RimCoins$Journey", "walk", "(LRimCoins$Valley;III)I"⟩, 9) := ⟨⟨by decide +kernel, by decide +kernel⟩, List.mem_of_getElem? (i := 288) (by decide +kernel), List.mem_of_getElem? (i := 1163) (by decide +kernel), List.mem_of_getElem? (i := 1164) (by decide +kernel)⟩
theorem lw_p39 : lw_okq (⟨"RimCoins$Journey", "walkBy", "(LRimCoins$Valley;IIII)I"⟩, 9) := ⟨⟨by decide +kernel, by decide +kernel⟩, List.mem_of_getElem? (i := 288) (by decide +kernel), List.mem_of_getElem? (i := 1167) (by decide +kernel), List.mem_of_getElem? (i := 1168) (by decide +kernel)⟩
theorem lw_p40 : lw_okq (⟨"RimCoins$Lots", "draw", "(I)I"⟩, 5) := ⟨⟨by decide +kernel, by decide +kernel⟩, List.mem_of_getElem? (i := 354) (by decide +kernel), List.mem_of_getElem? (i := 1195) (by decide +kernel), List.mem_of_getElem? (i := 1196) (by decide +kernel)⟩
theorem lw_p41 : lw_okq (⟨"RimCoins$Lots", "drawTheft", "(LRimCoins$Valley;)V"⟩, 5) := ⟨⟨by decide +kernel, by decide +kernel⟩, List.mem_of_getElem? (i := 354) (by decide +kernel), List.mem_of_getElem? (i := 1207) (by decide +kernel), List.mem_of_getElem? (i := 1208) (by decide +kernel)⟩
theorem lw_p42 : lw_okq (⟨"RimCoins$Sentence", "readAny", "(LRimCoins$Tape;LRimCoins$Folk;I)Z"⟩, 6) := ⟨⟨by decide +kernel, by decide +kernel⟩, List.mem_of_getElem? (i := 182) (by decide +kernel), List.mem_of_getElem? (i := 1235) (by decide +kernel), List.mem_of_getElem? (i := 1236) (by decide +kernel)⟩
theorem lw_p43 : lw_okq (⟨"RimCoins$Sentence", "readAll", "(LRimCoins$Tape;LRimCoins$Folk;I)Z"⟩, 6) := ⟨⟨by decide +kernel, by decide +kernel⟩, List.mem_of_getElem? (i := 182) (by decide +kernel), List.mem_of_getElem? (i := 1239) (by decide +kernel), List.mem_of_getElem? (i := 1240) (by decide +kernel)⟩
theorem lw_p44 : lw_okq (⟨"RimCoins$Sentence", "readOne", "(LRimCoins$Tape;LRimCoins$Folk;I)Z"⟩, 6) := ⟨⟨by decide +kernel, by decide +kernel⟩, List.mem_of_getElem? (i := 182) (by decide +kernel), List.mem_of_getElem? (i := 1243) (by decide +kernel), List.mem_of_getElem? (i := 1244) (by decide +kernel)⟩
theorem lw_p45 : lw_okq (⟨"RimCoins$Sentence", "readBracket", "(LRimCoins$Tape;LRimCoins$Folk;I)Z"⟩, 6) := ⟨⟨by decide +kernel, by decide +kernel⟩, List.mem_of_getElem? (i := 182) (by decide +kernel), List.mem_of_getElem? (i := 1253) (by decide +kernel), List.mem_of_getElem? (i := 1254) (by decide +kernel)⟩
theorem lw_p46 : lw_okq (⟨"RimCoins$Sentence", "readNot", "(LRimCoins$Tape;LRimCoins$Folk;I)Z"⟩, 6) := ⟨⟨by decide +kernel, by decide +kernel⟩, List.mem_of_getElem? (i := 182) (by decide +kernel), List.mem_of_getElem? (i := 1258) (by decide +kernel), List.mem_of_getElem? (i := 1259) (by decide +kernel)⟩
theorem lw_p47 : lw_okq (⟨"RimCoins$Sentence", "put", "(LRimCoins$Word;II)V"⟩, 6) := ⟨⟨by decide +kernel, by decide +kernel⟩, List.mem_of_getElem? (i := 182) (by decide +kernel), List.mem_of_getElem? (i := 1264) (by decide +kernel), List.mem_of_getElem? (i := 1265) (by decide +kernel)⟩
def lw_privs_3 : List (MethodName × Nat) := [(⟨"RimCoins$Journey", "enter", "(II)V"⟩, 9), (⟨"RimCoins$Journey", "nextHand", "(LRimCoins$Valley;II)I"⟩, 9), (⟨"RimCoins", "isDebt", "(I)Z"⟩, 14), (⟨"RimCoins$Orderings", "place", "(LRimCoins$Valley;LRimCoins$Payment;III)V"⟩, 7), (⟨"RimCoins$Orderings", "keepBest", "(I)V"⟩, 7), (⟨"RimCoins$Orderings", "placeNext", "(LRimCoins$Valley;LRimCoins$Payment;III)V"⟩, 7), (⟨"RimCoins$Journey", "walk", "(LRimCoins$Valley;III)I"⟩, 9), (⟨"RimCoins$Journey", "walkBy", "(LRimCoins$Valley;IIII)I"⟩, 9), (⟨"RimCoins$Lots", "draw", "(I)I"⟩, 5), (⟨"RimCoins$Lots", "drawTheft", "(LRimCoins$Valley;)V"⟩, 5), (⟨"RimCoins$Sentence", "readAny", "(LRimCoins$Tape;LRimCoins$Folk;I)Z"⟩, 6), (⟨"RimCoins$Sentence", "readAll", "(LRimCoins$Tape;LRimCoins$Folk;I)Z"⟩, 6), (⟨"RimCoins$Sentence", "readOne", "(LRimCoins$Tape;LRimCoins$Folk;I)Z"⟩, 6), (⟨"RimCoins$Sentence", "readBracket", "(LRimCoins$Tape;LRimCoins$Folk;I)Z"⟩, 6), (⟨"RimCoins$Sentence", "readNot", "(LRimCoins$Tape;LRimCoins$Folk;I)Z"⟩, 6), (⟨"RimCoins$Sentence", "put", "(LRimCoins$Word;II)V"⟩, 6)]
theorem lw_r3 : ∀ q ∈ lw_privs_3, lw_okq q := List.forall_mem_cons.mpr ⟨lw_p32, List.forall_mem_cons.mpr ⟨lw_p33, List.forall_mem_cons.mpr ⟨lw_p34, List.forall_mem_cons.mpr ⟨lw_p35, List.forall_mem_cons.mpr ⟨lw_p36, List.forall_mem_cons.mpr ⟨lw_p37, List.forall_mem_cons.mpr ⟨lw_p38, List.forall_mem_cons.mpr ⟨lw_p39, List.forall_mem_cons.mpr ⟨lw_p40, List.forall_mem_cons.mpr ⟨lw_p41, List.forall_mem_cons.mpr ⟨lw_p42, List.forall_mem_cons.mpr ⟨lw_p43, List.forall_mem_cons.mpr ⟨lw_p44, List.forall_mem_cons.mpr ⟨lw_p45, List.forall_mem_cons.mpr ⟨lw_p46, List.forall_mem_cons.mpr ⟨lw_p47, fun _ h => absurd h List.not_mem_nil⟩⟩⟩⟩⟩⟩⟩⟩⟩⟩⟩⟩⟩⟩⟩⟩
theorem lw_p48 : lw_okq (⟨"RimCoins$Sentence", "readOfWho", "(LRimCoins$Tape;LRimCoins$Folk;LRimCoins$Word;)Z"⟩, 6) := ⟨⟨by decide +kernel, by decide +kernel⟩, List.mem_of_getElem? (i := 182) (by decide +kernel), List.mem_of_getElem? (i := 1268) (by decide +kernel), List.mem_of_getElem? (i := 1269) (by decide +kernel)⟩
theorem lw_p49 : lw_okq (⟨"RimCoins$Sentence", "readOfNumber", "(LRimCoins$Tape;LRimCoins$Word;)Z"⟩, 6) := ⟨⟨by decide +kernel, by decide +kernel⟩, List.mem_of_getElem? (i := 182) (by decide +kernel), List.mem_of_getElem? (i := 1274) (by decide +kernel), List.mem_of_getElem? (i := 1275) (by decide +kernel)⟩
theorem lw_p50 : lw_okq (⟨"RimCoins$Sentence", "join", "(ZI)V"⟩, 6) := ⟨⟨by decide +kernel, by decide +kernel⟩, List.mem_of_getElem? (i := 182) (by decide +kernel), List.mem_of_getElem? (i := 1292) (by decide +kernel), List.mem_of_getElem? (i := 1293) (by decide +kernel)⟩
theorem lw_p51 : lw_okq (⟨"RimCoins$Sentence", "coinsOfStep", "(LRimCoins$Valley;I)J"⟩, 6) := ⟨⟨by decide +kernel, by decide +kernel⟩, List.mem_of_getElem? (i := 182) (by decide +kernel), List.mem_of_getElem? (i := 1296) (by decide +kernel), List.mem_of_getElem? (i := 1297) (by decide +kernel)⟩
theorem lw_p52 : lw_okq (⟨"RimCoins$Sentence", "isTrue", "(LRimCoins$Valley;II)Z"⟩, 6) := ⟨⟨by decide +kernel, by decide +kernel⟩, List.mem_of_getElem? (i := 182) (by decide +kernel), List.mem_of_getElem? (i := 1300) (by decide +kernel), List.mem_of_getElem? (i := 1301) (by decide +kernel)⟩
theorem lw_p53 : lw_okq (⟨"RimCoins$Sentence", "compares", "(II)Z"⟩, 6) := ⟨⟨by decide +kernel, by decide +kernel⟩, List.mem_of_getElem? (i := 182) (by decide +kernel), List.mem_of_getElem? (i := 1310) (by decide +kernel), List.mem_of_getElem? (i := 1311) (by decide +kernel)⟩
theorem lw_p54 : lw_okq (⟨"java/lang/Throwable", "fillInStackTrace", "(I)Ljava/lang/Throwable;"⟩, 6) := ⟨⟨by decide +kernel, by decide +kernel⟩, List.mem_of_getElem? (i := 1377) (by decide +kernel), List.mem_of_getElem? (i := 1375) (by decide +kernel), List.mem_of_getElem? (i := 1376) (by decide +kernel)⟩
theorem lw_p55 : lw_okq (⟨"RimCoinsModel", "come", "(I)V"⟩, 60) := ⟨⟨by decide +kernel, by decide +kernel⟩, List.mem_of_getElem? (i := 1427) (by decide +kernel), List.mem_of_getElem? (i := 1625) (by decide +kernel), List.mem_of_getElem? (i := 1626) (by decide +kernel)⟩
theorem lw_p56 : lw_okq (⟨"RimCoinsModel", "begin", "(I)V"⟩, 60) := ⟨⟨by decide +kernel, by decide +kernel⟩, List.mem_of_getElem? (i := 1427) (by decide +kernel), List.mem_of_getElem? (i := 1637) (by decide +kernel), List.mem_of_getElem? (i := 1638) (by decide +kernel)⟩
theorem lw_p57 : lw_okq (⟨"RimCoinsModel", "lay", "()V"⟩, 60) := ⟨⟨by decide +kernel, by decide +kernel⟩, List.mem_of_getElem? (i := 1427) (by decide +kernel), List.mem_of_getElem? (i := 1641) (by decide +kernel), List.mem_of_getElem? (i := 1642) (by decide +kernel)⟩
theorem lw_p58 : lw_okq (⟨"RimCoinsModel", "take", "()I"⟩, 60) := ⟨⟨by decide +kernel, by decide +kernel⟩, List.mem_of_getElem? (i := 1427) (by decide +kernel), List.mem_of_getElem? (i := 1648) (by decide +kernel), List.mem_of_getElem? (i := 1649) (by decide +kernel)⟩
theorem lw_p59 : lw_okq (⟨"RimCoinsModel", "go", "()V"⟩, 60) := ⟨⟨by decide +kernel, by decide +kernel⟩, List.mem_of_getElem? (i := 1427) (by decide +kernel), List.mem_of_getElem? (i := 1652) (by decide +kernel), List.mem_of_getElem? (i := 1653) (by decide +kernel)⟩
theorem lw_p60 : lw_okq (⟨"RimCoinsModel", "tapeAt", "(I)I"⟩, 60) := ⟨⟨by decide +kernel, by decide +kernel⟩, List.mem_of_getElem? (i := 1427) (by decide +kernel), List.mem_of_getElem? (i := 1662) (by decide +kernel), List.mem_of_getElem? (i := 1663) (by decide +kernel)⟩
theorem lw_p61 : lw_okq (⟨"RimCoinsModel", "readLine", "()Z"⟩, 60) := ⟨⟨by decide +kernel, by decide +kernel⟩, List.mem_of_getElem? (i := 1427) (by decide +kernel), List.mem_of_getElem? (i := 1668) (by decide +kernel), List.mem_of_getElem? (i := 1669) (by decide +kernel)⟩
theorem lw_p62 : lw_okq (⟨"RimCoinsModel", "isWord", "(I)Z"⟩, 60) := ⟨⟨by decide +kernel, by decide +kernel⟩, List.mem_of_getElem? (i := 1427) (by decide +kernel), List.mem_of_getElem? (i := 1672) (by decide +kernel), List.mem_of_getElem? (i := 1673) (by decide +kernel)⟩
theorem lw_p63 : lw_okq (⟨"RimCoinsModel", "bad", "(I)Z"⟩, 60) := ⟨⟨by decide +kernel, by decide +kernel⟩, List.mem_of_getElem? (i := 1427) (by decide +kernel), List.mem_of_getElem? (i := 1685) (by decide +kernel), List.mem_of_getElem? (i := 1686) (by decide +kernel)⟩
def lw_privs_4 : List (MethodName × Nat) := [(⟨"RimCoins$Sentence", "readOfWho", "(LRimCoins$Tape;LRimCoins$Folk;LRimCoins$Word;)Z"⟩, 6), (⟨"RimCoins$Sentence", "readOfNumber", "(LRimCoins$Tape;LRimCoins$Word;)Z"⟩, 6), (⟨"RimCoins$Sentence", "join", "(ZI)V"⟩, 6), (⟨"RimCoins$Sentence", "coinsOfStep", "(LRimCoins$Valley;I)J"⟩, 6), (⟨"RimCoins$Sentence", "isTrue", "(LRimCoins$Valley;II)Z"⟩, 6), (⟨"RimCoins$Sentence", "compares", "(II)Z"⟩, 6), (⟨"java/lang/Throwable", "fillInStackTrace", "(I)Ljava/lang/Throwable;"⟩, 6), (⟨"RimCoinsModel", "come", "(I)V"⟩, 60), (⟨"RimCoinsModel", "begin", "(I)V"⟩, 60), (⟨"RimCoinsModel", "lay", "()V"⟩, 60), (⟨"RimCoinsModel", "take", "()I"⟩, 60), (⟨"RimCoinsModel", "go", "()V"⟩, 60), (⟨"RimCoinsModel", "tapeAt", "(I)I"⟩, 60), (⟨"RimCoinsModel", "readLine", "()Z"⟩, 60), (⟨"RimCoinsModel", "isWord", "(I)Z"⟩, 60), (⟨"RimCoinsModel", "bad", "(I)Z"⟩, 60)]
theorem lw_r4 : ∀ q ∈ lw_privs_4, lw_okq q := List.forall_mem_cons.mpr ⟨lw_p48, List.forall_mem_cons.mpr ⟨lw_p49, List.forall_mem_cons.mpr ⟨lw_p50, List.forall_mem_cons.mpr ⟨lw_p51, List.forall_mem_cons.mpr ⟨lw_p52, List.forall_mem_cons.mpr ⟨lw_p53, List.forall_mem_cons.mpr ⟨lw_p54, List.forall_mem_cons.mpr ⟨lw_p55, List.forall_mem_cons.mpr ⟨lw_p56, List.forall_mem_cons.mpr ⟨lw_p57, List.forall_mem_cons.mpr ⟨lw_p58, List.forall_mem_cons.mpr ⟨lw_p59, List.forall_mem_cons.mpr ⟨lw_p60, List.forall_mem_cons.mpr ⟨lw_p61, List.forall_mem_cons.mpr ⟨lw_p62, List.forall_mem_cons.mpr ⟨lw_p63, fun _ h => absurd h List.not_mem_nil⟩⟩⟩⟩⟩⟩⟩⟩⟩⟩⟩⟩⟩⟩⟩⟩
theorem lw_p64 : lw_okq (⟨"RimCoinsModel", "readOnce", "(I)Z"⟩, 60) := ⟨⟨by decide +kernel, by decide +kernel⟩, List.mem_of_getElem? (i := 1427) (by decide +kernel), List.mem_of_getElem? (i := 1689) (by decide +kernel), List.mem_of_getElem? (i := 1690) (by decide +kernel)⟩
theorem lw_p65 : lw_okq (⟨"RimCoinsModel", "readNumber", "(II)Z"⟩, 60) := ⟨⟨by decide +kernel, by decide +kernel⟩, List.mem_of_getElem? (i := 1427) (by decide +kernel), List.mem_of_getElem? (i := 1696) (by decide +kernel), List.mem_of_getElem? (i := 1697) (by decide +kernel)⟩
theorem lw_p66 : lw_okq (⟨"RimCoinsModel", "isNumber", "(II)Z"⟩, 60) := ⟨⟨by decide +kernel, by decide +kernel⟩, List.mem_of_getElem? (i := 1427) (by decide +kernel), List.mem_of_getElem? (i := 1700) (by decide +kernel), List.mem_of_getElem? (i := 1701) (by decide +kernel)⟩
theorem lw_p67 : lw_okq (⟨"RimCoinsModel", "readWho", "()Z"⟩, 60) := ⟨⟨by decide +kernel, by decide +kernel⟩, List.mem_of_getElem? (i := 1427) (by decide +kernel), List.mem_of_getElem? (i := 1707) (by decide +kernel), List.mem_of_getElem? (i := 1708) (by decide +kernel)⟩
theorem lw_p68 : lw_okq (⟨"RimCoinsModel", "isName", "()Z"⟩, 60) := ⟨⟨by decide +kernel, by decide +kernel⟩, List.mem_of_getElem? (i := 1427) (by decide +kernel), List.mem_of_getElem? (i := 1711) (by decide +kernel), List.mem_of_getElem? (i := 1712) (by decide +kernel)⟩
theorem lw_p69 : lw_okq (⟨"RimCoinsModel", "readRoad", "()Z"⟩, 60) := ⟨⟨by decide +kernel, by decide +kernel⟩, List.mem_of_getElem? (i := 1427) (by decide +kernel), List.mem_of_getElem? (i := 1718) (by decide +kernel), List.mem_of_getElem? (i := 1719) (by decide +kernel)⟩
theorem lw_p70 : lw_okq (⟨"RimCoinsModel", "readCoin", "()Z"⟩, 60) := ⟨⟨by decide +kernel, by decide +kernel⟩, List.mem_of_getElem? (i := 1427) (by decide +kernel), List.mem_of_getElem? (i := 1722) (by decide +kernel), List.mem_of_getElem? (i := 1723) (by decide +kernel)⟩
theorem lw_p71 : lw_okq (⟨"RimCoinsModel", "isToldWho", "()Z"⟩, 60) := ⟨⟨by decide +kernel, by decide +kernel⟩, List.mem_of_getElem? (i := 1427) (by decide +kernel), List.mem_of_getElem? (i := 1726) (by decide +kernel), List.mem_of_getElem? (i := 1727) (by decide +kernel)⟩
theorem lw_p72 : lw_okq (⟨"RimCoinsModel", "readOwes", "()Z"⟩, 60) := ⟨⟨by decide +kernel, by decide +kernel⟩, List.mem_of_getElem? (i := 1427) (by decide +kernel), List.mem_of_getElem? (i := 1730) (by decide +kernel), List.mem_of_getElem? (i := 1731) (by decide +kernel)⟩
theorem lw_p73 : lw_okq (⟨"RimCoinsModel", "readStranger", "()Z"⟩, 60) := ⟨⟨by decide +kernel, by decide +kernel⟩, List.mem_of_getElem? (i := 1427) (by decide +kernel), List.mem_of_getElem? (i := 1734) (by decide +kernel), List.mem_of_getElem? (i := 1735) (by decide +kernel)⟩
theorem lw_p74 : lw_okq (⟨"RimCoinsModel", "readDead", "()Z"⟩, 60) := ⟨⟨by decide +kernel, by decide +kernel⟩, List.mem_of_getElem? (i := 1427) (by decide +kernel), List.mem_of_getElem? (i := 1738) (by decide +kernel), List.mem_of_getElem? (i := 1739) (by decide +kernel)⟩
theorem lw_p75 : lw_okq (⟨"RimCoinsModel", "readEnd", "()Z"⟩, 60) := ⟨⟨by decide +kernel, by decide +kernel⟩, List.mem_of_getElem? (i := 1427) (by decide +kernel), List.mem_of_getElem? (i := 1742) (by decide +kernel), List.mem_of_getElem? (i := 1743) (by decide +kernel)⟩
theorem lw_p76 : lw_okq (⟨"RimCoinsModel", "isSign", "(I)Z"⟩, 60) := ⟨⟨by decide +kernel, by decide +kernel⟩, List.mem_of_getElem? (i := 1427) (by decide +kernel), List.mem_of_getElem? (i := 1746) (by decide +kernel), List.mem_of_getElem? (i := 1747) (by decide +kernel)⟩
theorem lw_p77 : lw_okq (⟨"RimCoinsModel", "isWho", "(I)Z"⟩, 60) := ⟨⟨by decide +kernel, by decide +kernel⟩, List.mem_of_getElem? (i := 1427) (by decide +kernel), List.mem_of_getElem? (i := 1758) (by decide +kernel), List.mem_of_getElem? (i := 1759) (by decide +kernel)⟩
theorem lw_p78 : lw_okq (⟨"RimCoinsModel", "whos", "()I"⟩, 60) := ⟨⟨by decide +kernel, by decide +kernel⟩, List.mem_of_getElem? (i := 1427) (by decide +kernel), List.mem_of_getElem? (i := 1762) (by decide +kernel), List.mem_of_getElem? (i := 1763) (by decide +kernel)⟩
theorem lw_p79 : lw_okq (⟨"RimCoinsModel", "refuse", "()I"⟩, 60) := ⟨⟨by decide +kernel, by decide +kernel⟩, List.mem_of_getElem? (i := 1427) (by decide +kernel), List.mem_of_getElem? (i := 1766) (by decide +kernel), List.mem_of_getElem? (i := 1767) (by decide +kernel)⟩
def lw_privs_5 : List (MethodName × Nat) := [(⟨"RimCoinsModel", "readOnce", "(I)Z"⟩, 60), (⟨"RimCoinsModel", "readNumber", "(II)Z"⟩, 60), (⟨"RimCoinsModel", "isNumber", "(II)Z"⟩, 60), (⟨"RimCoinsModel", "readWho", "()Z"⟩, 60), (⟨"RimCoinsModel", "isName", "()Z"⟩, 60), (⟨"RimCoinsModel", "readRoad", "()Z"⟩, 60), (⟨"RimCoinsModel", "readCoin", "()Z"⟩, 60), (⟨"RimCoinsModel", "isToldWho", "()Z"⟩, 60), (⟨"RimCoinsModel", "readOwes", "()Z"⟩, 60), (⟨"RimCoinsModel", "readStranger", "()Z"⟩, 60), (⟨"RimCoinsModel", "readDead", "()Z"⟩, 60), (⟨"RimCoinsModel", "readEnd", "()Z"⟩, 60), (⟨"RimCoinsModel", "isSign", "(I)Z"⟩, 60), (⟨"RimCoinsModel", "isWho", "(I)Z"⟩, 60), (⟨"RimCoinsModel", "whos", "()I"⟩, 60), (⟨"RimCoinsModel", "refuse", "()I"⟩, 60)]
theorem lw_r5 : ∀ q ∈ lw_privs_5, lw_okq q := List.forall_mem_cons.mpr ⟨lw_p64, List.forall_mem_cons.mpr ⟨lw_p65, List.forall_mem_cons.mpr ⟨lw_p66, List.forall_mem_cons.mpr ⟨lw_p67, List.forall_mem_cons.mpr ⟨lw_p68, List.forall_mem_cons.mpr ⟨lw_p69, List.forall_mem_cons.mpr ⟨lw_p70, List.forall_mem_cons.mpr ⟨lw_p71, List.forall_mem_cons.mpr ⟨lw_p72, List.forall_mem_cons.mpr ⟨lw_p73, List.forall_mem_cons.mpr ⟨lw_p74, List.forall_mem_cons.mpr ⟨lw_p75, List.forall_mem_cons.mpr ⟨lw_p76, List.forall_mem_cons.mpr ⟨lw_p77, List.forall_mem_cons.mpr ⟨lw_p78, List.forall_mem_cons.mpr ⟨lw_p79, fun _ h => absurd h List.not_mem_nil⟩⟩⟩⟩⟩⟩⟩⟩⟩⟩⟩⟩⟩⟩⟩⟩
theorem lw_p80 : lw_okq (⟨"RimCoinsModel", "ofWho", "(II)I"⟩, 60) := ⟨⟨by decide +kernel, by decide +kernel⟩, List.mem_of_getElem? (i := 1427) (by decide +kernel), List.mem_of_getElem? (i := 1770) (by decide +kernel), List.mem_of_getElem? (i := 1771) (by decide +kernel)⟩
theorem lw_p81 : lw_okq (⟨"RimCoinsModel", "coins", "()I"⟩, 60) := ⟨⟨by decide +kernel, by decide +kernel⟩, List.mem_of_getElem? (i := 1427) (by decide +kernel), List.mem_of_getElem? (i := 1774) (by decide +kernel), List.mem_of_getElem? (i := 1775) (by decide +kernel)⟩
theorem lw_p82 : lw_okq (⟨"RimCoinsModel", "ofCoin", "(II)I"⟩, 60) := ⟨⟨by decide +kernel, by decide +kernel⟩, List.mem_of_getElem? (i := 1427) (by decide +kernel), List.mem_of_getElem? (i := 1778) (by decide +kernel), List.mem_of_getElem? (i := 1779) (by decide +kernel)⟩
theorem lw_p83 : lw_okq (⟨"RimCoinsModel", "isCoin", "(I)Z"⟩, 60) := ⟨⟨by decide +kernel, by decide +kernel⟩, List.mem_of_getElem? (i := 1427) (by decide +kernel), List.mem_of_getElem? (i := 1786) (by decide +kernel), List.mem_of_getElem? (i := 1787) (by decide +kernel)⟩
theorem lw_p84 : lw_okq (⟨"RimCoinsModel", "whomOf", "(I)I"⟩, 60) := ⟨⟨by decide +kernel, by decide +kernel⟩, List.mem_of_getElem? (i := 1427) (by decide +kernel), List.mem_of_getElem? (i := 1790) (by decide +kernel), List.mem_of_getElem? (i := 1791) (by decide +kernel)⟩
theorem lw_p85 : lw_okq (⟨"RimCoinsModel", "whyNot", "(II)I"⟩, 60) := ⟨⟨by decide +kernel, by decide +kernel⟩, List.mem_of_getElem? (i := 1427) (by decide +kernel), List.mem_of_getElem? (i := 1794) (by decide +kernel), List.mem_of_getElem? (i := 1795) (by decide +kernel)⟩
theorem lw_p86 : lw_okq (⟨"RimCoinsModel", "hold", "(I)V"⟩, 60) := ⟨⟨by decide +kernel, by decide +kernel⟩, List.mem_of_getElem? (i := 1427) (by decide +kernel), List.mem_of_getElem? (i := 1798) (by decide +kernel), List.mem_of_getElem? (i := 1799) (by decide +kernel)⟩
theorem lw_p87 : lw_okq (⟨"RimCoinsModel", "whyNot", "(I)I"⟩, 60) := ⟨⟨by decide +kernel, by decide +kernel⟩, List.mem_of_getElem? (i := 1427) (by decide +kernel), List.mem_of_getElem? (i := 1802) (by decide +kernel), List.mem_of_getElem? (i := 1803) (by decide +kernel)⟩
theorem lw_p88 : lw_okq (⟨"RimCoinsModel", "isDead", "(I)Z"⟩, 60) := ⟨⟨by decide +kernel, by decide +kernel⟩, List.mem_of_getElem? (i := 1427) (by decide +kernel), List.mem_of_getElem? (i := 1806) (by decide +kernel), List.mem_of_getElem? (i := 1807) (by decide +kernel)⟩
theorem lw_p89 : lw_okq (⟨"RimCoinsModel", "areOfOneHouse", "(II)Z"⟩, 60) := ⟨⟨by decide +kernel, by decide +kernel⟩, List.mem_of_getElem? (i := 1427) (by decide +kernel), List.mem_of_getElem? (i := 1810) (by decide +kernel), List.mem_of_getElem? (i := 1811) (by decide +kernel)⟩
theorem lw_p90 : lw_okq (⟨"RimCoinsModel", "areNear", "(II)Z"⟩, 60) := ⟨⟨by decide +kernel, by decide +kernel⟩, List.mem_of_getElem? (i := 1427) (by decide +kernel), List.mem_of_getElem? (i := 1814) (by decide +kernel), List.mem_of_getElem? (i := 1815) (by decide +kernel)⟩
theorem lw_p91 : lw_okq (⟨"RimCoinsModel", "forgedOf", "(I)I"⟩, 60) := ⟨⟨by decide +kernel, by decide +kernel⟩, List.mem_of_getElem? (i := 1427) (by decide +kernel), List.mem_of_getElem? (i := 1821) (by decide +kernel), List.mem_of_getElem? (i := 1822) (by decide +kernel)⟩
theorem lw_p92 : lw_okq (⟨"RimCoinsModel", "goes", "(II)V"⟩, 60) := ⟨⟨by decide +kernel, by decide +kernel⟩, List.mem_of_getElem? (i := 1427) (by decide +kernel), List.mem_of_getElem? (i := 1848) (by decide +kernel), List.mem_of_getElem? (i := 1849) (by decide +kernel)⟩
theorem lw_p93 : lw_okq (⟨"RimCoinsModel", "pass", "(I)V"⟩, 60) := ⟨⟨by decide +kernel, by decide +kernel⟩, List.mem_of_getElem? (i := 1427) (by decide +kernel), List.mem_of_getElem? (i := 1852) (by decide +kernel), List.mem_of_getElem? (i := 1853) (by decide +kernel)⟩
theorem lw_p94 : lw_okq (⟨"RimCoinsModel", "isSum", "(I)Z"⟩, 60) := ⟨⟨by decide +kernel, by decide +kernel⟩, List.mem_of_getElem? (i := 1427) (by decide +kernel), List.mem_of_getElem? (i := 1864) (by decide +kernel), List.mem_of_getElem? (i := 1865) (by decide +kernel)⟩
theorem lw_p95 : lw_okq (⟨"RimCoinsModel", "exactOf", "(III)I"⟩, 60) := ⟨⟨by decide +kernel, by decide +kernel⟩, List.mem_of_getElem? (i := 1427) (by decide +kernel), List.mem_of_getElem? (i := 1868) (by decide +kernel), List.mem_of_getElem? (i := 1869) (by decide +kernel)⟩
def lw_privs_6 : List (MethodName × Nat) := [(⟨"RimCoinsModel", "ofWho", "(II)I"⟩, 60), (⟨"RimCoinsModel", "coins", "()I"⟩, 60), (⟨"RimCoinsModel", "ofCoin", "(II)I"⟩, 60), (⟨"RimCoinsModel", "isCoin", "(I)Z"⟩, 60), (⟨"RimCoinsModel", "whomOf", "(I)I"⟩, 60), (⟨"RimCoinsModel", "whyNot", "(II)I"⟩, 60), (⟨"RimCoinsModel", "hold", "(I)V"⟩, 60), (⟨"RimCoinsModel", "whyNot", "(I)I"⟩, 60), (⟨"RimCoinsModel", "isDead", "(I)Z"⟩, 60), (⟨"RimCoinsModel", "areOfOneHouse", "(II)Z"⟩, 60), (⟨"RimCoinsModel", "areNear", "(II)Z"⟩, 60), (⟨"RimCoinsModel", "forgedOf", "(I)I"⟩, 60), (⟨"RimCoinsModel", "goes", "(II)V"⟩, 60), (⟨"RimCoinsModel", "pass", "(I)V"⟩, 60), (⟨"RimCoinsModel", "isSum", "(I)Z"⟩, 60), (⟨"RimCoinsModel", "exactOf", "(III)I"⟩, 60)]
theorem lw_r6 : ∀ q ∈ lw_privs_6, lw_okq q := List.forall_mem_cons.mpr ⟨lw_p80, List.forall_mem_cons.mpr ⟨lw_p81, List.forall_mem_cons.mpr ⟨lw_p82, List.forall_mem_cons.mpr ⟨lw_p83, List.forall_mem_cons.mpr ⟨lw_p84, List.forall_mem_cons.mpr ⟨lw_p85, List.forall_mem_cons.mpr ⟨lw_p86, List.forall_mem_cons.mpr ⟨lw_p87, List.forall_mem_cons.mpr ⟨lw_p88, List.forall_mem_cons.mpr ⟨lw_p89, List.forall_mem_cons.mpr ⟨lw_p90, List.forall_mem_cons.mpr ⟨lw_p91, List.forall_mem_cons.mpr ⟨lw_p92, List.forall_mem_cons.mpr ⟨lw_p93, List.forall_mem_cons.mpr ⟨lw_p94, List.forall_mem_cons.mpr ⟨lw_p95, fun _ h => absurd h List.not_mem_nil⟩⟩⟩⟩⟩⟩⟩⟩⟩⟩⟩⟩⟩⟩⟩⟩
theorem lw_p96 : lw_okq (⟨"RimCoinsModel", "isFor", "(III)Z"⟩, 60) := ⟨⟨by decide +kernel, by decide +kernel⟩, List.mem_of_getElem? (i := 1427) (by decide +kernel), List.mem_of_getElem? (i := 1872) (by decide +kernel), List.mem_of_getElem? (i := 1873) (by decide +kernel)⟩
theorem lw_p97 : lw_okq (⟨"RimCoinsModel", "tell", "()V"⟩, 60) := ⟨⟨by decide +kernel, by decide +kernel⟩, List.mem_of_getElem? (i := 1427) (by decide +kernel), List.mem_of_getElem? (i := 1876) (by decide +kernel), List.mem_of_getElem? (i := 1877) (by decide +kernel)⟩
theorem lw_p98 : lw_okq (⟨"RimCoinsModel", "giveAll", "(I)V"⟩, 60) := ⟨⟨by decide +kernel, by decide +kernel⟩, List.mem_of_getElem? (i := 1427) (by decide +kernel), List.mem_of_getElem? (i := 1889) (by decide +kernel), List.mem_of_getElem? (i := 1890) (by decide +kernel)⟩
theorem lw_p99 : lw_okq (⟨"RimCoinsModel", "layTwo", "(IIIII)V"⟩, 60) := ⟨⟨by decide +kernel, by decide +kernel⟩, List.mem_of_getElem? (i := 1427) (by decide +kernel), List.mem_of_getElem? (i := 1905) (by decide +kernel), List.mem_of_getElem? (i := 1906) (by decide +kernel)⟩
theorem lw_p100 : lw_okq (⟨"RimCoinsModel", "canGive", "(IIII)Z"⟩, 60) := ⟨⟨by decide +kernel, by decide +kernel⟩, List.mem_of_getElem? (i := 1427) (by decide +kernel), List.mem_of_getElem? (i := 1912) (by decide +kernel), List.mem_of_getElem? (i := 1913) (by decide +kernel)⟩
theorem lw_p101 : lw_okq (⟨"RimCoinsModel", "keepsOn", "(IIII)V"⟩, 60) := ⟨⟨by decide +kernel, by decide +kernel⟩, List.mem_of_getElem? (i := 1427) (by decide +kernel), List.mem_of_getElem? (i := 1916) (by decide +kernel), List.mem_of_getElem? (i := 1917) (by decide +kernel)⟩
theorem lw_p102 : lw_okq (⟨"RimCoinsModel", "whyNoChange", "(II)I"⟩, 60) := ⟨⟨by decide +kernel, by decide +kernel⟩, List.mem_of_getElem? (i := 1427) (by decide +kernel), List.mem_of_getElem? (i := 1924) (by decide +kernel), List.mem_of_getElem? (i := 1925) (by decide +kernel)⟩
theorem lw_p103 : lw_okq (⟨"RimCoinsModel", "lessFee", "(I)I"⟩, 60) := ⟨⟨by decide +kernel, by decide +kernel⟩, List.mem_of_getElem? (i := 1427) (by decide +kernel), List.mem_of_getElem? (i := 1928) (by decide +kernel), List.mem_of_getElem? (i := 1929) (by decide +kernel)⟩
theorem lw_p104 : lw_okq (⟨"RimCoinsModel", "bear", "(I)I"⟩, 60) := ⟨⟨by decide +kernel, by decide +kernel⟩, List.mem_of_getElem? (i := 1427) (by decide +kernel), List.mem_of_getElem? (i := 1952) (by decide +kernel), List.mem_of_getElem? (i := 1953) (by decide +kernel)⟩
theorem lw_p105 : lw_okq (⟨"RimCoinsModel", "rub", "(III)V"⟩, 60) := ⟨⟨by decide +kernel, by decide +kernel⟩, List.mem_of_getElem? (i := 1427) (by decide +kernel), List.mem_of_getElem? (i := 1960) (by decide +kernel), List.mem_of_getElem? (i := 1961) (by decide +kernel)⟩
theorem lw_p106 : lw_okq (⟨"RimCoinsModel", "isStuck", "(I)Z"⟩, 60) := ⟨⟨by decide +kernel, by decide +kernel⟩, List.mem_of_getElem? (i := 1427) (by decide +kernel), List.mem_of_getElem? (i := 1968) (by decide +kernel), List.mem_of_getElem? (i := 1969) (by decide +kernel)⟩
theorem lw_p107 : lw_okq (⟨"RimCoinsModel", "freesIn", "(I)I"⟩, 60) := ⟨⟨by decide +kernel, by decide +kernel⟩, List.mem_of_getElem? (i := 1427) (by decide +kernel), List.mem_of_getElem? (i := 1976) (by decide +kernel), List.mem_of_getElem? (i := 1977) (by decide +kernel)⟩
theorem lw_p108 : lw_okq (⟨"RimCoinsModel", "reach", "(III)I"⟩, 60) := ⟨⟨by decide +kernel, by decide +kernel⟩, List.mem_of_getElem? (i := 1427) (by decide +kernel), List.mem_of_getElem? (i := 1992) (by decide +kernel), List.mem_of_getElem? (i := 1993) (by decide +kernel)⟩
theorem lw_p109 : lw_okq (⟨"RimCoinsModel", "code", "()I"⟩, 60) := ⟨⟨by decide +kernel, by decide +kernel⟩, List.mem_of_getElem? (i := 1427) (by decide +kernel), List.mem_of_getElem? (i := 1996) (by decide +kernel), List.mem_of_getElem? (i := 1997) (by decide +kernel)⟩
theorem lw_p110 : lw_okq (⟨"RimCoinsModel", "uncode", "(I)V"⟩, 60) := ⟨⟨by decide +kernel, by decide +kernel⟩, List.mem_of_getElem? (i := 1427) (by decide +kernel), List.mem_of_getElem? (i := 2000) (by decide +kernel), List.mem_of_getElem? (i := 2001) (by decide +kernel)⟩
theorem lw_p111 : lw_okq (⟨"RimCoinsModel", "ownerOf", "(I)I"⟩, 60) := ⟨⟨by decide +kernel, by decide +kernel⟩, List.mem_of_getElem? (i := 1427) (by decide +kernel), List.mem_of_getElem? (i := 2004) (by decide +kernel), List.mem_of_getElem? (i := 2005) (by decide +kernel)⟩
def lw_privs_7 : List (MethodName × Nat) := [(⟨"RimCoinsModel", "isFor", "(III)Z"⟩, 60), (⟨"RimCoinsModel", "tell", "()V"⟩, 60), (⟨"RimCoinsModel", "giveAll", "(I)V"⟩, 60), (⟨"RimCoinsModel", "layTwo", "(IIIII)V"⟩, 60), (⟨"RimCoinsModel", "canGive", "(IIII)Z"⟩, 60), (⟨"RimCoinsModel", "keepsOn", "(IIII)V"⟩, 60), (⟨"RimCoinsModel", "whyNoChange", "(II)I"⟩, 60), (⟨"RimCoinsModel", "lessFee", "(I)I"⟩, 60), (⟨"RimCoinsModel", "bear", "(I)I"⟩, 60), (⟨"RimCoinsModel", "rub", "(III)V"⟩, 60), (⟨"RimCoinsModel", "isStuck", "(I)Z"⟩, 60), (⟨"RimCoinsModel", "freesIn", "(I)I"⟩, 60), (⟨"RimCoinsModel", "reach", "(III)I"⟩, 60), (⟨"RimCoinsModel", "code", "()I"⟩, 60), (⟨"RimCoinsModel", "uncode", "(I)V"⟩, 60), (⟨"RimCoinsModel", "ownerOf", "(I)I"⟩, 60)]
theorem lw_r7 : ∀ q ∈ lw_privs_7, lw_okq q := List.forall_mem_cons.mpr ⟨lw_p96, List.forall_mem_cons.mpr ⟨lw_p97, List.forall_mem_cons.mpr ⟨lw_p98, List.forall_mem_cons.mpr ⟨lw_p99, List.forall_mem_cons.mpr ⟨lw_p100, List.forall_mem_cons.mpr ⟨lw_p101, List.forall_mem_cons.mpr ⟨lw_p102, List.forall_mem_cons.mpr ⟨lw_p103, List.forall_mem_cons.mpr ⟨lw_p104, List.forall_mem_cons.mpr ⟨lw_p105, List.forall_mem_cons.mpr ⟨lw_p106, List.forall_mem_cons.mpr ⟨lw_p107, List.forall_mem_cons.mpr ⟨lw_p108, List.forall_mem_cons.mpr ⟨lw_p109, List.forall_mem_cons.mpr ⟨lw_p110, List.forall_mem_cons.mpr ⟨lw_p111, fun _ h => absurd h List.not_mem_nil⟩⟩⟩⟩⟩⟩⟩⟩⟩⟩⟩⟩⟩⟩⟩⟩
theorem lw_p112 : lw_okq (⟨"RimCoinsModel", "end", "(II)I"⟩, 60) := ⟨⟨by decide +kernel, by decide +kernel⟩, List.mem_of_getElem? (i := 1427) (by decide +kernel), List.mem_of_getElem? (i := 2020) (by decide +kernel), List.mem_of_getElem? (i := 2021) (by decide +kernel)⟩
theorem lw_p113 : lw_okq (⟨"RimCoinsModel", "leaveOut", "(II)I"⟩, 60) := ⟨⟨by decide +kernel, by decide +kernel⟩, List.mem_of_getElem? (i := 1427) (by decide +kernel), List.mem_of_getElem? (i := 2024) (by decide +kernel), List.mem_of_getElem? (i := 2025) (by decide +kernel)⟩
theorem lw_p114 : lw_okq (⟨"RimCoinsModel", "leaveOutBare", "(III)I"⟩, 60) := ⟨⟨by decide +kernel, by decide +kernel⟩, List.mem_of_getElem? (i := 1427) (by decide +kernel), List.mem_of_getElem? (i := 2028) (by decide +kernel), List.mem_of_getElem? (i := 2029) (by decide +kernel)⟩
theorem lw_p115 : lw_okq (⟨"RimCoinsModel", "isDebt", "(I)Z"⟩, 60) := ⟨⟨by decide +kernel, by decide +kernel⟩, List.mem_of_getElem? (i := 1427) (by decide +kernel), List.mem_of_getElem? (i := 2036) (by decide +kernel), List.mem_of_getElem? (i := 2037) (by decide +kernel)⟩
theorem lw_p116 : lw_okq (⟨"RimCoinsModel", "ofDebt", "(II)I"⟩, 60) := ⟨⟨by decide +kernel, by decide +kernel⟩, List.mem_of_getElem? (i := 1427) (by decide +kernel), List.mem_of_getElem? (i := 2040) (by decide +kernel), List.mem_of_getElem? (i := 2041) (by decide +kernel)⟩
theorem lw_p117 : lw_okq (⟨"RimCoinsModel", "clearNow", "(I)I"⟩, 60) := ⟨⟨by decide +kernel, by decide +kernel⟩, List.mem_of_getElem? (i := 1427) (by decide +kernel), List.mem_of_getElem? (i := 2048) (by decide +kernel), List.mem_of_getElem? (i := 2049) (by decide +kernel)⟩
theorem lw_p118 : lw_okq (⟨"RimCoinsModel", "layAside", "()V"⟩, 60) := ⟨⟨by decide +kernel, by decide +kernel⟩, List.mem_of_getElem? (i := 1427) (by decide +kernel), List.mem_of_getElem? (i := 2056) (by decide +kernel), List.mem_of_getElem? (i := 2057) (by decide +kernel)⟩
theorem lw_p119 : lw_okq (⟨"RimCoinsModel", "tryOrders", "(II)V"⟩, 60) := ⟨⟨by decide +kernel, by decide +kernel⟩, List.mem_of_getElem? (i := 1427) (by decide +kernel), List.mem_of_getElem? (i := 2060) (by decide +kernel), List.mem_of_getElem? (i := 2061) (by decide +kernel)⟩
theorem lw_p120 : lw_okq (⟨"RimCoinsModel", "layBack", "()V"⟩, 60) := ⟨⟨by decide +kernel, by decide +kernel⟩, List.mem_of_getElem? (i := 1427) (by decide +kernel), List.mem_of_getElem? (i := 2064) (by decide +kernel), List.mem_of_getElem? (i := 2065) (by decide +kernel)⟩
theorem lw_p121 : lw_okq (⟨"RimCoinsModel", "tryWays", "(IIII)V"⟩, 60) := ⟨⟨by decide +kernel, by decide +kernel⟩, List.mem_of_getElem? (i := 1427) (by decide +kernel), List.mem_of_getElem? (i := 2076) (by decide +kernel), List.mem_of_getElem? (i := 2077) (by decide +kernel)⟩
theorem lw_p122 : lw_okq (⟨"RimCoinsModel", "isAs", "(I)Z"⟩, 60) := ⟨⟨by decide +kernel, by decide +kernel⟩, List.mem_of_getElem? (i := 1427) (by decide +kernel), List.mem_of_getElem? (i := 2080) (by decide +kernel), List.mem_of_getElem? (i := 2081) (by decide +kernel)⟩
theorem lw_p123 : lw_okq (⟨"RimCoinsModel", "hasDays", "(I)Z"⟩, 60) := ⟨⟨by decide +kernel, by decide +kernel⟩, List.mem_of_getElem? (i := 1427) (by decide +kernel), List.mem_of_getElem? (i := 2092) (by decide +kernel), List.mem_of_getElem? (i := 2093) (by decide +kernel)⟩
theorem lw_p124 : lw_okq (⟨"RimCoinsModel", "day", "(Z)V"⟩, 60) := ⟨⟨by decide +kernel, by decide +kernel⟩, List.mem_of_getElem? (i := 1427) (by decide +kernel), List.mem_of_getElem? (i := 2096) (by decide +kernel), List.mem_of_getElem? (i := 2097) (by decide +kernel)⟩
theorem lw_p125 : lw_okq (⟨"RimCoinsModel", "draw", "(I)I"⟩, 60) := ⟨⟨by decide +kernel, by decide +kernel⟩, List.mem_of_getElem? (i := 1427) (by decide +kernel), List.mem_of_getElem? (i := 2100) (by decide +kernel), List.mem_of_getElem? (i := 2101) (by decide +kernel)⟩
theorem lw_p126 : lw_okq (⟨"RimCoinsModel", "ownedBy", "(II)I"⟩, 60) := ⟨⟨by decide +kernel, by decide +kernel⟩, List.mem_of_getElem? (i := 1427) (by decide +kernel), List.mem_of_getElem? (i := 2105) (by decide +kernel), List.mem_of_getElem? (i := 2106) (by decide +kernel)⟩
theorem lw_p127 : lw_okq (⟨"RimCoinsModel", "readOr", "()Z"⟩, 60) := ⟨⟨by decide +kernel, by decide +kernel⟩, List.mem_of_getElem? (i := 1427) (by decide +kernel), List.mem_of_getElem? (i := 2121) (by decide +kernel), List.mem_of_getElem? (i := 2122) (by decide +kernel)⟩
def lw_privs_8 : List (MethodName × Nat) := [(⟨"RimCoinsModel", "end", "(II)I"⟩, 60), (⟨"RimCoinsModel", "leaveOut", "(II)I"⟩, 60), (⟨"RimCoinsModel", "leaveOutBare", "(III)I"⟩, 60), (⟨"RimCoinsModel", "isDebt", "(I)Z"⟩, 60), (⟨"RimCoinsModel", "ofDebt", "(II)I"⟩, 60), (⟨"RimCoinsModel", "clearNow", "(I)I"⟩, 60), (⟨"RimCoinsModel", "layAside", "()V"⟩, 60), (⟨"RimCoinsModel", "tryOrders", "(II)V"⟩, 60), (⟨"RimCoinsModel", "layBack", "()V"⟩, 60), (⟨"RimCoinsModel", "tryWays", "(IIII)V"⟩, 60), (⟨"RimCoinsModel", "isAs", "(I)Z"⟩, 60), (⟨"RimCoinsModel", "hasDays", "(I)Z"⟩, 60), (⟨"RimCoinsModel", "day", "(Z)V"⟩, 60), (⟨"RimCoinsModel", "draw", "(I)I"⟩, 60), (⟨"RimCoinsModel", "ownedBy", "(II)I"⟩, 60), (⟨"RimCoinsModel", "readOr", "()Z"⟩, 60)]
theorem lw_r8 : ∀ q ∈ lw_privs_8, lw_okq q := List.forall_mem_cons.mpr ⟨lw_p112, List.forall_mem_cons.mpr ⟨lw_p113, List.forall_mem_cons.mpr ⟨lw_p114, List.forall_mem_cons.mpr ⟨lw_p115, List.forall_mem_cons.mpr ⟨lw_p116, List.forall_mem_cons.mpr ⟨lw_p117, List.forall_mem_cons.mpr ⟨lw_p118, List.forall_mem_cons.mpr ⟨lw_p119, List.forall_mem_cons.mpr ⟨lw_p120, List.forall_mem_cons.mpr ⟨lw_p121, List.forall_mem_cons.mpr ⟨lw_p122, List.forall_mem_cons.mpr ⟨lw_p123, List.forall_mem_cons.mpr ⟨lw_p124, List.forall_mem_cons.mpr ⟨lw_p125, List.forall_mem_cons.mpr ⟨lw_p126, List.forall_mem_cons.mpr ⟨lw_p127, fun _ h => absurd h List.not_mem_nil⟩⟩⟩⟩⟩⟩⟩⟩⟩⟩⟩⟩⟩⟩⟩⟩
theorem lw_p128 : lw_okq (⟨"RimCoinsModel", "readAnd", "()Z"⟩, 60) := ⟨⟨by decide +kernel, by decide +kernel⟩, List.mem_of_getElem? (i := 1427) (by decide +kernel), List.mem_of_getElem? (i := 2125) (by decide +kernel), List.mem_of_getElem? (i := 2126) (by decide +kernel)⟩
theorem lw_p129 : lw_okq (⟨"RimCoinsModel", "readOne", "()Z"⟩, 60) := ⟨⟨by decide +kernel, by decide +kernel⟩, List.mem_of_getElem? (i := 1427) (by decide +kernel), List.mem_of_getElem? (i := 2129) (by decide +kernel), List.mem_of_getElem? (i := 2130) (by decide +kernel)⟩
theorem lw_p130 : lw_okq (⟨"RimCoinsModel", "readBracket", "()Z"⟩, 60) := ⟨⟨by decide +kernel, by decide +kernel⟩, List.mem_of_getElem? (i := 1427) (by decide +kernel), List.mem_of_getElem? (i := 2133) (by decide +kernel), List.mem_of_getElem? (i := 2134) (by decide +kernel)⟩
theorem lw_p131 : lw_okq (⟨"RimCoinsModel", "readNot", "()Z"⟩, 60) := ⟨⟨by decide +kernel, by decide +kernel⟩, List.mem_of_getElem? (i := 1427) (by decide +kernel), List.mem_of_getElem? (i := 2137) (by decide +kernel), List.mem_of_getElem? (i := 2138) (by decide +kernel)⟩
theorem lw_p132 : lw_okq (⟨"RimCoinsModel", "lays", "(IIII)I"⟩, 60) := ⟨⟨by decide +kernel, by decide +kernel⟩, List.mem_of_getElem? (i := 1427) (by decide +kernel), List.mem_of_getElem? (i := 2141) (by decide +kernel), List.mem_of_getElem? (i := 2142) (by decide +kernel)⟩
theorem lw_p133 : lw_okq (⟨"RimCoinsModel", "readNamed", "(I)Z"⟩, 60) := ⟨⟨by decide +kernel, by decide +kernel⟩, List.mem_of_getElem? (i := 1427) (by decide +kernel), List.mem_of_getElem? (i := 2145) (by decide +kernel), List.mem_of_getElem? (i := 2146) (by decide +kernel)⟩
theorem lw_p134 : lw_okq (⟨"RimCoinsModel", "readCompare", "(I)Z"⟩, 60) := ⟨⟨by decide +kernel, by decide +kernel⟩, List.mem_of_getElem? (i := 1427) (by decide +kernel), List.mem_of_getElem? (i := 2149) (by decide +kernel), List.mem_of_getElem? (i := 2150) (by decide +kernel)⟩
theorem lw_p135 : lw_okq (⟨"RimCoinsModel", "holds", "(II)Z"⟩, 60) := ⟨⟨by decide +kernel, by decide +kernel⟩, List.mem_of_getElem? (i := 1427) (by decide +kernel), List.mem_of_getElem? (i := 2157) (by decide +kernel), List.mem_of_getElem? (i := 2158) (by decide +kernel)⟩
theorem lw_p136 : lw_okq (⟨"RimCoinsModel", "bears", "(II)Z"⟩, 60) := ⟨⟨by decide +kernel, by decide +kernel⟩, List.mem_of_getElem? (i := 1427) (by decide +kernel), List.mem_of_getElem? (i := 2161) (by decide +kernel), List.mem_of_getElem? (i := 2162) (by decide +kernel)⟩
def lw_privs_9 : List (MethodName × Nat) := [(⟨"RimCoinsModel", "readAnd", "()Z"⟩, 60), (⟨"RimCoinsModel", "readOne", "()Z"⟩, 60), (⟨"RimCoinsModel", "readBracket", "()Z"⟩, 60), (⟨"RimCoinsModel", "readNot", "()Z"⟩, 60), (⟨"RimCoinsModel", "lays", "(IIII)I"⟩, 60), (⟨"RimCoinsModel", "readNamed", "(I)Z"⟩, 60), (⟨"RimCoinsModel", "readCompare", "(I)Z"⟩, 60), (⟨"RimCoinsModel", "holds", "(II)Z"⟩, 60), (⟨"RimCoinsModel", "bears", "(II)Z"⟩, 60)]
theorem lw_r9 : ∀ q ∈ lw_privs_9, lw_okq q := List.forall_mem_cons.mpr ⟨lw_p128, List.forall_mem_cons.mpr ⟨lw_p129, List.forall_mem_cons.mpr ⟨lw_p130, List.forall_mem_cons.mpr ⟨lw_p131, List.forall_mem_cons.mpr ⟨lw_p132, List.forall_mem_cons.mpr ⟨lw_p133, List.forall_mem_cons.mpr ⟨lw_p134, List.forall_mem_cons.mpr ⟨lw_p135, List.forall_mem_cons.mpr ⟨lw_p136, fun _ h => absurd h List.not_mem_nil⟩⟩⟩⟩⟩⟩⟩⟩⟩
def lw_privs : List (MethodName × Nat) := lw_privs_1 ++ (lw_privs_2 ++ (lw_privs_3 ++ (lw_privs_4 ++ (lw_privs_5 ++ (lw_privs_6 ++ (lw_privs_7 ++ (lw_privs_8 ++ (lw_privs_9))))))))
def lw_tbl : List Cond := k2_sels lw_privs ++ tables_1
theorem lw_privs_ok : ∀ q ∈ lw_privs, lw_okq q := by
  show ∀ q ∈ lw_privs_1 ++ (lw_privs_2 ++ (lw_privs_3 ++ (lw_privs_4 ++ (lw_privs_5 ++ (lw_privs_6 ++ (lw_privs_7 ++ (lw_privs_8 ++ (lw_privs_9)))))))), lw_okq q
  exact List.forall_mem_append.mpr ⟨lw_r1, List.forall_mem_append.mpr ⟨lw_r2, List.forall_mem_append.mpr ⟨lw_r3, List.forall_mem_append.mpr ⟨lw_r4, List.forall_mem_append.mpr ⟨lw_r5, List.forall_mem_append.mpr ⟨lw_r6, List.forall_mem_append.mpr ⟨lw_r7, List.forall_mem_append.mpr ⟨lw_r8, lw_r9⟩⟩⟩⟩⟩⟩⟩⟩
-- ===== end of PART A; then your names; then what follows =====
def RX0 : String := "RimCoins$1"
def TX0 : u_T := fun k => match k with
  | _ => ("", "", "", false)
def tyX0 : Nat → FieldType := fun k => match k with
  | _ => .int
abbrev wsX00 : List Cond := u_ws RX0 TX0 0
theorem nmX0 : ∀ a, a < 0 → ∀ b, b < 0 → a ≠ b → (TX0 a).2.1 ≠ (TX0 b).2.1 := by decide +kernel
theorem tyX0_ok : ∀ k, k < 0 → parseFieldDescriptor (TX0 k).2.2.1 = some (tyX0 k) := by decide +kernel
def RX1 : String := "RimCoins$Folk"
def TX1 : u_T := fun k => match k with
  | 0 => ("RimCoins$Folk", "size", "I", false)
  | 1 => ("RimCoins$Folk", "dead", "I", false)
  | 2 => ("RimCoins$Folk", "strangers", "I", false)
  | 3 => ("RimCoins$Folk", "village", "[I", true)
  | 4 => ("RimCoins$Folk", "house", "[I", true)
  | 5 => ("RimCoins$Folk", "earned", "[I", true)
  | 6 => ("RimCoins$Folk", "name", "[J", true)
  | 7 => ("RimCoins$Folk", "nearTo", "[I", true)
  | _ => ("RimCoins$Folk", "reach", "[I", true)
def tyX1 : Nat → FieldType := fun k => match k with
  | 0 => .int
  | 1 => .int
  | 2 => .int
  | 3 => .array .int
  | 4 => .array .int
  | 5 => .array .int
  | 6 => .array .long
  | 7 => .array .int
  | _ => .array .int
abbrev wsX10 : List Cond := u_ws RX1 TX1 9
theorem nmX1 : ∀ a, a < 9 → ∀ b, b < 9 → a ≠ b → (TX1 a).2.1 ≠ (TX1 b).2.1 := by decide +kernel
theorem tyX1_ok : ∀ k, k < 9 → parseFieldDescriptor (TX1 k).2.2.1 = some (tyX1 k) := by decide +kernel
def RX2 : String := "RimCoins$Journey"
def TX2 : u_T := fun k => match k with
  | 0 => ("RimCoins$Journey", "seen", "[J", true)
  | 1 => ("RimCoins$Journey", "open", "[J", true)
  | 2 => ("RimCoins$Journey", "queue", "[J", true)
  | 3 => ("RimCoins$Journey", "people", "I", false)
  | 4 => ("RimCoins$Journey", "row", "[I", true)
  | 5 => ("RimCoins$Journey", "rowSize", "I", false)
  | 6 => ("RimCoins$Journey", "allowed", "[I", true)
  | 7 => ("RimCoins$Journey", "hadBits", "[I", true)
  | _ => ("RimCoins$Journey", "hadSize", "I", false)
def tyX2 : Nat → FieldType := fun k => match k with
  | 0 => .array .long
  | 1 => .array .long
  | 2 => .array .long
  | 3 => .int
  | 4 => .array .int
  | 5 => .int
  | 6 => .array .int
  | 7 => .array .int
  | _ => .int
abbrev wsX20 : List Cond := u_ws RX2 TX2 9
theorem nmX2 : ∀ a, a < 9 → ∀ b, b < 9 → a ≠ b → (TX2 a).2.1 ≠ (TX2 b).2.1 := by decide +kernel
theorem tyX2_ok : ∀ k, k < 9 → parseFieldDescriptor (TX2 k).2.2.1 = some (tyX2 k) := by decide +kernel
def RX3 : String := "RimCoins$Lots"
def TX3 : u_T := fun k => match k with
  | 0 => ("RimCoins$Lots", "x", "I", false)
  | 1 => ("RimCoins$Lots", "went", "I", false)
  | 2 => ("RimCoins$Lots", "refused", "I", false)
  | 3 => ("RimCoins$Lots", "births", "I", false)
  | _ => ("RimCoins$Lots", "thefts", "I", false)
def tyX3 : Nat → FieldType := fun k => match k with
  | 0 => .int
  | 1 => .int
  | 2 => .int
  | 3 => .int
  | _ => .int
abbrev wsX30 : List Cond := u_ws RX3 TX3 5
theorem nmX3 : ∀ a, a < 5 → ∀ b, b < 5 → a ≠ b → (TX3 a).2.1 ≠ (TX3 b).2.1 := by decide +kernel
theorem tyX3_ok : ∀ k, k < 5 → parseFieldDescriptor (TX3 k).2.2.1 = some (tyX3 k) := by decide +kernel
def RX4 : String := "RimCoins$Orderings"
def TX4 : u_T := fun k => match k with
  | 0 => ("RimCoins$Orderings", "purses", "[LRimCoins$Purse;", true)
  | 1 => ("RimCoins$Orderings", "told", "[I", true)
  | 2 => ("RimCoins$Orderings", "tried", "[I", true)
  | 3 => ("RimCoins$Orderings", "found", "[I", true)
  | 4 => ("RimCoins$Orderings", "size", "I", false)
  | 5 => ("RimCoins$Orderings", "foundSize", "I", false)
  | _ => ("RimCoins$Orderings", "most", "I", false)
def tyX4 : Nat → FieldType := fun k => match k with
  | 0 => .array (.object "RimCoins$Purse")
  | 1 => .array .int
  | 2 => .array .int
  | 3 => .array .int
  | 4 => .int
  | 5 => .int
  | _ => .int
abbrev wsX40 : List Cond := u_ws RX4 TX4 7
theorem nmX4 : ∀ a, a < 7 → ∀ b, b < 7 → a ≠ b → (TX4 a).2.1 ≠ (TX4 b).2.1 := by decide +kernel
theorem tyX4_ok : ∀ k, k < 7 → parseFieldDescriptor (TX4 k).2.2.1 = some (tyX4 k) := by decide +kernel
def RX5 : String := "RimCoins$Payment"
def TX5 : u_T := fun k => match k with
  | 0 => ("RimCoins$Payment", "weights", "[J", true)
  | 1 => ("RimCoins$Payment", "dayWeights", "[J", true)
  | _ => ("RimCoins$Payment", "coins", "J", false)
def tyX5 : Nat → FieldType := fun k => match k with
  | 0 => .array .long
  | 1 => .array .long
  | _ => .long
abbrev wsX50 : List Cond := u_ws RX5 TX5 3
theorem nmX5 : ∀ a, a < 3 → ∀ b, b < 3 → a ≠ b → (TX5 a).2.1 ≠ (TX5 b).2.1 := by decide +kernel
theorem tyX5_ok : ∀ k, k < 3 → parseFieldDescriptor (TX5 k).2.2.1 = some (tyX5 k) := by decide +kernel
def RX6 : String := "RimCoins$Purse"
def TX6 : u_T := fun k => match k with
  | 0 => ("RimCoins$Purse", "size", "I", false)
  | 1 => ("RimCoins$Purse", "rimSize", "I", false)
  | 2 => ("RimCoins$Purse", "value", "[I", true)
  | 3 => ("RimCoins$Purse", "owner", "[I", true)
  | _ => ("RimCoins$Purse", "rim", "[I", true)
def tyX6 : Nat → FieldType := fun k => match k with
  | 0 => .int
  | 1 => .int
  | 2 => .array .int
  | 3 => .array .int
  | _ => .array .int
abbrev wsX60 : List Cond := u_ws RX6 TX6 5
theorem nmX6 : ∀ a, a < 5 → ∀ b, b < 5 → a ≠ b → (TX6 a).2.1 ≠ (TX6 b).2.1 := by decide +kernel
theorem tyX6_ok : ∀ k, k < 5 → parseFieldDescriptor (TX6 k).2.2.1 = some (tyX6 k) := by decide +kernel
def RX7 : String := "RimCoins$Sentence"
def TX7 : u_T := fun k => match k with
  | 0 => ("RimCoins$Sentence", "step", "[LRimCoins$Word;", true)
  | 1 => ("RimCoins$Sentence", "sign", "[I", true)
  | 2 => ("RimCoins$Sentence", "about", "[I", true)
  | 3 => ("RimCoins$Sentence", "pile", "[J", true)
  | 4 => ("RimCoins$Sentence", "steps", "I", false)
  | _ => ("RimCoins$Sentence", "ones", "I", false)
def tyX7 : Nat → FieldType := fun k => match k with
  | 0 => .array (.object "RimCoins$Word")
  | 1 => .array .int
  | 2 => .array .int
  | 3 => .array .long
  | 4 => .int
  | _ => .int
abbrev wsX70 : List Cond := u_ws RX7 TX7 6
theorem nmX7 : ∀ a, a < 6 → ∀ b, b < 6 → a ≠ b → (TX7 a).2.1 ≠ (TX7 b).2.1 := by decide +kernel
theorem tyX7_ok : ∀ k, k < 6 → parseFieldDescriptor (TX7 k).2.2.1 = some (tyX7 k) := by decide +kernel
def RX8 : String := "RimCoins$Tape"
def TX8 : u_T := fun k => match k with
  | 0 => ("RimCoins$Tape", "bytes", "[B", true)
  | 1 => ("RimCoins$Tape", "length", "I", false)
  | 2 => ("RimCoins$Tape", "limit", "I", false)
  | 3 => ("RimCoins$Tape", "ahead", "I", false)
  | 4 => ("RimCoins$Tape", "sort", "I", false)
  | 5 => ("RimCoins$Tape", "place", "I", false)
  | 6 => ("RimCoins$Tape", "number", "I", false)
  | 7 => ("RimCoins$Tape", "code", "J", false)
  | 8 => ("RimCoins$Tape", "word", "LRimCoins$Word;", false)
  | 9 => ("RimCoins$Tape", "fault", "I", false)
  | _ => ("RimCoins$Tape", "faultPlace", "I", false)
def tyX8 : Nat → FieldType := fun k => match k with
  | 0 => .array .byte
  | 1 => .int
  | 2 => .int
  | 3 => .int
  | 4 => .int
  | 5 => .int
  | 6 => .int
  | 7 => .long
  | 8 => .object "RimCoins$Word"
  | 9 => .int
  | _ => .int
abbrev wsX80 : List Cond := u_ws RX8 TX8 11
theorem nmX8 : ∀ a, a < 11 → ∀ b, b < 11 → a ≠ b → (TX8 a).2.1 ≠ (TX8 b).2.1 := by decide +kernel
theorem tyX8_ok : ∀ k, k < 11 → parseFieldDescriptor (TX8 k).2.2.1 = some (tyX8 k) := by decide +kernel
def RX9 : String := "RimCoins$Valley"
def TX9 : u_T := fun k => match k with
  | 0 => ("RimCoins$Valley", "folk", "LRimCoins$Folk;", true)
  | 1 => ("RimCoins$Valley", "purse", "LRimCoins$Purse;", true)
  | 2 => ("RimCoins$Valley", "sentence", "LRimCoins$Sentence;", true)
  | 3 => ("RimCoins$Valley", "debtor", "[I", true)
  | 4 => ("RimCoins$Valley", "creditor", "[I", true)
  | 5 => ("RimCoins$Valley", "owed", "[I", true)
  | 6 => ("RimCoins$Valley", "debts", "I", false)
  | 7 => ("RimCoins$Valley", "cleared", "I", false)
  | 8 => ("RimCoins$Valley", "fee", "I", false)
  | _ => ("RimCoins$Valley", "law", "I", false)
def tyX9 : Nat → FieldType := fun k => match k with
  | 0 => .object "RimCoins$Folk"
  | 1 => .object "RimCoins$Purse"
  | 2 => .object "RimCoins$Sentence"
  | 3 => .array .int
  | 4 => .array .int
  | 5 => .array .int
  | 6 => .int
  | 7 => .int
  | 8 => .int
  | _ => .int
abbrev wsX90 : List Cond := u_ws RX9 TX9 10
theorem nmX9 : ∀ a, a < 10 → ∀ b, b < 10 → a ≠ b → (TX9 a).2.1 ≠ (TX9 b).2.1 := by decide +kernel
theorem tyX9_ok : ∀ k, k < 10 → parseFieldDescriptor (TX9 k).2.2.1 = some (tyX9 k) := by decide +kernel
def RX10 : String := "RimCoins$ValleyText"
def TX10 : u_T := fun k => match k with
  | 0 => ("RimCoins$ValleyText", "tape", "LRimCoins$Tape;", true)
  | 1 => ("RimCoins$ValleyText", "draft", "LRimCoins$Valley;", true)
  | 2 => ("RimCoins$ValleyText", "lines", "I", false)
  | 3 => ("RimCoins$ValleyText", "number", "I", false)
  | 4 => ("RimCoins$ValleyText", "found", "I", false)
  | 5 => ("RimCoins$ValleyText", "rimTold", "Z", false)
  | 6 => ("RimCoins$ValleyText", "feeTold", "Z", false)
  | _ => ("RimCoins$ValleyText", "lawTold", "Z", false)
def tyX10 : Nat → FieldType := fun k => match k with
  | 0 => .object "RimCoins$Tape"
  | 1 => .object "RimCoins$Valley"
  | 2 => .int
  | 3 => .int
  | 4 => .int
  | 5 => .boolean
  | 6 => .boolean
  | _ => .boolean
abbrev wsX100 : List Cond := u_ws RX10 TX10 8
theorem nmX10 : ∀ a, a < 8 → ∀ b, b < 8 → a ≠ b → (TX10 a).2.1 ≠ (TX10 b).2.1 := by decide +kernel
theorem tyX10_ok : ∀ k, k < 8 → parseFieldDescriptor (TX10 k).2.2.1 = some (tyX10 k) := by decide +kernel
def RX11 : String := "RimCoins$Word"
def TX11 : u_T := fun k => match k with
  | _ => ("", "", "", false)
def tyX11 : Nat → FieldType := fun k => match k with
  | _ => .int
abbrev wsX110 : List Cond := u_ws RX11 TX11 0
theorem nmX11 : ∀ a, a < 0 → ∀ b, b < 0 → a ≠ b → (TX11 a).2.1 ≠ (TX11 b).2.1 := by decide +kernel
theorem tyX11_ok : ∀ k, k < 0 → parseFieldDescriptor (TX11 k).2.2.1 = some (tyX11 k) := by decide +kernel
def RX12 : String := "RimCoins"
def TX12 : u_T := fun k => match k with
  | 0 => ("RimCoins", "tape", "LRimCoins$Tape;", true)
  | 1 => ("RimCoins", "valley", "LRimCoins$Valley;", true)
  | 2 => ("RimCoins", "draft", "LRimCoins$Valley;", true)
  | 3 => ("RimCoins", "places", "[LRimCoins$Valley;", true)
  | 4 => ("RimCoins", "placesKept", "I", false)
  | 5 => ("RimCoins", "payment", "LRimCoins$Payment;", true)
  | 6 => ("RimCoins", "journey", "LRimCoins$Journey;", true)
  | 7 => ("RimCoins", "orderings", "LRimCoins$Orderings;", true)
  | 8 => ("RimCoins", "lots", "LRimCoins$Lots;", true)
  | 9 => ("RimCoins", "tradeLots", "LRimCoins$Lots;", true)
  | 10 => ("RimCoins", "daysDrawn", "Z", false)
  | 11 => ("RimCoins", "latestFault", "I", false)
  | 12 => ("RimCoins", "givenCoins", "J", false)
  | _ => ("RimCoins", "givenAmong", "I", false)
def tyX12 : Nat → FieldType := fun k => match k with
  | 0 => .object "RimCoins$Tape"
  | 1 => .object "RimCoins$Valley"
  | 2 => .object "RimCoins$Valley"
  | 3 => .array (.object "RimCoins$Valley")
  | 4 => .int
  | 5 => .object "RimCoins$Payment"
  | 6 => .object "RimCoins$Journey"
  | 7 => .object "RimCoins$Orderings"
  | 8 => .object "RimCoins$Lots"
  | 9 => .object "RimCoins$Lots"
  | 10 => .boolean
  | 11 => .int
  | 12 => .long
  | _ => .int
abbrev wsX120 : List Cond := u_ws RX12 TX12 14
theorem nmX12 : ∀ a, a < 14 → ∀ b, b < 14 → a ≠ b → (TX12 a).2.1 ≠ (TX12 b).2.1 := by decide +kernel
theorem tyX12_ok : ∀ k, k < 14 → parseFieldDescriptor (TX12 k).2.2.1 = some (tyX12 k) := by decide +kernel
def RX13 : String := "RimCoinsModel"
def TX13 : u_T := fun k => match k with
  | 0 => ("RimCoinsModel", "thrown", "I", false)
  | 1 => ("RimCoinsModel", "tape", "[I", true)
  | 2 => ("RimCoinsModel", "taped", "I", false)
  | 3 => ("RimCoinsModel", "size", "I", false)
  | 4 => ("RimCoinsModel", "limit", "I", false)
  | 5 => ("RimCoinsModel", "to", "I", false)
  | 6 => ("RimCoinsModel", "from", "I", false)
  | 7 => ("RimCoinsModel", "kind", "I", false)
  | 8 => ("RimCoinsModel", "number", "I", false)
  | 9 => ("RimCoinsModel", "sign", "I", false)
  | 10 => ("RimCoinsModel", "fault", "I", false)
  | 11 => ("RimCoinsModel", "place", "I", false)
  | 12 => ("RimCoinsModel", "word", "J", false)
  | 13 => ("RimCoinsModel", "told", "I", false)
  | 14 => ("RimCoinsModel", "now", "[I", true)
  | 15 => ("RimCoinsModel", "read", "[I", true)
  | 16 => ("RimCoinsModel", "kept", "[I", true)
  | 17 => ("RimCoinsModel", "aside", "[I", true)
  | 18 => ("RimCoinsModel", "name", "[J", true)
  | 19 => ("RimCoinsModel", "readName", "[J", true)
  | 20 => ("RimCoinsModel", "keptName", "[J", true)
  | 21 => ("RimCoinsModel", "isKept", "[Z", true)
  | 22 => ("RimCoinsModel", "isBegun", "Z", false)
  | 23 => ("RimCoinsModel", "onces", "I", false)
  | 24 => ("RimCoinsModel", "held", "[I", true)
  | 25 => ("RimCoinsModel", "fewest", "[I", true)
  | 26 => ("RimCoinsModel", "given", "[I", true)
  | 27 => ("RimCoinsModel", "chosen", "[I", true)
  | 28 => ("RimCoinsModel", "givenMany", "I", false)
  | 29 => ("RimCoinsModel", "lefts", "[Z", true)
  | 30 => ("RimCoinsModel", "nexts", "[Z", true)
  | 31 => ("RimCoinsModel", "came", "[I", true)
  | 32 => ("RimCoinsModel", "queue", "[I", true)
  | 33 => ("RimCoinsModel", "ways", "[I", true)
  | 34 => ("RimCoinsModel", "hand", "[I", true)
  | 35 => ("RimCoinsModel", "queued", "I", false)
  | 36 => ("RimCoinsModel", "handMany", "I", false)
  | 37 => ("RimCoinsModel", "last", "I", false)
  | 38 => ("RimCoinsModel", "asked", "[I", true)
  | 39 => ("RimCoinsModel", "order", "[I", true)
  | 40 => ("RimCoinsModel", "bestOrder", "[I", true)
  | 41 => ("RimCoinsModel", "askedMany", "I", false)
  | 42 => ("RimCoinsModel", "mostCleared", "I", false)
  | 43 => ("RimCoinsModel", "orderMany", "I", false)
  | 44 => ("RimCoinsModel", "wish", "[I", true)
  | 45 => ("RimCoinsModel", "row", "[I", true)
  | 46 => ("RimCoinsModel", "hadBits", "[I", true)
  | 47 => ("RimCoinsModel", "wayMany", "I", false)
  | 48 => ("RimCoinsModel", "waysFound", "I", false)
  | 49 => ("RimCoinsModel", "seed", "I", false)
  | 50 => ("RimCoinsModel", "went", "I", false)
  | 51 => ("RimCoinsModel", "notGone", "I", false)
  | 52 => ("RimCoinsModel", "births", "I", false)
  | 53 => ("RimCoinsModel", "thefts", "I", false)
  | 54 => ("RimCoinsModel", "drawn", "[I", true)
  | 55 => ("RimCoinsModel", "node", "[I", true)
  | 56 => ("RimCoinsModel", "nodes", "I", false)
  | 57 => ("RimCoinsModel", "onesMany", "I", false)
  | 58 => ("RimCoinsModel", "within", "I", false)
  | _ => ("RimCoinsModel", "top", "I", false)
def tyX13 : Nat → FieldType := fun k => match k with
  | 0 => .int
  | 1 => .array .int
  | 2 => .int
  | 3 => .int
  | 4 => .int
  | 5 => .int
  | 6 => .int
  | 7 => .int
  | 8 => .int
  | 9 => .int
  | 10 => .int
  | 11 => .int
  | 12 => .long
  | 13 => .int
  | 14 => .array .int
  | 15 => .array .int
  | 16 => .array .int
  | 17 => .array .int
  | 18 => .array .long
  | 19 => .array .long
  | 20 => .array .long
  | 21 => .array .boolean
  | 22 => .boolean
  | 23 => .int
  | 24 => .array .int
  | 25 => .array .int
  | 26 => .array .int
  | 27 => .array .int
  | 28 => .int
  | 29 => .array .boolean
  | 30 => .array .boolean
  | 31 => .array .int
  | 32 => .array .int
  | 33 => .array .int
  | 34 => .array .int
  | 35 => .int
  | 36 => .int
  | 37 => .int
  | 38 => .array .int
  | 39 => .array .int
  | 40 => .array .int
  | 41 => .int
  | 42 => .int
  | 43 => .int
  | 44 => .array .int
  | 45 => .array .int
  | 46 => .array .int
  | 47 => .int
  | 48 => .int
  | 49 => .int
  | 50 => .int
  | 51 => .int
  | 52 => .int
  | 53 => .int
  | 54 => .array .int
  | 55 => .array .int
  | 56 => .int
  | 57 => .int
  | 58 => .int
  | _ => .int
abbrev wsX130 : List Cond := u_ws RX13 TX13 60
theorem nmX13 : ∀ a, a < 60 → ∀ b, b < 60 → a ≠ b → (TX13 a).2.1 ≠ (TX13 b).2.1 := by decide +kernel
theorem tyX13_ok : ∀ k, k < 60 → parseFieldDescriptor (TX13 k).2.2.1 = some (tyX13 k) := by decide +kernel
def RJx145de : String := "java/io/Serializable"
def TJx145de : u_T := fun k => match k with
  | _ => ("", "", "", false)
def tyJx145de : Nat → FieldType := fun k => match k with
  | _ => .int
abbrev wsJx145de0 : List Cond := u_ws RJx145de TJx145de 0
theorem nmJx145de : ∀ a, a < 0 → ∀ b, b < 0 → a ≠ b → (TJx145de a).2.1 ≠ (TJx145de b).2.1 := by decide +kernel
theorem tyJx145de_ok : ∀ k, k < 0 → parseFieldDescriptor (TJx145de k).2.2.1 = some (tyJx145de k) := by decide +kernel
def RJxb160c : String := "java/lang/Comparable"
def TJxb160c : u_T := fun k => match k with
  | _ => ("", "", "", false)
def tyJxb160c : Nat → FieldType := fun k => match k with
  | _ => .int
abbrev wsJxb160c0 : List Cond := u_ws RJxb160c TJxb160c 0
theorem nmJxb160c : ∀ a, a < 0 → ∀ b, b < 0 → a ≠ b → (TJxb160c a).2.1 ≠ (TJxb160c b).2.1 := by decide +kernel
theorem tyJxb160c_ok : ∀ k, k < 0 → parseFieldDescriptor (TJxb160c k).2.2.1 = some (tyJxb160c k) := by decide +kernel
def RJx29ce0 : String := "java/lang/Enum"
def TJx29ce0 : u_T := fun k => match k with
  | _ => ("", "", "", false)
def tyJx29ce0 : Nat → FieldType := fun k => match k with
  | _ => .int
abbrev wsJx29ce00 : List Cond := u_ws RJx29ce0 TJx29ce0 0
theorem nmJx29ce0 : ∀ a, a < 0 → ∀ b, b < 0 → a ≠ b → (TJx29ce0 a).2.1 ≠ (TJx29ce0 b).2.1 := by decide +kernel
theorem tyJx29ce0_ok : ∀ k, k < 0 → parseFieldDescriptor (TJx29ce0 k).2.2.1 = some (tyJx29ce0 k) := by decide +kernel
def RJ6 : String := "java/lang/Integer"
def TJ6 : u_T := fun k => match k with
  | _ => ("", "", "", false)
def tyJ6 : Nat → FieldType := fun k => match k with
  | _ => .int
abbrev wsJ60 : List Cond := u_ws RJ6 TJ6 0
theorem nmJ6 : ∀ a, a < 0 → ∀ b, b < 0 → a ≠ b → (TJ6 a).2.1 ≠ (TJ6 b).2.1 := by decide +kernel
theorem tyJ6_ok : ∀ k, k < 0 → parseFieldDescriptor (TJ6 k).2.2.1 = some (tyJ6 k) := by decide +kernel
def RJ13 : String := "java/lang/Long"
def TJ13 : u_T := fun k => match k with
  | _ => ("", "", "", false)
def tyJ13 : Nat → FieldType := fun k => match k with
  | _ => .int
abbrev wsJ130 : List Cond := u_ws RJ13 TJ13 0
theorem nmJ13 : ∀ a, a < 0 → ∀ b, b < 0 → a ≠ b → (TJ13 a).2.1 ≠ (TJ13 b).2.1 := by decide +kernel
theorem tyJ13_ok : ∀ k, k < 0 → parseFieldDescriptor (TJ13 k).2.2.1 = some (tyJ13 k) := by decide +kernel
def RJ9 : String := "java/lang/Math"
def TJ9 : u_T := fun k => match k with
  | _ => ("", "", "", false)
def tyJ9 : Nat → FieldType := fun k => match k with
  | _ => .int
abbrev wsJ90 : List Cond := u_ws RJ9 TJ9 0
theorem nmJ9 : ∀ a, a < 0 → ∀ b, b < 0 → a ≠ b → (TJ9 a).2.1 ≠ (TJ9 b).2.1 := by decide +kernel
theorem tyJ9_ok : ∀ k, k < 0 → parseFieldDescriptor (TJ9 k).2.2.1 = some (tyJ9 k) := by decide +kernel
def RJ0 : String := "java/lang/String"
def TJ0 : u_T := fun k => match k with
  | _ => ("", "", "", false)
def tyJ0 : Nat → FieldType := fun k => match k with
  | _ => .int
abbrev wsJ00 : List Cond := u_ws RJ0 TJ0 0
theorem nmJ0 : ∀ a, a < 0 → ∀ b, b < 0 → a ≠ b → (TJ0 a).2.1 ≠ (TJ0 b).2.1 := by decide +kernel
theorem tyJ0_ok : ∀ k, k < 0 → parseFieldDescriptor (TJ0 k).2.2.1 = some (tyJ0 k) := by decide +kernel
def RJxfd54e : String := "java/lang/constant/Constable"
def TJxfd54e : u_T := fun k => match k with
  | _ => ("", "", "", false)
def tyJxfd54e : Nat → FieldType := fun k => match k with
  | _ => .int
abbrev wsJxfd54e0 : List Cond := u_ws RJxfd54e TJxfd54e 0
theorem nmJxfd54e : ∀ a, a < 0 → ∀ b, b < 0 → a ≠ b → (TJxfd54e a).2.1 ≠ (TJxfd54e b).2.1 := by decide +kernel
theorem tyJxfd54e_ok : ∀ k, k < 0 → parseFieldDescriptor (TJxfd54e k).2.2.1 = some (tyJxfd54e k) := by decide +kernel
def RL : String := "RimCoinsLaw"
abbrev vwCl : List vw_C := [(RX1, TX1, 9), (RX2, TX2, 9), (RX3, TX3, 5), (RX4, TX4, 7), (RX5, TX5, 3), (RX6, TX6, 5), (RX7, TX7, 6), (RX8, TX8, 11), (RX9, TX9, 10), (RX10, TX10, 8), (RX12, TX12, 14), (RX13, TX13, 60)]
