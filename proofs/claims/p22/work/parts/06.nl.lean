def wsL_law0_r1 : List Cond := [Cond.classLink RL 26 RX3, Cond.instantiable RX3 13, Cond.initialized RX3, Cond.arrayClass .int, Cond.constant RL 91 (2147483647), Cond.constant RL 92 (48017), Cond.methodLink RL 86 yX3_init, Cond.instanceMethod yX3_init, Cond.code yX3_init cX3_init 1 none, Cond.methodLink RX3 1 objectInit, Cond.instanceMethod objectInit, Cond.code objectInit ⟨#[0xb1]⟩ 1 none, Cond.classLink RX3 7 RX2, Cond.instantiable RX2 3, Cond.initialized RX2, Cond.fieldLink RX3 10 "RepairSender" "block" "LRepairSender$Points;", Cond.fieldLink RX3 16 "RepairSender" "losses" "[I", Cond.fieldLink RX3 20 "RepairSender" "waits" "[I", Cond.fieldLink RX3 23 "RepairSender" "packetSets" "[I", Cond.fieldLink RX3 26 "RepairSender" "badCounts" "[I", Cond.arrayClass .boolean, Cond.fieldLink RX3 29 "RepairSender" "dropped" "[Z", Cond.fieldLink RX3 33 "RepairSender" "chosen" "LRepairSender$Points;", Cond.classLink RX3 36 RX0]
def wsL_law0_r2 : List Cond := [Cond.instantiable RX0 2, Cond.initialized RX0, Cond.fieldLink RX3 39 "RepairSender" "equations" "LRepairSender$Equations;", Cond.instanceMethod yX2_init, Cond.code yX2_init cX2_init 1 none, Cond.methodLink RX2 3 objectInit, Cond.fieldLink RX2 9 "RepairSender$Points" "places" "[I", Cond.fieldLink RX2 15 "RepairSender$Points" "values" "[I", Cond.instanceMethod yX0_init, Cond.code yX0_init cX0_init 1 none, Cond.methodLink RX0 3 objectInit, Cond.classLink RX0 9 "[[I", Cond.fieldLink RX0 11 "RepairSender$Equations" "cells" "[[I", Cond.methodLink RX3 43 yX3_startBlock, Cond.instanceMethod yX3_startBlock, Cond.selects RX3 yX3_startBlock yX3_startBlock, Cond.code yX3_startBlock cX3_startBlock 4 none, Cond.fieldLink RX3 173 "RepairSender" "patience" "I", Cond.fieldLink RX3 84 "RepairSender" "receiverCount" "I", Cond.fieldLink RX3 56 "RepairSender" "sentCount" "I", Cond.fieldLink RX3 111 "RepairSender" "reportCount" "I", Cond.fieldLink RX3 114 "RepairSender" "keptBackCount" "I", Cond.instanceMethod yX2_clear, Cond.selects RX2 yX2_clear yX2_clear]
def wsL_law0_r3 : List Cond := [Cond.code yX2_clear cX2_clear 1 none, Cond.fieldLink RX2 18 "RepairSender$Points" "count" "I", Cond.instanceMethod yX2_add, Cond.selects RX2 yX2_add yX2_add, Cond.code yX2_add cX2_add 3 none, Cond.methodLink RL 87 yL_isSender, Cond.static yL_isSender, Cond.initialized RL, Cond.code yL_isSender cL_isSender 9 (some .boolean), Cond.methodLink RL 50 yX3_sent, Cond.instanceMethod yX3_sent, Cond.selects RX3 yX3_sent yX3_sent, Cond.code yX3_sent cX3_sent 1 (some .int), Cond.methodLink RL 53 yX3_receivers, Cond.instanceMethod yX3_receivers, Cond.selects RX3 yX3_receivers yX3_receivers, Cond.code yX3_receivers cX3_receivers 1 (some .int), Cond.methodLink RL 56 yX3_reports, Cond.instanceMethod yX3_reports, Cond.selects RX3 yX3_reports yX3_reports, Cond.code yX3_reports cX3_reports 1 (some .int), Cond.methodLink RL 59 yX3_keptBack, Cond.instanceMethod yX3_keptBack, Cond.selects RX3 yX3_keptBack yX3_keptBack]
def wsL_law0_r4 : List Cond := [Cond.code yX3_keptBack cX3_keptBack 1 (some .int), Cond.methodLink RL 17 yL_need, Cond.static yL_need, Cond.code yL_need cL_need 5 (some .int), Cond.methodLink RL 62 yX3_has, Cond.instanceMethod yX3_has, Cond.selects RX3 yX3_has yX3_has, Cond.code yX3_has cX3_has 2 (some .int), Cond.methodLink RX3 89 yX3_demandReceiver, Cond.instanceMethod yX3_demandReceiver, Cond.selects RX3 yX3_demandReceiver yX3_demandReceiver, Cond.code yX3_demandReceiver cX3_demandReceiver 2 none, Cond.classLink RX3 129 "java/lang/IndexOutOfBoundsException", Cond.initialized "java/lang/IndexOutOfBoundsException", Cond.methodLink RL 65 yX3_need, Cond.instanceMethod yX3_need, Cond.selects RX3 yX3_need yX3_need, Cond.code yX3_need cX3_need 2 (some .int), Cond.methodLink RX3 117 yX3_needOf, Cond.instanceMethod yX3_needOf, Cond.selects RX3 yX3_needOf yX3_needOf, Cond.code yX3_needOf cX3_needOf 2 (some .int), Cond.methodLink RX3 181 Lib.Math.max.name, Cond.static Lib.Math.max.name]
def wsL_law0_r5 : List Cond := [Cond.initialized "java/lang/Math", Cond.code Lib.Math.max.name Lib.Math.max.code 2 (some .int), Cond.methodLink RX3 176 yJ6_bitCount_0f7a4, Cond.static yJ6_bitCount_0f7a4, Cond.initialized RJ6, Cond.code yJ6_bitCount_0f7a4 cJ6_bitCount_0f7a4 1 (some .int), Cond.constant RJ6 265 (1431655765), Cond.constant RJ6 266 (858993459), Cond.constant RJ6 267 (252645135), Cond.methodLink RL 67 yX3_isDropped, Cond.instanceMethod yX3_isDropped, Cond.selects RX3 yX3_isDropped yX3_isDropped, Cond.code yX3_isDropped cX3_isDropped 2 (some .boolean), Cond.methodLink RL 71 yX3_badRounds, Cond.instanceMethod yX3_badRounds, Cond.selects RX3 yX3_badRounds yX3_badRounds, Cond.code yX3_badRounds cX3_badRounds 2 (some .int), Cond.methodLink RL 74 yL_does, Cond.static yL_does, Cond.codeWith yL_does cL_does 5 (some .int) [(0, 72, 73, 46), (0, 72, 78, 48)], Cond.classLink RL 46 "java/lang/IndexOutOfBoundsException", Cond.classLink RL 48 "java/lang/IllegalStateException", Cond.methodLink RL 25 yX3_setDatum, Cond.instanceMethod yX3_setDatum]
def wsL_law0_r6 : List Cond := [Cond.selects RX3 yX3_setDatum yX3_setDatum, Cond.code yX3_setDatum cX3_setDatum 4 (some .int), Cond.classLink RX3 47 "java/lang/IllegalArgumentException", Cond.initialized "java/lang/IllegalArgumentException", Cond.classLink RX3 70 "java/lang/IllegalStateException", Cond.initialized "java/lang/IllegalStateException", Cond.methodLink RX3 60 yX3_demandPlace, Cond.instanceMethod yX3_demandPlace, Cond.selects RX3 yX3_demandPlace yX3_demandPlace, Cond.code yX3_demandPlace cX3_demandPlace 2 none, Cond.methodLink RX3 64 yX3_isFieldNumber, Cond.static yX3_isFieldNumber, Cond.code yX3_isFieldNumber cX3_isFieldNumber 1 (some .boolean), Cond.methodLink RL 30 yX3_join, Cond.instanceMethod yX3_join, Cond.selects RX3 yX3_join yX3_join, Cond.code yX3_join cX3_join 4 (some .int), Cond.methodLink RX3 78 yX3_demandLosses, Cond.static yX3_demandLosses, Cond.code yX3_demandLosses cX3_demandLosses 1 none, Cond.methodLink RX3 81 yX3_demandWait, Cond.static yX3_demandWait, Cond.code yX3_demandWait cX3_demandWait 1 none, Cond.methodLink RL 33 yX3_send]
def wsL_law0_r7 : List Cond := [Cond.instanceMethod yX3_send, Cond.selects RX3 yX3_send yX3_send, Cond.code yX3_send cX3_send 2 (some .int), Cond.methodLink RX3 96 yX3_sendPackets, Cond.instanceMethod yX3_sendPackets, Cond.selects RX3 yX3_sendPackets yX3_sendPackets, Cond.code yX3_sendPackets cX3_sendPackets 3 none, Cond.methodLink RX3 186 yX3_sendNextPacket, Cond.instanceMethod yX3_sendNextPacket, Cond.selects RX3 yX3_sendNextPacket yX3_sendNextPacket, Cond.code yX3_sendNextPacket cX3_sendNextPacket 4 none, Cond.methodLink RX3 99 yX3_completeCount, Cond.instanceMethod yX3_completeCount, Cond.selects RX3 yX3_completeCount yX3_completeCount, Cond.code yX3_completeCount cX3_completeCount 3 (some .int), Cond.methodLink RL 36 yX3_round, Cond.instanceMethod yX3_round, Cond.selects RX3 yX3_round yX3_round, Cond.code yX3_round cX3_round 2 (some .int), Cond.methodLink RX3 105 yX3_hearReports, Cond.instanceMethod yX3_hearReports, Cond.selects RX3 yX3_hearReports yX3_hearReports, Cond.code yX3_hearReports cX3_hearReports 3 (some .int), Cond.methodLink RX3 189 yX3_hearReportsAt]
def wsL_law0_r8 : List Cond := [Cond.instanceMethod yX3_hearReportsAt, Cond.selects RX3 yX3_hearReportsAt yX3_hearReportsAt, Cond.code yX3_hearReportsAt cX3_hearReportsAt 6 (some .int), Cond.methodLink RX3 192 yX3_isLiveAndLacks, Cond.instanceMethod yX3_isLiveAndLacks, Cond.selects RX3 yX3_isLiveAndLacks yX3_isLiveAndLacks, Cond.code yX3_isLiveAndLacks cX3_isLiveAndLacks 2 (some .boolean), Cond.methodLink RX3 108 yX3_countBadRounds, Cond.instanceMethod yX3_countBadRounds, Cond.selects RX3 yX3_countBadRounds yX3_countBadRounds, Cond.code yX3_countBadRounds cX3_countBadRounds 2 none, Cond.methodLink RL 40 yX3_rebuilt, Cond.instanceMethod yX3_rebuilt, Cond.selects RX3 yX3_rebuilt yX3_rebuilt, Cond.code yX3_rebuilt cX3_rebuilt 3 (some .int), Cond.methodLink RX3 137 yX3_demandRebuilding, Cond.instanceMethod yX3_demandRebuilding, Cond.selects RX3 yX3_demandRebuilding yX3_demandRebuilding, Cond.code yX3_demandRebuilding cX3_demandRebuilding 3 none, Cond.methodLink RX3 140 yX3_chooseLowest, Cond.instanceMethod yX3_chooseLowest, Cond.selects RX3 yX3_chooseLowest yX3_chooseLowest, Cond.code yX3_chooseLowest cX3_chooseLowest 3 none, Cond.methodLink RX3 195 yX3_chooseIfWanted]
def wsL_law0_r9 : List Cond := [Cond.instanceMethod yX3_chooseIfWanted, Cond.selects RX3 yX3_chooseIfWanted yX3_chooseIfWanted, Cond.code yX3_chooseIfWanted cX3_chooseIfWanted 4 none, Cond.instanceMethod yX2_polynomialAt, Cond.selects RX2 yX2_polynomialAt yX2_polynomialAt, Cond.code yX2_polynomialAt cX2_polynomialAt 4 (some .int), Cond.methodLink RX2 22 yX2_weight, Cond.instanceMethod yX2_weight, Cond.selects RX2 yX2_weight yX2_weight, Cond.code yX2_weight cX2_weight 6 (some .int), Cond.static yX1_product, Cond.initialized RX1, Cond.code yX1_product cX1_product 5 (some .int), Cond.static yX1_inverse, Cond.code yX1_inverse cX1_inverse 4 (some .int), Cond.methodLink RX1 11 yX1_product, Cond.methodLink RL 43 yX3_rebuiltByElimination, Cond.instanceMethod yX3_rebuiltByElimination, Cond.selects RX3 yX3_rebuiltByElimination yX3_rebuiltByElimination, Cond.code yX3_rebuiltByElimination cX3_rebuiltByElimination 3 (some .int), Cond.methodLink RX3 143 yX3_chooseHighest, Cond.instanceMethod yX3_chooseHighest, Cond.selects RX3 yX3_chooseHighest yX3_chooseHighest, Cond.code yX3_chooseHighest cX3_chooseHighest 3 none]
def wsL_law0_r10 : List Cond := [Cond.instanceMethod yX0_write, Cond.selects RX0 yX0_write yX0_write, Cond.code yX0_write cX0_write 5 none, Cond.fieldLink RX0 22 "RepairSender$Equations" "count" "I", Cond.instanceMethod yX0_solve, Cond.selects RX0 yX0_solve yX0_solve, Cond.code yX0_solve cX0_solve 3 none, Cond.methodLink RX0 40 yX0_scaleRow, Cond.instanceMethod yX0_scaleRow, Cond.selects RX0 yX0_scaleRow yX0_scaleRow, Cond.code yX0_scaleRow cX0_scaleRow 4 none, Cond.methodLink RX0 44 yX0_addMultiple, Cond.instanceMethod yX0_addMultiple, Cond.selects RX0 yX0_addMultiple yX0_addMultiple, Cond.code yX0_addMultiple cX0_addMultiple 5 none, Cond.instanceMethod yX0_polynomialAt, Cond.selects RX0 yX0_polynomialAt yX0_polynomialAt, Cond.code yX0_polynomialAt cX0_polynomialAt 4 (some .int), Cond.methodLink RL 78 yX3_packet, Cond.instanceMethod yX3_packet, Cond.selects RX3 yX3_packet yX3_packet, Cond.code yX3_packet cX3_packet 2 (some .int), Cond.methodLink RL 81 yL_packet, Cond.static yL_packet]
def wsL_law0_r11 : List Cond := [Cond.code yL_packet cL_packet 7 (some .int), Cond.methodLink RL 13 yL_inverse, Cond.static yL_inverse, Cond.code yL_inverse cL_inverse 4 (some .int), Cond.methodLink RL 7 yL_product, Cond.static yL_product, Cond.code yL_product cL_product 4 (some .int), Cond.methodLink RL 83 yX3_times, Cond.instanceMethod yX3_times, Cond.selects RX3 yX3_times yX3_times, Cond.code yX3_times cX3_times 3 (some .int), Cond.methodLink RL 93 yX3_begin, Cond.instanceMethod yX3_begin, Cond.selects RX3 yX3_begin yX3_begin, Cond.code yX3_begin cX3_begin 4 (some .int), Cond.methodLink RL 96 yX3_setLosses, Cond.instanceMethod yX3_setLosses, Cond.selects RX3 yX3_setLosses yX3_setLosses, Cond.code yX3_setLosses cX3_setLosses 4 (some .int), Cond.methodLink RL 99 yX3_setWait, Cond.instanceMethod yX3_setWait, Cond.selects RX3 yX3_setWait yX3_setWait, Cond.code yX3_setWait cX3_setWait 4 (some .int), Cond.methodLink RL 21 yL_sends]
def wsL_law0_r12 : List Cond := [Cond.static yL_sends, Cond.code yL_sends cL_sends 6 none, Cond.methodLink RL 102 yL_rounds, Cond.static yL_rounds, Cond.code yL_rounds cL_rounds 7 (some .int)]
def wsL_law0 : List Cond := (wsL_law0_r1 ++ (wsL_law0_r2 ++ (wsL_law0_r3 ++ (wsL_law0_r4 ++ (wsL_law0_r5 ++ (wsL_law0_r6 ++ (wsL_law0_r7 ++ (wsL_law0_r8 ++ (wsL_law0_r9 ++ (wsL_law0_r10 ++ (wsL_law0_r11 ++ wsL_law0_r12))))))))))) ++ wsX30 ++ wsX20 ++ wsX00 ++ ([] : List Cond)
def wsL_law : List Cond := wsL_law0 ++ (vx_atS RX3 133 "java/lang/IndexOutOfBoundsException" ["java/lang/RuntimeException", "java/lang/Exception"]).filter goodWord ++ (vx_atS RX3 51 "java/lang/IllegalArgumentException" ["java/lang/RuntimeException", "java/lang/Exception"]).filter goodWord ++ (vx_atS RX3 74 "java/lang/IllegalStateException" ["java/lang/RuntimeException", "java/lang/Exception"]).filter goodWord
theorem dJ6_bitCount_0f7a4_0 : decode cJ6_bitCount_0f7a4 0 = .ok (.iload_n 0, 1) := by decide +kernel
theorem dJ6_bitCount_0f7a4_1 : decode cJ6_bitCount_0f7a4 1 = .ok (.iload_n 0, 1) := by decide +kernel
theorem dJ6_bitCount_0f7a4_2 : decode cJ6_bitCount_0f7a4 2 = .ok (.iconst 1, 1) := by decide +kernel
theorem dJ6_bitCount_0f7a4_3 : decode cJ6_bitCount_0f7a4 3 = .ok (.iushr, 1) := by decide +kernel
theorem dJ6_bitCount_0f7a4_4 : decode cJ6_bitCount_0f7a4 4 = .ok (.ldc_w 265, 3) := by decide +kernel
theorem dJ6_bitCount_0f7a4_7 : decode cJ6_bitCount_0f7a4 7 = .ok (.iand, 1) := by decide +kernel
theorem dJ6_bitCount_0f7a4_8 : decode cJ6_bitCount_0f7a4 8 = .ok (.isub, 1) := by decide +kernel
theorem dJ6_bitCount_0f7a4_9 : decode cJ6_bitCount_0f7a4 9 = .ok (.istore_n 0, 1) := by decide +kernel
theorem dJ6_bitCount_0f7a4_10 : decode cJ6_bitCount_0f7a4 10 = .ok (.iload_n 0, 1) := by decide +kernel
theorem dJ6_bitCount_0f7a4_11 : decode cJ6_bitCount_0f7a4 11 = .ok (.ldc_w 266, 3) := by decide +kernel
theorem dJ6_bitCount_0f7a4_14 : decode cJ6_bitCount_0f7a4 14 = .ok (.iand, 1) := by decide +kernel
theorem dJ6_bitCount_0f7a4_15 : decode cJ6_bitCount_0f7a4 15 = .ok (.iload_n 0, 1) := by decide +kernel
theorem dJ6_bitCount_0f7a4_16 : decode cJ6_bitCount_0f7a4 16 = .ok (.iconst 2, 1) := by decide +kernel
theorem dJ6_bitCount_0f7a4_17 : decode cJ6_bitCount_0f7a4 17 = .ok (.iushr, 1) := by decide +kernel
theorem dJ6_bitCount_0f7a4_18 : decode cJ6_bitCount_0f7a4 18 = .ok (.ldc_w 266, 3) := by decide +kernel
theorem dJ6_bitCount_0f7a4_21 : decode cJ6_bitCount_0f7a4 21 = .ok (.iand, 1) := by decide +kernel
theorem dJ6_bitCount_0f7a4_22 : decode cJ6_bitCount_0f7a4 22 = .ok (.iadd, 1) := by decide +kernel
theorem dJ6_bitCount_0f7a4_23 : decode cJ6_bitCount_0f7a4 23 = .ok (.istore_n 0, 1) := by decide +kernel
theorem dJ6_bitCount_0f7a4_24 : decode cJ6_bitCount_0f7a4 24 = .ok (.iload_n 0, 1) := by decide +kernel
theorem dJ6_bitCount_0f7a4_25 : decode cJ6_bitCount_0f7a4 25 = .ok (.iload_n 0, 1) := by decide +kernel
theorem dJ6_bitCount_0f7a4_26 : decode cJ6_bitCount_0f7a4 26 = .ok (.iconst 4, 1) := by decide +kernel
theorem dJ6_bitCount_0f7a4_27 : decode cJ6_bitCount_0f7a4 27 = .ok (.iushr, 1) := by decide +kernel
theorem dJ6_bitCount_0f7a4_28 : decode cJ6_bitCount_0f7a4 28 = .ok (.iadd, 1) := by decide +kernel
theorem dJ6_bitCount_0f7a4_29 : decode cJ6_bitCount_0f7a4 29 = .ok (.ldc_w 267, 3) := by decide +kernel
theorem dJ6_bitCount_0f7a4_32 : decode cJ6_bitCount_0f7a4 32 = .ok (.iand, 1) := by decide +kernel
theorem dJ6_bitCount_0f7a4_33 : decode cJ6_bitCount_0f7a4 33 = .ok (.istore_n 0, 1) := by decide +kernel
theorem dJ6_bitCount_0f7a4_34 : decode cJ6_bitCount_0f7a4 34 = .ok (.iload_n 0, 1) := by decide +kernel
theorem dJ6_bitCount_0f7a4_35 : decode cJ6_bitCount_0f7a4 35 = .ok (.iload_n 0, 1) := by decide +kernel
theorem dJ6_bitCount_0f7a4_36 : decode cJ6_bitCount_0f7a4 36 = .ok (.bipush 8, 2) := by decide +kernel
theorem dJ6_bitCount_0f7a4_38 : decode cJ6_bitCount_0f7a4 38 = .ok (.iushr, 1) := by decide +kernel
theorem dJ6_bitCount_0f7a4_39 : decode cJ6_bitCount_0f7a4 39 = .ok (.iadd, 1) := by decide +kernel
theorem dJ6_bitCount_0f7a4_40 : decode cJ6_bitCount_0f7a4 40 = .ok (.istore_n 0, 1) := by decide +kernel
theorem dJ6_bitCount_0f7a4_41 : decode cJ6_bitCount_0f7a4 41 = .ok (.iload_n 0, 1) := by decide +kernel
theorem dJ6_bitCount_0f7a4_42 : decode cJ6_bitCount_0f7a4 42 = .ok (.iload_n 0, 1) := by decide +kernel
theorem dJ6_bitCount_0f7a4_43 : decode cJ6_bitCount_0f7a4 43 = .ok (.bipush 16, 2) := by decide +kernel
theorem dJ6_bitCount_0f7a4_45 : decode cJ6_bitCount_0f7a4 45 = .ok (.iushr, 1) := by decide +kernel
theorem dJ6_bitCount_0f7a4_46 : decode cJ6_bitCount_0f7a4 46 = .ok (.iadd, 1) := by decide +kernel
theorem dJ6_bitCount_0f7a4_47 : decode cJ6_bitCount_0f7a4 47 = .ok (.istore_n 0, 1) := by decide +kernel
theorem dJ6_bitCount_0f7a4_48 : decode cJ6_bitCount_0f7a4 48 = .ok (.iload_n 0, 1) := by decide +kernel
theorem dJ6_bitCount_0f7a4_49 : decode cJ6_bitCount_0f7a4 49 = .ok (.bipush 63, 2) := by decide +kernel
theorem dJ6_bitCount_0f7a4_51 : decode cJ6_bitCount_0f7a4 51 = .ok (.iand, 1) := by decide +kernel
theorem dJ6_bitCount_0f7a4_52 : decode cJ6_bitCount_0f7a4 52 = .ok (.ireturn, 1) := by decide +kernel
theorem dJ9_max_7cf53_0 : decode cJ9_max_7cf53 0 = .ok (.iload_n 0, 1) := by decide +kernel
theorem dJ9_max_7cf53_1 : decode cJ9_max_7cf53 1 = .ok (.iload_n 1, 1) := by decide +kernel
theorem dJ9_max_7cf53_2 : decode cJ9_max_7cf53 2 = .ok (.if_icmp .lt 7, 3) := by decide +kernel
theorem dJ9_max_7cf53_5 : decode cJ9_max_7cf53 5 = .ok (.iload_n 0, 1) := by decide +kernel
theorem dJ9_max_7cf53_6 : decode cJ9_max_7cf53 6 = .ok (.goto 4, 3) := by decide +kernel
theorem dJ9_max_7cf53_9 : decode cJ9_max_7cf53 9 = .ok (.iload_n 1, 1) := by decide +kernel
theorem dJ9_max_7cf53_10 : decode cJ9_max_7cf53 10 = .ok (.ireturn, 1) := by decide +kernel
theorem dL_product_0 : decode cL_product 0 = .ok (.iconst 0, 1) := by decide +kernel
theorem dL_product_1 : decode cL_product 1 = .ok (.istore_n 2, 1) := by decide +kernel
theorem dL_product_2 : decode cL_product 2 = .ok (.iconst 0, 1) := by decide +kernel
theorem dL_product_3 : decode cL_product 3 = .ok (.istore_n 3, 1) := by decide +kernel
theorem dL_product_4 : decode cL_product 4 = .ok (.iload_n 3, 1) := by decide +kernel
theorem dL_product_5 : decode cL_product 5 = .ok (.bipush 8, 2) := by decide +kernel
theorem dL_product_7 : decode cL_product 7 = .ok (.if_icmp .ge 21, 3) := by decide +kernel
theorem dL_product_10 : decode cL_product 10 = .ok (.iload_n 2, 1) := by decide +kernel
theorem dL_product_11 : decode cL_product 11 = .ok (.iload_n 0, 1) := by decide +kernel
theorem dL_product_12 : decode cL_product 12 = .ok (.iload_n 3, 1) := by decide +kernel
theorem dL_product_13 : decode cL_product 13 = .ok (.ishr, 1) := by decide +kernel
theorem dL_product_14 : decode cL_product 14 = .ok (.iconst 1, 1) := by decide +kernel
theorem dL_product_15 : decode cL_product 15 = .ok (.iand, 1) := by decide +kernel
theorem dL_product_16 : decode cL_product 16 = .ok (.iload_n 1, 1) := by decide +kernel
theorem dL_product_17 : decode cL_product 17 = .ok (.iload_n 3, 1) := by decide +kernel
theorem dL_product_18 : decode cL_product 18 = .ok (.ishl, 1) := by decide +kernel
theorem dL_product_19 : decode cL_product 19 = .ok (.imul, 1) := by decide +kernel
theorem dL_product_20 : decode cL_product 20 = .ok (.ixor, 1) := by decide +kernel
theorem dL_product_21 : decode cL_product 21 = .ok (.istore_n 2, 1) := by decide +kernel
theorem dL_product_22 : decode cL_product 22 = .ok (.iinc 3 1, 3) := by decide +kernel
theorem dL_product_25 : decode cL_product 25 = .ok (.goto (-21), 3) := by decide +kernel
theorem dL_product_28 : decode cL_product 28 = .ok (.bipush 14, 2) := by decide +kernel
theorem dL_product_30 : decode cL_product 30 = .ok (.istore_n 3, 1) := by decide +kernel
theorem dL_product_31 : decode cL_product 31 = .ok (.iload_n 3, 1) := by decide +kernel
theorem dL_product_32 : decode cL_product 32 = .ok (.bipush 7, 2) := by decide +kernel
theorem dL_product_34 : decode cL_product 34 = .ok (.if_icmp .le 26, 3) := by decide +kernel
theorem dL_product_37 : decode cL_product 37 = .ok (.iload_n 2, 1) := by decide +kernel
theorem dL_product_38 : decode cL_product 38 = .ok (.iload_n 2, 1) := by decide +kernel
theorem dL_product_39 : decode cL_product 39 = .ok (.iload_n 3, 1) := by decide +kernel
theorem dL_product_40 : decode cL_product 40 = .ok (.ishr, 1) := by decide +kernel
theorem dL_product_41 : decode cL_product 41 = .ok (.iconst 1, 1) := by decide +kernel
theorem dL_product_42 : decode cL_product 42 = .ok (.iand, 1) := by decide +kernel
theorem dL_product_43 : decode cL_product 43 = .ok (.sipush 285, 3) := by decide +kernel
theorem dL_product_46 : decode cL_product 46 = .ok (.iload_n 3, 1) := by decide +kernel
theorem dL_product_47 : decode cL_product 47 = .ok (.bipush 8, 2) := by decide +kernel
theorem dL_product_49 : decode cL_product 49 = .ok (.isub, 1) := by decide +kernel
theorem dL_product_50 : decode cL_product 50 = .ok (.ishl, 1) := by decide +kernel
theorem dL_product_51 : decode cL_product 51 = .ok (.imul, 1) := by decide +kernel
theorem dL_product_52 : decode cL_product 52 = .ok (.ixor, 1) := by decide +kernel
theorem dL_product_53 : decode cL_product 53 = .ok (.istore_n 2, 1) := by decide +kernel
theorem dL_product_54 : decode cL_product 54 = .ok (.iinc 3 (-1), 3) := by decide +kernel
theorem dL_product_57 : decode cL_product 57 = .ok (.goto (-26), 3) := by decide +kernel
theorem dL_product_60 : decode cL_product 60 = .ok (.iload_n 2, 1) := by decide +kernel
theorem dL_product_61 : decode cL_product 61 = .ok (.ireturn, 1) := by decide +kernel
set_option maxRecDepth 20000 in
theorem ggL_inverse_L_product : GoodIn wsL_inverse wsL_product := goodIn_r _ [4] (by decide +kernel) (by decide +kernel)
set_option maxRecDepth 20000 in
theorem gL_inverse_L_product : GoodIn wsL_inverse (va_wsS RL 7 yL_product wsL_product) := goodIn_app (goodIn_of _ (by decide +kernel)) ggL_inverse_L_product
theorem dL_inverse_0 : decode cL_inverse 0 = .ok (.iconst 1, 1) := by decide +kernel
theorem dL_inverse_1 : decode cL_inverse 1 = .ok (.istore_n 1, 1) := by decide +kernel
theorem dL_inverse_2 : decode cL_inverse 2 = .ok (.iload_n 0, 1) := by decide +kernel
theorem dL_inverse_3 : decode cL_inverse 3 = .ok (.istore_n 2, 1) := by decide +kernel
theorem dL_inverse_4 : decode cL_inverse 4 = .ok (.iconst 0, 1) := by decide +kernel
theorem dL_inverse_5 : decode cL_inverse 5 = .ok (.istore_n 3, 1) := by decide +kernel
theorem dL_inverse_6 : decode cL_inverse 6 = .ok (.iload_n 3, 1) := by decide +kernel
theorem dL_inverse_7 : decode cL_inverse 7 = .ok (.bipush 7, 2) := by decide +kernel
theorem dL_inverse_9 : decode cL_inverse 9 = .ok (.if_icmp .ge 21, 3) := by decide +kernel
theorem dL_inverse_12 : decode cL_inverse 12 = .ok (.iload_n 2, 1) := by decide +kernel
theorem dL_inverse_13 : decode cL_inverse 13 = .ok (.iload_n 2, 1) := by decide +kernel
theorem dL_inverse_14 : decode cL_inverse 14 = .ok (.invokestatic 7, 3) := by decide +kernel
theorem dL_inverse_17 : decode cL_inverse 17 = .ok (.istore_n 2, 1) := by decide +kernel
theorem dL_inverse_18 : decode cL_inverse 18 = .ok (.iload_n 1, 1) := by decide +kernel
theorem dL_inverse_19 : decode cL_inverse 19 = .ok (.iload_n 2, 1) := by decide +kernel
theorem dL_inverse_20 : decode cL_inverse 20 = .ok (.invokestatic 7, 3) := by decide +kernel
theorem dL_inverse_23 : decode cL_inverse 23 = .ok (.istore_n 1, 1) := by decide +kernel
theorem dL_inverse_24 : decode cL_inverse 24 = .ok (.iinc 3 1, 3) := by decide +kernel
theorem dL_inverse_27 : decode cL_inverse 27 = .ok (.goto (-21), 3) := by decide +kernel
theorem dL_inverse_30 : decode cL_inverse 30 = .ok (.iload_n 1, 1) := by decide +kernel
theorem dL_inverse_31 : decode cL_inverse 31 = .ok (.ireturn, 1) := by decide +kernel
set_option maxRecDepth 20000 in
theorem ggL_packet_L_inverse : GoodIn wsL_packet wsL_inverse := goodIn_r _ [5, 6, 7, 4, 8] (by decide +kernel) (by decide +kernel)
set_option maxRecDepth 20000 in
theorem gL_packet_L_inverse : GoodIn wsL_packet (va_wsS RL 13 yL_inverse wsL_inverse) := goodIn_app (goodIn_of _ (by decide +kernel)) ggL_packet_L_inverse
set_option maxRecDepth 20000 in
theorem ggL_packet_L_product : GoodIn wsL_packet wsL_product := goodIn_r _ [8] (by decide +kernel) (by decide +kernel)
set_option maxRecDepth 20000 in
theorem gL_packet_L_product : GoodIn wsL_packet (va_wsS RL 7 yL_product wsL_product) := goodIn_app (goodIn_of _ (by decide +kernel)) ggL_packet_L_product
theorem dL_packet_0 : decode cL_packet 0 = .ok (.bipush 8, 2) := by decide +kernel
theorem dL_packet_2 : decode cL_packet 2 = .ok (.newarray .int, 2) := by decide +kernel
theorem dL_packet_4 : decode cL_packet 4 = .ok (.astore_n 3, 1) := by decide +kernel
theorem dL_packet_5 : decode cL_packet 5 = .ok (.iconst 0, 1) := by decide +kernel
theorem dL_packet_6 : decode cL_packet 6 = .ok (.istore 4, 2) := by decide +kernel
theorem dL_packet_8 : decode cL_packet 8 = .ok (.iload 4, 2) := by decide +kernel
theorem dL_packet_10 : decode cL_packet 10 = .ok (.aload_n 0, 1) := by decide +kernel
theorem dL_packet_11 : decode cL_packet 11 = .ok (.iconst 0, 1) := by decide +kernel
theorem dL_packet_12 : decode cL_packet 12 = .ok (.iaload, 1) := by decide +kernel
theorem dL_packet_13 : decode cL_packet 13 = .ok (.if_icmp .ge 17, 3) := by decide +kernel
theorem dL_packet_16 : decode cL_packet 16 = .ok (.aload_n 3, 1) := by decide +kernel
theorem dL_packet_17 : decode cL_packet 17 = .ok (.iload 4, 2) := by decide +kernel
theorem dL_packet_19 : decode cL_packet 19 = .ok (.aload_n 1, 1) := by decide +kernel
theorem dL_packet_20 : decode cL_packet 20 = .ok (.iload 4, 2) := by decide +kernel
theorem dL_packet_22 : decode cL_packet 22 = .ok (.iaload, 1) := by decide +kernel
theorem dL_packet_23 : decode cL_packet 23 = .ok (.iastore, 1) := by decide +kernel
theorem dL_packet_24 : decode cL_packet 24 = .ok (.iinc 4 1, 3) := by decide +kernel
theorem dL_packet_27 : decode cL_packet 27 = .ok (.goto (-19), 3) := by decide +kernel
theorem dL_packet_30 : decode cL_packet 30 = .ok (.iconst 1, 1) := by decide +kernel
theorem dL_packet_31 : decode cL_packet 31 = .ok (.istore 4, 2) := by decide +kernel
theorem dL_packet_33 : decode cL_packet 33 = .ok (.iload 4, 2) := by decide +kernel
theorem dL_packet_35 : decode cL_packet 35 = .ok (.aload_n 0, 1) := by decide +kernel
theorem dL_packet_36 : decode cL_packet 36 = .ok (.iconst 0, 1) := by decide +kernel
theorem dL_packet_37 : decode cL_packet 37 = .ok (.iaload, 1) := by decide +kernel
theorem dL_packet_38 : decode cL_packet 38 = .ok (.if_icmp .ge 72, 3) := by decide +kernel
theorem dL_packet_41 : decode cL_packet 41 = .ok (.iconst 0, 1) := by decide +kernel
theorem dL_packet_42 : decode cL_packet 42 = .ok (.istore 5, 2) := by decide +kernel
theorem dL_packet_44 : decode cL_packet 44 = .ok (.iload 5, 2) := by decide +kernel
theorem dL_packet_46 : decode cL_packet 46 = .ok (.iload 4, 2) := by decide +kernel
theorem dL_packet_48 : decode cL_packet 48 = .ok (.iadd, 1) := by decide +kernel
theorem dL_packet_49 : decode cL_packet 49 = .ok (.aload_n 0, 1) := by decide +kernel
theorem dL_packet_50 : decode cL_packet 50 = .ok (.iconst 0, 1) := by decide +kernel
theorem dL_packet_51 : decode cL_packet 51 = .ok (.iaload, 1) := by decide +kernel
theorem dL_packet_52 : decode cL_packet 52 = .ok (.if_icmp .ge 52, 3) := by decide +kernel
theorem dL_packet_55 : decode cL_packet 55 = .ok (.aload_n 3, 1) := by decide +kernel
theorem dL_packet_56 : decode cL_packet 56 = .ok (.iload 5, 2) := by decide +kernel
theorem dL_packet_58 : decode cL_packet 58 = .ok (.iaload, 1) := by decide +kernel
theorem dL_packet_59 : decode cL_packet 59 = .ok (.aload_n 3, 1) := by decide +kernel
theorem dL_packet_60 : decode cL_packet 60 = .ok (.iload 5, 2) := by decide +kernel
theorem dL_packet_62 : decode cL_packet 62 = .ok (.iconst 1, 1) := by decide +kernel
theorem dL_packet_63 : decode cL_packet 63 = .ok (.iadd, 1) := by decide +kernel
theorem dL_packet_64 : decode cL_packet 64 = .ok (.iaload, 1) := by decide +kernel
theorem dL_packet_65 : decode cL_packet 65 = .ok (.ixor, 1) := by decide +kernel
theorem dL_packet_66 : decode cL_packet 66 = .ok (.iload 5, 2) := by decide +kernel
theorem dL_packet_68 : decode cL_packet 68 = .ok (.iload 5, 2) := by decide +kernel
theorem dL_packet_70 : decode cL_packet 70 = .ok (.iload 4, 2) := by decide +kernel
theorem dL_packet_72 : decode cL_packet 72 = .ok (.iadd, 1) := by decide +kernel
theorem dL_packet_73 : decode cL_packet 73 = .ok (.ixor, 1) := by decide +kernel
theorem dL_packet_74 : decode cL_packet 74 = .ok (.invokestatic 13, 3) := by decide +kernel
theorem dL_packet_77 : decode cL_packet 77 = .ok (.invokestatic 7, 3) := by decide +kernel
theorem dL_packet_80 : decode cL_packet 80 = .ok (.istore 6, 2) := by decide +kernel
theorem dL_packet_82 : decode cL_packet 82 = .ok (.aload_n 3, 1) := by decide +kernel
theorem dL_packet_83 : decode cL_packet 83 = .ok (.iload 5, 2) := by decide +kernel
theorem dL_packet_85 : decode cL_packet 85 = .ok (.dup2, 1) := by decide +kernel
theorem dL_packet_86 : decode cL_packet 86 = .ok (.iaload, 1) := by decide +kernel
theorem dL_packet_87 : decode cL_packet 87 = .ok (.iload 6, 2) := by decide +kernel
theorem dL_packet_89 : decode cL_packet 89 = .ok (.iload_n 2, 1) := by decide +kernel
theorem dL_packet_90 : decode cL_packet 90 = .ok (.iload 5, 2) := by decide +kernel
theorem dL_packet_92 : decode cL_packet 92 = .ok (.ixor, 1) := by decide +kernel
theorem dL_packet_93 : decode cL_packet 93 = .ok (.invokestatic 7, 3) := by decide +kernel
theorem dL_packet_96 : decode cL_packet 96 = .ok (.ixor, 1) := by decide +kernel
theorem dL_packet_97 : decode cL_packet 97 = .ok (.iastore, 1) := by decide +kernel
theorem dL_packet_98 : decode cL_packet 98 = .ok (.iinc 5 1, 3) := by decide +kernel
theorem dL_packet_101 : decode cL_packet 101 = .ok (.goto (-57), 3) := by decide +kernel
theorem dL_packet_104 : decode cL_packet 104 = .ok (.iinc 4 1, 3) := by decide +kernel
theorem dL_packet_107 : decode cL_packet 107 = .ok (.goto (-74), 3) := by decide +kernel
theorem dL_packet_110 : decode cL_packet 110 = .ok (.aload_n 3, 1) := by decide +kernel
theorem dL_packet_111 : decode cL_packet 111 = .ok (.iconst 0, 1) := by decide +kernel
theorem dL_packet_112 : decode cL_packet 112 = .ok (.iaload, 1) := by decide +kernel
theorem dL_packet_113 : decode cL_packet 113 = .ok (.ireturn, 1) := by decide +kernel
theorem dL_need_0 : decode cL_need 0 = .ok (.aload_n 0, 1) := by decide +kernel
theorem dL_need_1 : decode cL_need 1 = .ok (.iconst 0, 1) := by decide +kernel
theorem dL_need_2 : decode cL_need 2 = .ok (.iaload, 1) := by decide +kernel
theorem dL_need_3 : decode cL_need 3 = .ok (.istore_n 3, 1) := by decide +kernel
theorem dL_need_4 : decode cL_need 4 = .ok (.aload_n 1, 1) := by decide +kernel
theorem dL_need_5 : decode cL_need 5 = .ok (.iconst 5, 1) := by decide +kernel
theorem dL_need_6 : decode cL_need 6 = .ok (.iload_n 2, 1) := by decide +kernel
theorem dL_need_7 : decode cL_need 7 = .ok (.imul, 1) := by decide +kernel
theorem dL_need_8 : decode cL_need 8 = .ok (.iconst 2, 1) := by decide +kernel
theorem dL_need_9 : decode cL_need 9 = .ok (.iadd, 1) := by decide +kernel
theorem dL_need_10 : decode cL_need 10 = .ok (.iaload, 1) := by decide +kernel
theorem dL_need_11 : decode cL_need 11 = .ok (.istore 4, 2) := by decide +kernel
theorem dL_need_13 : decode cL_need 13 = .ok (.iload 4, 2) := by decide +kernel
theorem dL_need_15 : decode cL_need 15 = .ok (.ifCond .le 18, 3) := by decide +kernel
theorem dL_need_18 : decode cL_need 18 = .ok (.iinc 3 (-1), 3) := by decide +kernel
theorem dL_need_21 : decode cL_need 21 = .ok (.iload 4, 2) := by decide +kernel
theorem dL_need_23 : decode cL_need 23 = .ok (.iload 4, 2) := by decide +kernel
theorem dL_need_25 : decode cL_need 25 = .ok (.iconst 1, 1) := by decide +kernel
theorem dL_need_26 : decode cL_need 26 = .ok (.isub, 1) := by decide +kernel
theorem dL_need_27 : decode cL_need 27 = .ok (.iand, 1) := by decide +kernel
theorem dL_need_28 : decode cL_need 28 = .ok (.istore 4, 2) := by decide +kernel
theorem dL_need_30 : decode cL_need 30 = .ok (.goto (-17), 3) := by decide +kernel
theorem dL_need_33 : decode cL_need 33 = .ok (.iload_n 3, 1) := by decide +kernel
theorem dL_need_34 : decode cL_need 34 = .ok (.ifCond .le 7, 3) := by decide +kernel
theorem dL_need_37 : decode cL_need 37 = .ok (.iload_n 3, 1) := by decide +kernel
theorem dL_need_38 : decode cL_need 38 = .ok (.goto 4, 3) := by decide +kernel
theorem dL_need_41 : decode cL_need 41 = .ok (.iconst 0, 1) := by decide +kernel
theorem dL_need_42 : decode cL_need 42 = .ok (.ireturn, 1) := by decide +kernel
theorem dL_sends_0 : decode cL_sends 0 = .ok (.iconst 0, 1) := by decide +kernel
theorem dL_sends_1 : decode cL_sends 1 = .ok (.istore_n 3, 1) := by decide +kernel
theorem dL_sends_2 : decode cL_sends 2 = .ok (.iload_n 3, 1) := by decide +kernel
theorem dL_sends_3 : decode cL_sends 3 = .ok (.iload_n 2, 1) := by decide +kernel
theorem dL_sends_4 : decode cL_sends 4 = .ok (.if_icmp .ge 81, 3) := by decide +kernel
theorem dL_sends_7 : decode cL_sends 7 = .ok (.iconst 0, 1) := by decide +kernel
theorem dL_sends_8 : decode cL_sends 8 = .ok (.istore 4, 2) := by decide +kernel
theorem dL_sends_10 : decode cL_sends 10 = .ok (.iload 4, 2) := by decide +kernel
theorem dL_sends_12 : decode cL_sends 12 = .ok (.aload_n 0, 1) := by decide +kernel
theorem dL_sends_13 : decode cL_sends 13 = .ok (.iconst 3, 1) := by decide +kernel
theorem dL_sends_14 : decode cL_sends 14 = .ok (.iaload, 1) := by decide +kernel
theorem dL_sends_15 : decode cL_sends 15 = .ok (.if_icmp .ge 57, 3) := by decide +kernel
theorem dL_sends_18 : decode cL_sends 18 = .ok (.aload_n 1, 1) := by decide +kernel
theorem dL_sends_19 : decode cL_sends 19 = .ok (.iconst 5, 1) := by decide +kernel
theorem dL_sends_20 : decode cL_sends 20 = .ok (.iload 4, 2) := by decide +kernel
theorem dL_sends_22 : decode cL_sends 22 = .ok (.imul, 1) := by decide +kernel
theorem dL_sends_23 : decode cL_sends 23 = .ok (.iaload, 1) := by decide +kernel
theorem dL_sends_24 : decode cL_sends 24 = .ok (.aload_n 0, 1) := by decide +kernel
theorem dL_sends_25 : decode cL_sends 25 = .ok (.iconst 2, 1) := by decide +kernel
theorem dL_sends_26 : decode cL_sends 26 = .ok (.iaload, 1) := by decide +kernel
theorem dL_sends_27 : decode cL_sends 27 = .ok (.bipush 11, 2) := by decide +kernel
theorem dL_sends_29 : decode cL_sends 29 = .ok (.irem, 1) := by decide +kernel
theorem dL_sends_30 : decode cL_sends 30 = .ok (.ishr, 1) := by decide +kernel
theorem dL_sends_31 : decode cL_sends 31 = .ok (.iconst 1, 1) := by decide +kernel
theorem dL_sends_32 : decode cL_sends 32 = .ok (.iand, 1) := by decide +kernel
theorem dL_sends_33 : decode cL_sends 33 = .ok (.aload_n 1, 1) := by decide +kernel
theorem dL_sends_34 : decode cL_sends 34 = .ok (.iconst 5, 1) := by decide +kernel
theorem dL_sends_35 : decode cL_sends 35 = .ok (.iload 4, 2) := by decide +kernel
theorem dL_sends_37 : decode cL_sends 37 = .ok (.imul, 1) := by decide +kernel
theorem dL_sends_38 : decode cL_sends 38 = .ok (.iconst 4, 1) := by decide +kernel
theorem dL_sends_39 : decode cL_sends 39 = .ok (.iadd, 1) := by decide +kernel
theorem dL_sends_40 : decode cL_sends 40 = .ok (.iaload, 1) := by decide +kernel
theorem dL_sends_41 : decode cL_sends 41 = .ok (.ior, 1) := by decide +kernel
theorem dL_sends_42 : decode cL_sends 42 = .ok (.iconst 1, 1) := by decide +kernel
theorem dL_sends_43 : decode cL_sends 43 = .ok (.ixor, 1) := by decide +kernel
theorem dL_sends_44 : decode cL_sends 44 = .ok (.istore 5, 2) := by decide +kernel
theorem dL_sends_46 : decode cL_sends 46 = .ok (.aload_n 1, 1) := by decide +kernel
theorem dL_sends_47 : decode cL_sends 47 = .ok (.iconst 5, 1) := by decide +kernel
theorem dL_sends_48 : decode cL_sends 48 = .ok (.iload 4, 2) := by decide +kernel
theorem dL_sends_50 : decode cL_sends 50 = .ok (.imul, 1) := by decide +kernel
theorem dL_sends_51 : decode cL_sends 51 = .ok (.iconst 2, 1) := by decide +kernel
theorem dL_sends_52 : decode cL_sends 52 = .ok (.iadd, 1) := by decide +kernel
theorem dL_sends_53 : decode cL_sends 53 = .ok (.dup2, 1) := by decide +kernel
theorem dL_sends_54 : decode cL_sends 54 = .ok (.iaload, 1) := by decide +kernel
theorem dL_sends_55 : decode cL_sends 55 = .ok (.iload 5, 2) := by decide +kernel
theorem dL_sends_57 : decode cL_sends 57 = .ok (.aload_n 0, 1) := by decide +kernel
theorem dL_sends_58 : decode cL_sends 58 = .ok (.iconst 2, 1) := by decide +kernel
theorem dL_sends_59 : decode cL_sends 59 = .ok (.iaload, 1) := by decide +kernel
theorem dL_sends_60 : decode cL_sends 60 = .ok (.bipush 16, 2) := by decide +kernel
theorem dL_sends_62 : decode cL_sends 62 = .ok (.irem, 1) := by decide +kernel
theorem dL_sends_63 : decode cL_sends 63 = .ok (.ishl, 1) := by decide +kernel
theorem dL_sends_64 : decode cL_sends 64 = .ok (.ior, 1) := by decide +kernel
theorem dL_sends_65 : decode cL_sends 65 = .ok (.iastore, 1) := by decide +kernel
theorem dL_sends_66 : decode cL_sends 66 = .ok (.iinc 4 1, 3) := by decide +kernel
theorem dL_sends_69 : decode cL_sends 69 = .ok (.goto (-59), 3) := by decide +kernel
theorem dL_sends_72 : decode cL_sends 72 = .ok (.aload_n 0, 1) := by decide +kernel
theorem dL_sends_73 : decode cL_sends 73 = .ok (.iconst 2, 1) := by decide +kernel
theorem dL_sends_74 : decode cL_sends 74 = .ok (.dup2, 1) := by decide +kernel
theorem dL_sends_75 : decode cL_sends 75 = .ok (.iaload, 1) := by decide +kernel
theorem dL_sends_76 : decode cL_sends 76 = .ok (.iconst 1, 1) := by decide +kernel
theorem dL_sends_77 : decode cL_sends 77 = .ok (.iadd, 1) := by decide +kernel
theorem dL_sends_78 : decode cL_sends 78 = .ok (.iastore, 1) := by decide +kernel
theorem dL_sends_79 : decode cL_sends 79 = .ok (.iinc 3 1, 3) := by decide +kernel
theorem dL_sends_82 : decode cL_sends 82 = .ok (.goto (-80), 3) := by decide +kernel
theorem dL_sends_85 : decode cL_sends 85 = .ok (.return_, 1) := by decide +kernel
set_option maxRecDepth 20000 in
theorem ggL_rounds_L_need : GoodIn wsL_rounds wsL_need := goodIn_r _ [5] (by decide +kernel) (by decide +kernel)
set_option maxRecDepth 20000 in
theorem gL_rounds_L_need : GoodIn wsL_rounds (va_wsS RL 17 yL_need wsL_need) := goodIn_app (goodIn_of _ (by decide +kernel)) ggL_rounds_L_need
set_option maxRecDepth 20000 in
theorem ggL_rounds_L_sends : GoodIn wsL_rounds wsL_sends := goodIn_r _ [8] (by decide +kernel) (by decide +kernel)
set_option maxRecDepth 20000 in
theorem gL_rounds_L_sends : GoodIn wsL_rounds (va_wsS RL 21 yL_sends wsL_sends) := goodIn_app (goodIn_of _ (by decide +kernel)) ggL_rounds_L_sends
theorem dL_rounds_0 : decode cL_rounds 0 = .ok (.bipush 6, 2) := by decide +kernel
theorem dL_rounds_2 : decode cL_rounds 2 = .ok (.newarray .int, 2) := by decide +kernel
theorem dL_rounds_4 : decode cL_rounds 4 = .ok (.astore_n 2, 1) := by decide +kernel
theorem dL_rounds_5 : decode cL_rounds 5 = .ok (.iconst 0, 1) := by decide +kernel
theorem dL_rounds_6 : decode cL_rounds 6 = .ok (.istore_n 3, 1) := by decide +kernel
theorem dL_rounds_7 : decode cL_rounds 7 = .ok (.iconst 0, 1) := by decide +kernel
theorem dL_rounds_8 : decode cL_rounds 8 = .ok (.istore 4, 2) := by decide +kernel
theorem dL_rounds_10 : decode cL_rounds 10 = .ok (.iload 4, 2) := by decide +kernel
theorem dL_rounds_12 : decode cL_rounds 12 = .ok (.aload_n 0, 1) := by decide +kernel
theorem dL_rounds_13 : decode cL_rounds 13 = .ok (.iconst 3, 1) := by decide +kernel
theorem dL_rounds_14 : decode cL_rounds 14 = .ok (.iaload, 1) := by decide +kernel
theorem dL_rounds_15 : decode cL_rounds 15 = .ok (.if_icmp .ge 53, 3) := by decide +kernel
theorem dL_rounds_18 : decode cL_rounds 18 = .ok (.aload_n 2, 1) := by decide +kernel
theorem dL_rounds_19 : decode cL_rounds 19 = .ok (.iload 4, 2) := by decide +kernel
theorem dL_rounds_21 : decode cL_rounds 21 = .ok (.aload_n 1, 1) := by decide +kernel
theorem dL_rounds_22 : decode cL_rounds 22 = .ok (.iconst 5, 1) := by decide +kernel
theorem dL_rounds_23 : decode cL_rounds 23 = .ok (.iload 4, 2) := by decide +kernel
theorem dL_rounds_25 : decode cL_rounds 25 = .ok (.imul, 1) := by decide +kernel
theorem dL_rounds_26 : decode cL_rounds 26 = .ok (.iconst 4, 1) := by decide +kernel
theorem dL_rounds_27 : decode cL_rounds 27 = .ok (.iadd, 1) := by decide +kernel
theorem dL_rounds_28 : decode cL_rounds 28 = .ok (.iaload, 1) := by decide +kernel
theorem dL_rounds_29 : decode cL_rounds 29 = .ok (.iconst 1, 1) := by decide +kernel
theorem dL_rounds_30 : decode cL_rounds 30 = .ok (.if_icmp .ne 7, 3) := by decide +kernel
theorem dL_rounds_33 : decode cL_rounds 33 = .ok (.iconst 0, 1) := by decide +kernel
theorem dL_rounds_34 : decode cL_rounds 34 = .ok (.goto 10, 3) := by decide +kernel
theorem dL_rounds_37 : decode cL_rounds 37 = .ok (.aload_n 0, 1) := by decide +kernel
theorem dL_rounds_38 : decode cL_rounds 38 = .ok (.aload_n 1, 1) := by decide +kernel
theorem dL_rounds_39 : decode cL_rounds 39 = .ok (.iload 4, 2) := by decide +kernel
theorem dL_rounds_41 : decode cL_rounds 41 = .ok (.invokestatic 17, 3) := by decide +kernel
theorem dL_rounds_44 : decode cL_rounds 44 = .ok (.iastore, 1) := by decide +kernel
theorem dL_rounds_45 : decode cL_rounds 45 = .ok (.aload_n 2, 1) := by decide +kernel
theorem dL_rounds_46 : decode cL_rounds 46 = .ok (.iload 4, 2) := by decide +kernel
theorem dL_rounds_48 : decode cL_rounds 48 = .ok (.iaload, 1) := by decide +kernel
theorem dL_rounds_49 : decode cL_rounds 49 = .ok (.iload_n 3, 1) := by decide +kernel
theorem dL_rounds_50 : decode cL_rounds 50 = .ok (.if_icmp .le 10, 3) := by decide +kernel
theorem dL_rounds_53 : decode cL_rounds 53 = .ok (.aload_n 2, 1) := by decide +kernel
theorem dL_rounds_54 : decode cL_rounds 54 = .ok (.iload 4, 2) := by decide +kernel
theorem dL_rounds_56 : decode cL_rounds 56 = .ok (.iaload, 1) := by decide +kernel
theorem dL_rounds_57 : decode cL_rounds 57 = .ok (.goto 4, 3) := by decide +kernel
theorem dL_rounds_60 : decode cL_rounds 60 = .ok (.iload_n 3, 1) := by decide +kernel
theorem dL_rounds_61 : decode cL_rounds 61 = .ok (.istore_n 3, 1) := by decide +kernel
theorem dL_rounds_62 : decode cL_rounds 62 = .ok (.iinc 4 1, 3) := by decide +kernel
theorem dL_rounds_65 : decode cL_rounds 65 = .ok (.goto (-55), 3) := by decide +kernel
theorem dL_rounds_68 : decode cL_rounds 68 = .ok (.iconst 0, 1) := by decide +kernel
theorem dL_rounds_69 : decode cL_rounds 69 = .ok (.istore 4, 2) := by decide +kernel
theorem dL_rounds_71 : decode cL_rounds 71 = .ok (.iload 4, 2) := by decide +kernel
theorem dL_rounds_73 : decode cL_rounds 73 = .ok (.aload_n 0, 1) := by decide +kernel
theorem dL_rounds_74 : decode cL_rounds 74 = .ok (.iconst 3, 1) := by decide +kernel
theorem dL_rounds_75 : decode cL_rounds 75 = .ok (.iaload, 1) := by decide +kernel
theorem dL_rounds_76 : decode cL_rounds 76 = .ok (.if_icmp .ge 115, 3) := by decide +kernel
theorem dL_rounds_79 : decode cL_rounds 79 = .ok (.iconst 0, 1) := by decide +kernel
theorem dL_rounds_80 : decode cL_rounds 80 = .ok (.istore 5, 2) := by decide +kernel
theorem dL_rounds_82 : decode cL_rounds 82 = .ok (.iconst 0, 1) := by decide +kernel
theorem dL_rounds_83 : decode cL_rounds 83 = .ok (.istore 6, 2) := by decide +kernel
theorem dL_rounds_85 : decode cL_rounds 85 = .ok (.iload 6, 2) := by decide +kernel
theorem dL_rounds_87 : decode cL_rounds 87 = .ok (.aload_n 0, 1) := by decide +kernel
theorem dL_rounds_88 : decode cL_rounds 88 = .ok (.iconst 3, 1) := by decide +kernel
theorem dL_rounds_89 : decode cL_rounds 89 = .ok (.iaload, 1) := by decide +kernel
theorem dL_rounds_90 : decode cL_rounds 90 = .ok (.if_icmp .ge 48, 3) := by decide +kernel
theorem dL_rounds_93 : decode cL_rounds 93 = .ok (.aload_n 1, 1) := by decide +kernel
theorem dL_rounds_94 : decode cL_rounds 94 = .ok (.iconst 5, 1) := by decide +kernel
theorem dL_rounds_95 : decode cL_rounds 95 = .ok (.iload 6, 2) := by decide +kernel
theorem dL_rounds_97 : decode cL_rounds 97 = .ok (.imul, 1) := by decide +kernel
theorem dL_rounds_98 : decode cL_rounds 98 = .ok (.iconst 1, 1) := by decide +kernel
theorem dL_rounds_99 : decode cL_rounds 99 = .ok (.iadd, 1) := by decide +kernel
theorem dL_rounds_100 : decode cL_rounds 100 = .ok (.iaload, 1) := by decide +kernel
theorem dL_rounds_101 : decode cL_rounds 101 = .ok (.aload_n 1, 1) := by decide +kernel
theorem dL_rounds_102 : decode cL_rounds 102 = .ok (.iconst 5, 1) := by decide +kernel
theorem dL_rounds_103 : decode cL_rounds 103 = .ok (.iload 4, 2) := by decide +kernel
theorem dL_rounds_105 : decode cL_rounds 105 = .ok (.imul, 1) := by decide +kernel
theorem dL_rounds_106 : decode cL_rounds 106 = .ok (.iconst 1, 1) := by decide +kernel
theorem dL_rounds_107 : decode cL_rounds 107 = .ok (.iadd, 1) := by decide +kernel
theorem dL_rounds_108 : decode cL_rounds 108 = .ok (.iaload, 1) := by decide +kernel
theorem dL_rounds_109 : decode cL_rounds 109 = .ok (.if_icmp .ge 19, 3) := by decide +kernel
theorem dL_rounds_112 : decode cL_rounds 112 = .ok (.aload_n 2, 1) := by decide +kernel
theorem dL_rounds_113 : decode cL_rounds 113 = .ok (.iload 6, 2) := by decide +kernel
theorem dL_rounds_115 : decode cL_rounds 115 = .ok (.iaload, 1) := by decide +kernel
theorem dL_rounds_116 : decode cL_rounds 116 = .ok (.iload 5, 2) := by decide +kernel
theorem dL_rounds_118 : decode cL_rounds 118 = .ok (.if_icmp .le 10, 3) := by decide +kernel
theorem dL_rounds_121 : decode cL_rounds 121 = .ok (.aload_n 2, 1) := by decide +kernel
theorem dL_rounds_122 : decode cL_rounds 122 = .ok (.iload 6, 2) := by decide +kernel
theorem dL_rounds_124 : decode cL_rounds 124 = .ok (.iaload, 1) := by decide +kernel
theorem dL_rounds_125 : decode cL_rounds 125 = .ok (.goto 5, 3) := by decide +kernel
theorem dL_rounds_128 : decode cL_rounds 128 = .ok (.iload 5, 2) := by decide +kernel
theorem dL_rounds_130 : decode cL_rounds 130 = .ok (.istore 5, 2) := by decide +kernel
theorem dL_rounds_132 : decode cL_rounds 132 = .ok (.iinc 6 1, 3) := by decide +kernel
theorem dL_rounds_135 : decode cL_rounds 135 = .ok (.goto (-50), 3) := by decide +kernel
theorem dL_rounds_138 : decode cL_rounds 138 = .ok (.aload_n 0, 1) := by decide +kernel
theorem dL_rounds_139 : decode cL_rounds 139 = .ok (.iconst 4, 1) := by decide +kernel
theorem dL_rounds_140 : decode cL_rounds 140 = .ok (.dup2, 1) := by decide +kernel
theorem dL_rounds_141 : decode cL_rounds 141 = .ok (.iaload, 1) := by decide +kernel
theorem dL_rounds_142 : decode cL_rounds 142 = .ok (.aload_n 2, 1) := by decide +kernel
theorem dL_rounds_143 : decode cL_rounds 143 = .ok (.iload 4, 2) := by decide +kernel
theorem dL_rounds_145 : decode cL_rounds 145 = .ok (.iaload, 1) := by decide +kernel
theorem dL_rounds_146 : decode cL_rounds 146 = .ok (.iload 5, 2) := by decide +kernel
theorem dL_rounds_148 : decode cL_rounds 148 = .ok (.if_icmp .le 7, 3) := by decide +kernel
theorem dL_rounds_151 : decode cL_rounds 151 = .ok (.iconst 1, 1) := by decide +kernel
theorem dL_rounds_152 : decode cL_rounds 152 = .ok (.goto 4, 3) := by decide +kernel
theorem dL_rounds_155 : decode cL_rounds 155 = .ok (.iconst 0, 1) := by decide +kernel
theorem dL_rounds_156 : decode cL_rounds 156 = .ok (.iadd, 1) := by decide +kernel
theorem dL_rounds_157 : decode cL_rounds 157 = .ok (.iastore, 1) := by decide +kernel
theorem dL_rounds_158 : decode cL_rounds 158 = .ok (.aload_n 0, 1) := by decide +kernel
theorem dL_rounds_159 : decode cL_rounds 159 = .ok (.iconst 5, 1) := by decide +kernel
theorem dL_rounds_160 : decode cL_rounds 160 = .ok (.dup2, 1) := by decide +kernel
theorem dL_rounds_161 : decode cL_rounds 161 = .ok (.iaload, 1) := by decide +kernel
theorem dL_rounds_162 : decode cL_rounds 162 = .ok (.aload_n 2, 1) := by decide +kernel
theorem dL_rounds_163 : decode cL_rounds 163 = .ok (.iload 4, 2) := by decide +kernel
theorem dL_rounds_165 : decode cL_rounds 165 = .ok (.iaload, 1) := by decide +kernel
theorem dL_rounds_166 : decode cL_rounds 166 = .ok (.ifCond .le 16, 3) := by decide +kernel
theorem dL_rounds_169 : decode cL_rounds 169 = .ok (.aload_n 2, 1) := by decide +kernel
theorem dL_rounds_170 : decode cL_rounds 170 = .ok (.iload 4, 2) := by decide +kernel
theorem dL_rounds_172 : decode cL_rounds 172 = .ok (.iaload, 1) := by decide +kernel
theorem dL_rounds_173 : decode cL_rounds 173 = .ok (.iload 5, 2) := by decide +kernel
theorem dL_rounds_175 : decode cL_rounds 175 = .ok (.if_icmp .gt 7, 3) := by decide +kernel
theorem dL_rounds_178 : decode cL_rounds 178 = .ok (.iconst 1, 1) := by decide +kernel
theorem dL_rounds_179 : decode cL_rounds 179 = .ok (.goto 4, 3) := by decide +kernel
theorem dL_rounds_182 : decode cL_rounds 182 = .ok (.iconst 0, 1) := by decide +kernel
theorem dL_rounds_183 : decode cL_rounds 183 = .ok (.iadd, 1) := by decide +kernel
theorem dL_rounds_184 : decode cL_rounds 184 = .ok (.iastore, 1) := by decide +kernel
theorem dL_rounds_185 : decode cL_rounds 185 = .ok (.iinc 4 1, 3) := by decide +kernel
theorem dL_rounds_188 : decode cL_rounds 188 = .ok (.goto (-117), 3) := by decide +kernel
theorem dL_rounds_191 : decode cL_rounds 191 = .ok (.aload_n 0, 1) := by decide +kernel
theorem dL_rounds_192 : decode cL_rounds 192 = .ok (.aload_n 1, 1) := by decide +kernel
theorem dL_rounds_193 : decode cL_rounds 193 = .ok (.iload_n 3, 1) := by decide +kernel
theorem dL_rounds_194 : decode cL_rounds 194 = .ok (.invokestatic 21, 3) := by decide +kernel
theorem dL_rounds_197 : decode cL_rounds 197 = .ok (.iconst 0, 1) := by decide +kernel
theorem dL_rounds_198 : decode cL_rounds 198 = .ok (.istore 4, 2) := by decide +kernel
theorem dL_rounds_200 : decode cL_rounds 200 = .ok (.iload 4, 2) := by decide +kernel
theorem dL_rounds_202 : decode cL_rounds 202 = .ok (.aload_n 0, 1) := by decide +kernel
theorem dL_rounds_203 : decode cL_rounds 203 = .ok (.iconst 3, 1) := by decide +kernel
theorem dL_rounds_204 : decode cL_rounds 204 = .ok (.iaload, 1) := by decide +kernel
theorem dL_rounds_205 : decode cL_rounds 205 = .ok (.if_icmp .ge 82, 3) := by decide +kernel
theorem dL_rounds_208 : decode cL_rounds 208 = .ok (.aload_n 2, 1) := by decide +kernel
theorem dL_rounds_209 : decode cL_rounds 209 = .ok (.iload 4, 2) := by decide +kernel
theorem dL_rounds_211 : decode cL_rounds 211 = .ok (.iaload, 1) := by decide +kernel
theorem dL_rounds_212 : decode cL_rounds 212 = .ok (.ifCond .le 17, 3) := by decide +kernel
theorem dL_rounds_215 : decode cL_rounds 215 = .ok (.aload_n 0, 1) := by decide +kernel
theorem dL_rounds_216 : decode cL_rounds 216 = .ok (.aload_n 1, 1) := by decide +kernel
theorem dL_rounds_217 : decode cL_rounds 217 = .ok (.iload 4, 2) := by decide +kernel
theorem dL_rounds_219 : decode cL_rounds 219 = .ok (.invokestatic 17, 3) := by decide +kernel
theorem dL_rounds_222 : decode cL_rounds 222 = .ok (.ifCond .le 7, 3) := by decide +kernel
theorem dL_rounds_225 : decode cL_rounds 225 = .ok (.iconst 1, 1) := by decide +kernel
theorem dL_rounds_226 : decode cL_rounds 226 = .ok (.goto 4, 3) := by decide +kernel
theorem dL_rounds_229 : decode cL_rounds 229 = .ok (.iconst 0, 1) := by decide +kernel
theorem dL_rounds_230 : decode cL_rounds 230 = .ok (.istore 5, 2) := by decide +kernel
theorem dL_rounds_232 : decode cL_rounds 232 = .ok (.aload_n 1, 1) := by decide +kernel
theorem dL_rounds_233 : decode cL_rounds 233 = .ok (.iconst 5, 1) := by decide +kernel
theorem dL_rounds_234 : decode cL_rounds 234 = .ok (.iload 4, 2) := by decide +kernel
theorem dL_rounds_236 : decode cL_rounds 236 = .ok (.imul, 1) := by decide +kernel
theorem dL_rounds_237 : decode cL_rounds 237 = .ok (.iconst 3, 1) := by decide +kernel
theorem dL_rounds_238 : decode cL_rounds 238 = .ok (.iadd, 1) := by decide +kernel
theorem dL_rounds_239 : decode cL_rounds 239 = .ok (.dup2, 1) := by decide +kernel
theorem dL_rounds_240 : decode cL_rounds 240 = .ok (.iaload, 1) := by decide +kernel
theorem dL_rounds_241 : decode cL_rounds 241 = .ok (.iload 5, 2) := by decide +kernel
theorem dL_rounds_243 : decode cL_rounds 243 = .ok (.iadd, 1) := by decide +kernel
theorem dL_rounds_244 : decode cL_rounds 244 = .ok (.iastore, 1) := by decide +kernel
theorem dL_rounds_245 : decode cL_rounds 245 = .ok (.aload_n 1, 1) := by decide +kernel
theorem dL_rounds_246 : decode cL_rounds 246 = .ok (.iconst 5, 1) := by decide +kernel
theorem dL_rounds_247 : decode cL_rounds 247 = .ok (.iload 4, 2) := by decide +kernel
theorem dL_rounds_249 : decode cL_rounds 249 = .ok (.imul, 1) := by decide +kernel
theorem dL_rounds_250 : decode cL_rounds 250 = .ok (.iconst 4, 1) := by decide +kernel
theorem dL_rounds_251 : decode cL_rounds 251 = .ok (.iadd, 1) := by decide +kernel
theorem dL_rounds_252 : decode cL_rounds 252 = .ok (.dup2, 1) := by decide +kernel
theorem dL_rounds_253 : decode cL_rounds 253 = .ok (.iaload, 1) := by decide +kernel
theorem dL_rounds_254 : decode cL_rounds 254 = .ok (.iload 5, 2) := by decide +kernel
theorem dL_rounds_256 : decode cL_rounds 256 = .ok (.iconst 1, 1) := by decide +kernel
theorem dL_rounds_257 : decode cL_rounds 257 = .ok (.if_icmp .ne 21, 3) := by decide +kernel
theorem dL_rounds_260 : decode cL_rounds 260 = .ok (.aload_n 1, 1) := by decide +kernel
theorem dL_rounds_261 : decode cL_rounds 261 = .ok (.iconst 5, 1) := by decide +kernel
theorem dL_rounds_262 : decode cL_rounds 262 = .ok (.iload 4, 2) := by decide +kernel
theorem dL_rounds_264 : decode cL_rounds 264 = .ok (.imul, 1) := by decide +kernel
theorem dL_rounds_265 : decode cL_rounds 265 = .ok (.iconst 3, 1) := by decide +kernel
theorem dL_rounds_266 : decode cL_rounds 266 = .ok (.iadd, 1) := by decide +kernel
theorem dL_rounds_267 : decode cL_rounds 267 = .ok (.iaload, 1) := by decide +kernel
theorem dL_rounds_268 : decode cL_rounds 268 = .ok (.aload_n 0, 1) := by decide +kernel
theorem dL_rounds_269 : decode cL_rounds 269 = .ok (.iconst 1, 1) := by decide +kernel
theorem dL_rounds_270 : decode cL_rounds 270 = .ok (.iaload, 1) := by decide +kernel
theorem dL_rounds_271 : decode cL_rounds 271 = .ok (.if_icmp .lt 7, 3) := by decide +kernel
theorem dL_rounds_274 : decode cL_rounds 274 = .ok (.iconst 1, 1) := by decide +kernel
theorem dL_rounds_275 : decode cL_rounds 275 = .ok (.goto 4, 3) := by decide +kernel
theorem dL_rounds_278 : decode cL_rounds 278 = .ok (.iconst 0, 1) := by decide +kernel
theorem dL_rounds_279 : decode cL_rounds 279 = .ok (.ior, 1) := by decide +kernel
theorem dL_rounds_280 : decode cL_rounds 280 = .ok (.iastore, 1) := by decide +kernel
theorem dL_rounds_281 : decode cL_rounds 281 = .ok (.iinc 4 1, 3) := by decide +kernel
theorem dL_rounds_284 : decode cL_rounds 284 = .ok (.goto (-84), 3) := by decide +kernel
theorem dL_rounds_287 : decode cL_rounds 287 = .ok (.iload_n 3, 1) := by decide +kernel
theorem dL_rounds_288 : decode cL_rounds 288 = .ok (.ireturn, 1) := by decide +kernel
set_option maxRecDepth 20000 in
theorem ggL_does_X3_setDatum : GoodIn wsL_does wsX3_setDatum := goodIn_ca (goodIn_ca (goodIn_ca (goodIn_r _ [7, 8, 9, 10, 11, 12, 13, 14, 15, 16, 6, 17, 18, 19, 20, 21, 22, 166, 167, 168, 169, 170, 171, 172, 173, 174, 175, 176, 177, 178, 179, 180, 181] (by decide +kernel) (by decide +kernel)) (goodIn_sub (fun _ h => List.mem_cons_of_mem _ (List.mem_append_left _ (List.mem_append_left _ (List.mem_append_right _ h)))) (by decide +kernel))) (goodIn_sub (fun _ h => List.mem_cons_of_mem _ (List.mem_append_left _ (List.mem_append_right _ h))) (by decide +kernel))) (goodIn_sub (fun _ h => List.mem_cons_of_mem _ (List.mem_append_right _ h)) (by decide +kernel))
set_option maxRecDepth 20000 in
theorem gL_does_X3_setDatum : GoodIn wsL_does (wsV RL 25 RX3 yX3_setDatum wsX3_setDatum) := goodIn_app (goodIn_of _ (by decide +kernel)) ggL_does_X3_setDatum
set_option maxRecDepth 20000 in
theorem ggL_does_X3_join : GoodIn wsL_does wsX3_join := goodIn_ca (goodIn_ca (goodIn_r _ [26, 10, 11, 27, 28, 29, 30, 31, 32, 33, 34, 6, 35, 8, 9, 36, 37, 38, 166, 167, 168, 169, 170, 171, 172, 173, 174, 175, 176, 177, 178] (by decide +kernel) (by decide +kernel)) (goodIn_sub (fun _ h => List.mem_cons_of_mem _ (List.mem_append_left _ (List.mem_append_right _ h))) (by decide +kernel))) (goodIn_sub (fun _ h => List.mem_cons_of_mem _ (List.mem_append_left _ (List.mem_append_left _ (List.mem_append_right _ h)))) (by decide +kernel))
set_option maxRecDepth 20000 in
theorem gL_does_X3_join : GoodIn wsL_does (wsV RL 30 RX3 yX3_join wsX3_join) := goodIn_app (goodIn_of _ (by decide +kernel)) ggL_does_X3_join
set_option maxRecDepth 20000 in
theorem ggL_does_X3_send : GoodIn wsL_does wsX3_send := goodIn_ca (goodIn_ca (goodIn_r _ [42, 8, 9, 10, 11, 12, 43, 44, 45, 6, 46, 47, 48, 49, 50, 27, 32, 28, 30, 51, 52, 53, 54, 55, 56, 57, 58, 13, 59, 60, 61, 62, 63, 64, 65, 66, 67, 68, 69, 166, 167, 168, 169, 170, 171, 172, 173, 174, 175, 176, 177, 178, 179, 180, 181] (by decide +kernel) (by decide +kernel)) (goodIn_sub (fun _ h => List.mem_cons_of_mem _ (List.mem_append_left _ (List.mem_append_left _ (List.mem_append_right _ h)))) (by decide +kernel))) (goodIn_sub (fun _ h => List.mem_cons_of_mem _ (List.mem_append_left _ (List.mem_append_right _ h))) (by decide +kernel))
set_option maxRecDepth 20000 in
theorem gL_does_X3_send : GoodIn wsL_does (wsV RL 33 RX3 yX3_send wsX3_send) := goodIn_app (goodIn_of _ (by decide +kernel)) ggL_does_X3_send
set_option maxRecDepth 20000 in
theorem ggL_does_X3_round : GoodIn wsL_does wsX3_round := goodIn_ca (goodIn_r _ [73, 10, 11, 12, 74, 75, 76, 6, 77, 78, 79, 80, 81, 27, 29, 82, 59, 60, 61, 62, 83, 84, 85, 86, 87, 32, 55, 56, 57, 58, 13, 30, 63, 64, 65, 66, 67, 68, 69, 43, 44, 45, 46, 47, 48, 49, 50, 28, 88, 89, 90, 91, 31, 92, 166, 167, 168, 169, 170, 171, 172, 173, 174, 175, 176, 177, 178, 179, 180, 181] (by decide +kernel) (by decide +kernel)) (goodIn_sub (fun _ h => List.mem_cons_of_mem _ (List.mem_append_left _ (List.mem_append_right _ h))) (by decide +kernel))
set_option maxRecDepth 20000 in
theorem gL_does_X3_round : GoodIn wsL_does (wsV RL 36 RX3 yX3_round wsX3_round) := goodIn_app (goodIn_of _ (by decide +kernel)) ggL_does_X3_round
set_option maxRecDepth 20000 in
theorem ggL_does_X3_rebuilt : GoodIn wsL_does wsX3_rebuilt := goodIn_ca (goodIn_ca (goodIn_r _ [96, 30, 97, 98, 99, 100, 6, 101, 10, 11, 102, 103, 104, 105, 18, 19, 27, 14, 15, 16, 17, 13, 55, 56, 57, 58, 59, 60, 61, 62, 63, 64, 65, 66, 67, 68, 69, 106, 107, 108, 109, 110, 111, 112, 113, 114, 115, 116, 117, 118, 119, 120, 121, 122, 123, 124, 125, 126, 127, 128, 129, 130, 131, 132, 133, 134, 135, 136, 166, 167, 168, 169, 170, 171, 172, 173, 174, 175, 176, 177, 178, 179, 180, 181] (by decide +kernel) (by decide +kernel)) (goodIn_sub (fun _ h => List.mem_cons_of_mem _ (List.mem_append_left _ (List.mem_append_right _ h))) (by decide +kernel))) (goodIn_sub (fun _ h => List.mem_cons_of_mem _ (List.mem_append_right _ h)) (by decide +kernel))
set_option maxRecDepth 20000 in
theorem gL_does_X3_rebuilt : GoodIn wsL_does (wsV RL 40 RX3 yX3_rebuilt wsX3_rebuilt) := goodIn_app (goodIn_of _ (by decide +kernel)) ggL_does_X3_rebuilt
set_option maxRecDepth 20000 in
theorem ggL_does_X3_rebuiltByElimination : GoodIn wsL_does wsX3_rebuiltByElimination := goodIn_ca (goodIn_ca (goodIn_r _ [140, 30, 141, 97, 98, 99, 100, 6, 101, 10, 11, 102, 103, 104, 105, 18, 19, 27, 14, 15, 16, 17, 13, 55, 56, 57, 58, 59, 60, 61, 62, 63, 64, 65, 66, 67, 68, 69, 142, 143, 144, 145, 110, 111, 112, 113, 114, 115, 116, 117, 118, 119, 120, 121, 122, 123, 124, 125, 126, 127, 128, 129, 130, 131, 132, 133, 134, 135, 136, 146, 147, 148, 149, 150, 151, 152, 153, 154, 155, 156, 157, 158, 159, 160, 161, 162, 163, 164, 165, 166, 167, 168, 169, 170, 171, 172, 173, 174, 175, 176, 177, 178, 179, 180, 181, 182, 183] (by decide +kernel) (by decide +kernel)) (goodIn_sub (fun _ h => List.mem_cons_of_mem _ (List.mem_append_left _ (List.mem_append_right _ h))) (by decide +kernel))) (goodIn_sub (fun _ h => List.mem_cons_of_mem _ (List.mem_append_right _ h)) (by decide +kernel))
set_option maxRecDepth 20000 in
theorem gL_does_X3_rebuiltByElimination : GoodIn wsL_does (wsV RL 43 RX3 yX3_rebuiltByElimination wsX3_rebuiltByElimination) := goodIn_app (goodIn_of _ (by decide +kernel)) ggL_does_X3_rebuiltByElimination
theorem dL_does_0 : decode cL_does 0 = .ok (.iload_n 1, 1) := by decide +kernel
theorem dL_does_1 : decode cL_does 1 = .ok (.ifCond .ne 12, 3) := by decide +kernel
theorem dL_does_4 : decode cL_does 4 = .ok (.aload_n 0, 1) := by decide +kernel
theorem dL_does_5 : decode cL_does 5 = .ok (.iload_n 2, 1) := by decide +kernel
theorem dL_does_6 : decode cL_does 6 = .ok (.iload_n 3, 1) := by decide +kernel
theorem dL_does_7 : decode cL_does 7 = .ok (.invokevirtual 25, 3) := by decide +kernel
theorem dL_does_10 : decode cL_does 10 = .ok (.goto 62, 3) := by decide +kernel
theorem dL_does_13 : decode cL_does 13 = .ok (.iload_n 1, 1) := by decide +kernel
theorem dL_does_14 : decode cL_does 14 = .ok (.iconst 1, 1) := by decide +kernel
theorem dL_does_15 : decode cL_does 15 = .ok (.if_icmp .ne 12, 3) := by decide +kernel
theorem dL_does_18 : decode cL_does 18 = .ok (.aload_n 0, 1) := by decide +kernel
theorem dL_does_19 : decode cL_does 19 = .ok (.iload_n 2, 1) := by decide +kernel
theorem dL_does_20 : decode cL_does 20 = .ok (.iload_n 3, 1) := by decide +kernel
theorem dL_does_21 : decode cL_does 21 = .ok (.invokevirtual 30, 3) := by decide +kernel
theorem dL_does_24 : decode cL_does 24 = .ok (.goto 48, 3) := by decide +kernel
theorem dL_does_27 : decode cL_does 27 = .ok (.iload_n 1, 1) := by decide +kernel
theorem dL_does_28 : decode cL_does 28 = .ok (.iconst 2, 1) := by decide +kernel
theorem dL_does_29 : decode cL_does 29 = .ok (.if_icmp .ne 11, 3) := by decide +kernel
theorem dL_does_32 : decode cL_does 32 = .ok (.aload_n 0, 1) := by decide +kernel
theorem dL_does_33 : decode cL_does 33 = .ok (.iload_n 2, 1) := by decide +kernel
theorem dL_does_34 : decode cL_does 34 = .ok (.invokevirtual 33, 3) := by decide +kernel
theorem dL_does_37 : decode cL_does 37 = .ok (.goto 35, 3) := by decide +kernel
theorem dL_does_40 : decode cL_does 40 = .ok (.iload_n 1, 1) := by decide +kernel
theorem dL_does_41 : decode cL_does 41 = .ok (.iconst 3, 1) := by decide +kernel
theorem dL_does_42 : decode cL_does 42 = .ok (.if_icmp .ne 10, 3) := by decide +kernel
theorem dL_does_45 : decode cL_does 45 = .ok (.aload_n 0, 1) := by decide +kernel
theorem dL_does_46 : decode cL_does 46 = .ok (.invokevirtual 36, 3) := by decide +kernel
theorem dL_does_49 : decode cL_does 49 = .ok (.goto 23, 3) := by decide +kernel
theorem dL_does_52 : decode cL_does 52 = .ok (.iload_n 1, 1) := by decide +kernel
theorem dL_does_53 : decode cL_does 53 = .ok (.iconst 4, 1) := by decide +kernel
theorem dL_does_54 : decode cL_does 54 = .ok (.if_icmp .ne 12, 3) := by decide +kernel
theorem dL_does_57 : decode cL_does 57 = .ok (.aload_n 0, 1) := by decide +kernel
theorem dL_does_58 : decode cL_does 58 = .ok (.iload_n 2, 1) := by decide +kernel
theorem dL_does_59 : decode cL_does 59 = .ok (.iload_n 3, 1) := by decide +kernel
theorem dL_does_60 : decode cL_does 60 = .ok (.invokevirtual 40, 3) := by decide +kernel
theorem dL_does_63 : decode cL_does 63 = .ok (.goto 9, 3) := by decide +kernel
theorem dL_does_66 : decode cL_does 66 = .ok (.aload_n 0, 1) := by decide +kernel
theorem dL_does_67 : decode cL_does 67 = .ok (.iload_n 2, 1) := by decide +kernel
theorem dL_does_68 : decode cL_does 68 = .ok (.iload_n 3, 1) := by decide +kernel
theorem dL_does_69 : decode cL_does 69 = .ok (.invokevirtual 43, 3) := by decide +kernel
theorem dL_does_72 : decode cL_does 72 = .ok (.ireturn, 1) := by decide +kernel
theorem dL_does_73 : decode cL_does 73 = .ok (.astore 4, 2) := by decide +kernel
theorem dL_does_75 : decode cL_does 75 = .ok (.bipush (-11), 2) := by decide +kernel
theorem dL_does_77 : decode cL_does 77 = .ok (.ireturn, 1) := by decide +kernel
theorem dL_does_78 : decode cL_does 78 = .ok (.astore 4, 2) := by decide +kernel
theorem dL_does_80 : decode cL_does 80 = .ok (.bipush (-13), 2) := by decide +kernel
theorem dL_does_82 : decode cL_does 82 = .ok (.ireturn, 1) := by decide +kernel
set_option maxRecDepth 20000 in
theorem ggL_isSender_X3_sent : GoodIn wsL_isSender wsX3_sent := goodIn_r _ [5, 6, 223, 224, 225, 226, 227, 228, 229, 230, 231, 232, 233, 234, 235] (by decide +kernel) (by decide +kernel)
set_option maxRecDepth 20000 in
theorem gL_isSender_X3_sent : GoodIn wsL_isSender (wsV RL 50 RX3 yX3_sent wsX3_sent) := goodIn_app (goodIn_of _ (by decide +kernel)) ggL_isSender_X3_sent
set_option maxRecDepth 20000 in
theorem ggL_isSender_X3_receivers : GoodIn wsL_isSender wsX3_receivers := goodIn_r _ [10, 11, 223, 224, 225, 226, 227, 228, 229, 230, 231, 232, 233, 234, 235] (by decide +kernel) (by decide +kernel)
set_option maxRecDepth 20000 in
theorem gL_isSender_X3_receivers : GoodIn wsL_isSender (wsV RL 53 RX3 yX3_receivers wsX3_receivers) := goodIn_app (goodIn_of _ (by decide +kernel)) ggL_isSender_X3_receivers
set_option maxRecDepth 20000 in
theorem ggL_isSender_X3_reports : GoodIn wsL_isSender wsX3_reports := goodIn_r _ [15, 16, 223, 224, 225, 226, 227, 228, 229, 230, 231, 232, 233, 234, 235] (by decide +kernel) (by decide +kernel)
set_option maxRecDepth 20000 in
theorem gL_isSender_X3_reports : GoodIn wsL_isSender (wsV RL 56 RX3 yX3_reports wsX3_reports) := goodIn_app (goodIn_of _ (by decide +kernel)) ggL_isSender_X3_reports
set_option maxRecDepth 20000 in
theorem ggL_isSender_X3_keptBack : GoodIn wsL_isSender wsX3_keptBack := goodIn_r _ [20, 21, 223, 224, 225, 226, 227, 228, 229, 230, 231, 232, 233, 234, 235] (by decide +kernel) (by decide +kernel)
set_option maxRecDepth 20000 in
theorem gL_isSender_X3_keptBack : GoodIn wsL_isSender (wsV RL 59 RX3 yX3_keptBack wsX3_keptBack) := goodIn_app (goodIn_of _ (by decide +kernel)) ggL_isSender_X3_keptBack
set_option maxRecDepth 20000 in
theorem ggL_isSender_L_need : GoodIn wsL_isSender wsL_need := goodIn_r _ [25] (by decide +kernel) (by decide +kernel)
set_option maxRecDepth 20000 in
theorem gL_isSender_L_need : GoodIn wsL_isSender (va_wsS RL 17 yL_need wsL_need) := goodIn_app (goodIn_of _ (by decide +kernel)) ggL_isSender_L_need
set_option maxRecDepth 20000 in
theorem ggL_isSender_X3_has : GoodIn wsL_isSender wsX3_has := goodIn_ca (goodIn_r _ [29, 30, 31, 32, 33, 4, 34, 35, 36, 11, 223, 224, 225, 226, 227, 228, 229, 230, 231, 232, 233, 234, 235] (by decide +kernel) (by decide +kernel)) (goodIn_sub (fun _ h => List.mem_cons_of_mem _ (List.mem_append_left _ (List.mem_append_left _ (List.mem_append_right _ h)))) (by decide +kernel))
set_option maxRecDepth 20000 in
theorem gL_isSender_X3_has : GoodIn wsL_isSender (wsV RL 62 RX3 yX3_has wsX3_has) := goodIn_app (goodIn_of _ (by decide +kernel)) ggL_isSender_X3_has
set_option maxRecDepth 20000 in
theorem ggL_isSender_X3_need : GoodIn wsL_isSender wsX3_need := goodIn_ca (goodIn_r _ [40, 31, 32, 33, 4, 34, 35, 36, 11, 41, 42, 43, 44, 45, 30, 46, 47, 48, 49, 50, 51, 52, 53, 54, 55, 56, 223, 224, 225, 226, 227, 228, 229, 230, 231, 232, 233, 234, 235, 236, 237, 238] (by decide +kernel) (by decide +kernel)) (goodIn_sub (fun _ h => List.mem_cons_of_mem _ (List.mem_append_left _ (List.mem_append_left _ (List.mem_append_right _ h)))) (by decide +kernel))
set_option maxRecDepth 20000 in
theorem gL_isSender_X3_need : GoodIn wsL_isSender (wsV RL 65 RX3 yX3_need wsX3_need) := goodIn_app (goodIn_of _ (by decide +kernel)) ggL_isSender_X3_need
set_option maxRecDepth 20000 in
theorem ggL_isSender_X3_isDropped : GoodIn wsL_isSender wsX3_isDropped := goodIn_ca (goodIn_r _ [60, 61, 31, 32, 33, 4, 34, 35, 36, 11, 223, 224, 225, 226, 227, 228, 229, 230, 231, 232, 233, 234, 235] (by decide +kernel) (by decide +kernel)) (goodIn_sub (fun _ h => List.mem_cons_of_mem _ (List.mem_append_left _ (List.mem_append_left _ (List.mem_append_right _ h)))) (by decide +kernel))
set_option maxRecDepth 20000 in
theorem gL_isSender_X3_isDropped : GoodIn wsL_isSender (wsV RL 67 RX3 yX3_isDropped wsX3_isDropped) := goodIn_app (goodIn_of _ (by decide +kernel)) ggL_isSender_X3_isDropped
set_option maxRecDepth 20000 in
theorem ggL_isSender_X3_badRounds : GoodIn wsL_isSender wsX3_badRounds := goodIn_ca (goodIn_r _ [65, 66, 31, 32, 33, 4, 34, 35, 36, 11, 223, 224, 225, 226, 227, 228, 229, 230, 231, 232, 233, 234, 235] (by decide +kernel) (by decide +kernel)) (goodIn_sub (fun _ h => List.mem_cons_of_mem _ (List.mem_append_left _ (List.mem_append_left _ (List.mem_append_right _ h)))) (by decide +kernel))
set_option maxRecDepth 20000 in
theorem gL_isSender_X3_badRounds : GoodIn wsL_isSender (wsV RL 71 RX3 yX3_badRounds wsX3_badRounds) := goodIn_app (goodIn_of _ (by decide +kernel)) ggL_isSender_X3_badRounds
set_option maxRecDepth 20000 in
theorem ggL_isSender_L_does : GoodIn wsL_isSender wsL_does := goodIn_ca (goodIn_ca (goodIn_ca (goodIn_r _ [69, 70, 71, 72, 73, 74, 4, 75, 76, 77, 78, 79, 6, 45, 80, 81, 82, 83, 35, 36, 84, 85, 86, 87, 88, 89, 90, 11, 91, 92, 30, 66, 61, 93, 94, 95, 96, 97, 98, 99, 100, 101, 102, 103, 104, 105, 106, 107, 108, 109, 110, 111, 112, 113, 114, 41, 42, 43, 44, 46, 47, 48, 49, 50, 51, 52, 53, 54, 55, 56, 115, 116, 117, 118, 119, 120, 121, 122, 123, 124, 125, 126, 16, 21, 127, 128, 129, 130, 131, 132, 133, 134, 135, 136, 137, 138, 139, 140, 141, 142, 143, 144, 31, 32, 33, 34, 145, 146, 147, 148, 149, 150, 151, 152, 153, 154, 155, 156, 157, 158, 159, 160, 161, 162, 163, 164, 165, 166, 167, 168, 169, 170, 171, 172, 173, 174, 175, 176, 177, 178, 179, 180, 181, 182, 183, 184, 185, 186, 187, 188, 189, 190, 191, 192, 193, 194, 195, 196, 197, 198, 199, 200, 201, 202, 203, 204, 223, 224, 225, 226, 227, 228, 229, 230, 231, 232, 233, 234, 235, 236, 237, 238, 239, 240] (by decide +kernel) (by decide +kernel)) (goodIn_sub (fun _ h => List.mem_cons_of_mem _ (List.mem_append_left _ (List.mem_append_right _ h))) (by decide +kernel))) (goodIn_sub (fun _ h => List.mem_cons_of_mem _ (List.mem_append_right _ h)) (by decide +kernel))) (goodIn_sub (fun _ h => List.mem_cons_of_mem _ (List.mem_append_left _ (List.mem_append_left _ (List.mem_append_right _ h)))) (by decide +kernel))
set_option maxRecDepth 20000 in
theorem gL_isSender_L_does : GoodIn wsL_isSender (va_wsS RL 74 yL_does wsL_does) := goodIn_app (goodIn_of _ (by decide +kernel)) ggL_isSender_L_does
set_option maxRecDepth 20000 in
theorem ggL_isSender_X3_packet : GoodIn wsL_isSender wsX3_packet := goodIn_ca (goodIn_r _ [208, 35, 36, 45, 158, 150, 159, 160, 153, 161, 162, 163, 164, 165, 166, 167, 168, 169, 170, 171, 172, 223, 224, 225, 226, 227, 228, 229, 230, 231, 232, 233, 234, 235, 236, 237, 238] (by decide +kernel) (by decide +kernel)) (goodIn_sub (fun _ h => List.mem_cons_of_mem _ (List.mem_append_left _ (List.mem_append_left _ (List.mem_append_right _ h)))) (by decide +kernel))
set_option maxRecDepth 20000 in
theorem gL_isSender_X3_packet : GoodIn wsL_isSender (wsV RL 78 RX3 yX3_packet wsX3_packet) := goodIn_app (goodIn_of _ (by decide +kernel)) ggL_isSender_X3_packet
set_option maxRecDepth 20000 in
theorem ggL_isSender_L_packet : GoodIn wsL_isSender wsL_packet := goodIn_r _ [211, 212, 213, 214, 24, 215, 216, 217, 218] (by decide +kernel) (by decide +kernel)
set_option maxRecDepth 20000 in
theorem gL_isSender_L_packet : GoodIn wsL_isSender (va_wsS RL 81 yL_packet wsL_packet) := goodIn_app (goodIn_of _ (by decide +kernel)) ggL_isSender_L_packet
set_option maxRecDepth 20000 in
theorem ggL_isSender_X3_times : GoodIn wsL_isSender wsX3_times := goodIn_ca (goodIn_r _ [222, 76, 77, 84, 85, 4, 86, 167, 168, 169] (by decide +kernel) (by decide +kernel)) (goodIn_sub (fun _ h => List.mem_cons_of_mem _ (List.mem_append_left _ (List.mem_append_right _ h))) (by decide +kernel))
set_option maxRecDepth 20000 in
theorem gL_isSender_X3_times : GoodIn wsL_isSender (wsV RL 83 RX3 yX3_times wsX3_times) := goodIn_app (goodIn_of _ (by decide +kernel)) ggL_isSender_X3_times
set_option maxRecDepth 20000 in
theorem ggL_isSender_L_product : GoodIn wsL_isSender wsL_product := goodIn_r _ [218] (by decide +kernel) (by decide +kernel)
set_option maxRecDepth 20000 in
theorem gL_isSender_L_product : GoodIn wsL_isSender (va_wsS RL 7 yL_product wsL_product) := goodIn_app (goodIn_of _ (by decide +kernel)) ggL_isSender_L_product
theorem dL_isSender_0 : decode cL_isSender 0 = .ok (.aload_n 0, 1) := by decide +kernel
theorem dL_isSender_1 : decode cL_isSender 1 = .ok (.invokevirtual 50, 3) := by decide +kernel
theorem dL_isSender_4 : decode cL_isSender 4 = .ok (.aload_n 1, 1) := by decide +kernel
theorem dL_isSender_5 : decode cL_isSender 5 = .ok (.iconst 2, 1) := by decide +kernel
theorem dL_isSender_6 : decode cL_isSender 6 = .ok (.iaload, 1) := by decide +kernel
theorem dL_isSender_7 : decode cL_isSender 7 = .ok (.if_icmp .ne 37, 3) := by decide +kernel
theorem dL_isSender_10 : decode cL_isSender 10 = .ok (.aload_n 0, 1) := by decide +kernel
theorem dL_isSender_11 : decode cL_isSender 11 = .ok (.invokevirtual 53, 3) := by decide +kernel
theorem dL_isSender_14 : decode cL_isSender 14 = .ok (.aload_n 1, 1) := by decide +kernel
theorem dL_isSender_15 : decode cL_isSender 15 = .ok (.iconst 3, 1) := by decide +kernel
theorem dL_isSender_16 : decode cL_isSender 16 = .ok (.iaload, 1) := by decide +kernel
theorem dL_isSender_17 : decode cL_isSender 17 = .ok (.if_icmp .ne 27, 3) := by decide +kernel
theorem dL_isSender_20 : decode cL_isSender 20 = .ok (.aload_n 0, 1) := by decide +kernel
theorem dL_isSender_21 : decode cL_isSender 21 = .ok (.invokevirtual 56, 3) := by decide +kernel
theorem dL_isSender_24 : decode cL_isSender 24 = .ok (.aload_n 1, 1) := by decide +kernel
theorem dL_isSender_25 : decode cL_isSender 25 = .ok (.iconst 4, 1) := by decide +kernel
theorem dL_isSender_26 : decode cL_isSender 26 = .ok (.iaload, 1) := by decide +kernel
theorem dL_isSender_27 : decode cL_isSender 27 = .ok (.if_icmp .ne 17, 3) := by decide +kernel
theorem dL_isSender_30 : decode cL_isSender 30 = .ok (.aload_n 0, 1) := by decide +kernel
theorem dL_isSender_31 : decode cL_isSender 31 = .ok (.invokevirtual 59, 3) := by decide +kernel
theorem dL_isSender_34 : decode cL_isSender 34 = .ok (.aload_n 1, 1) := by decide +kernel
theorem dL_isSender_35 : decode cL_isSender 35 = .ok (.iconst 5, 1) := by decide +kernel
theorem dL_isSender_36 : decode cL_isSender 36 = .ok (.iaload, 1) := by decide +kernel
theorem dL_isSender_37 : decode cL_isSender 37 = .ok (.if_icmp .ne 7, 3) := by decide +kernel
theorem dL_isSender_40 : decode cL_isSender 40 = .ok (.iconst 1, 1) := by decide +kernel
theorem dL_isSender_41 : decode cL_isSender 41 = .ok (.goto 4, 3) := by decide +kernel
theorem dL_isSender_44 : decode cL_isSender 44 = .ok (.iconst 0, 1) := by decide +kernel
theorem dL_isSender_45 : decode cL_isSender 45 = .ok (.istore 5, 2) := by decide +kernel
theorem dL_isSender_47 : decode cL_isSender 47 = .ok (.iconst 0, 1) := by decide +kernel
theorem dL_isSender_48 : decode cL_isSender 48 = .ok (.istore 6, 2) := by decide +kernel
theorem dL_isSender_50 : decode cL_isSender 50 = .ok (.iload 6, 2) := by decide +kernel
theorem dL_isSender_52 : decode cL_isSender 52 = .ok (.aload_n 1, 1) := by decide +kernel
theorem dL_isSender_53 : decode cL_isSender 53 = .ok (.iconst 3, 1) := by decide +kernel
theorem dL_isSender_54 : decode cL_isSender 54 = .ok (.iaload, 1) := by decide +kernel
theorem dL_isSender_55 : decode cL_isSender 55 = .ok (.if_icmp .ge 176, 3) := by decide +kernel
theorem dL_isSender_58 : decode cL_isSender 58 = .ok (.iload 5, 2) := by decide +kernel
theorem dL_isSender_60 : decode cL_isSender 60 = .ok (.ifCond .eq 171, 3) := by decide +kernel
theorem dL_isSender_63 : decode cL_isSender 63 = .ok (.aload_n 1, 1) := by decide +kernel
theorem dL_isSender_64 : decode cL_isSender 64 = .ok (.aload_n 3, 1) := by decide +kernel
theorem dL_isSender_65 : decode cL_isSender 65 = .ok (.iload 6, 2) := by decide +kernel
theorem dL_isSender_67 : decode cL_isSender 67 = .ok (.invokestatic 17, 3) := by decide +kernel
theorem dL_isSender_70 : decode cL_isSender 70 = .ok (.istore 7, 2) := by decide +kernel
theorem dL_isSender_72 : decode cL_isSender 72 = .ok (.aload_n 0, 1) := by decide +kernel
theorem dL_isSender_73 : decode cL_isSender 73 = .ok (.iload 6, 2) := by decide +kernel
theorem dL_isSender_75 : decode cL_isSender 75 = .ok (.invokevirtual 62, 3) := by decide +kernel
theorem dL_isSender_78 : decode cL_isSender 78 = .ok (.aload_n 3, 1) := by decide +kernel
theorem dL_isSender_79 : decode cL_isSender 79 = .ok (.iconst 5, 1) := by decide +kernel
theorem dL_isSender_80 : decode cL_isSender 80 = .ok (.iload 6, 2) := by decide +kernel
theorem dL_isSender_82 : decode cL_isSender 82 = .ok (.imul, 1) := by decide +kernel
theorem dL_isSender_83 : decode cL_isSender 83 = .ok (.iconst 2, 1) := by decide +kernel
theorem dL_isSender_84 : decode cL_isSender 84 = .ok (.iadd, 1) := by decide +kernel
theorem dL_isSender_85 : decode cL_isSender 85 = .ok (.iaload, 1) := by decide +kernel
theorem dL_isSender_86 : decode cL_isSender 86 = .ok (.if_icmp .ne 61, 3) := by decide +kernel
theorem dL_isSender_89 : decode cL_isSender 89 = .ok (.aload_n 0, 1) := by decide +kernel
theorem dL_isSender_90 : decode cL_isSender 90 = .ok (.iload 6, 2) := by decide +kernel
theorem dL_isSender_92 : decode cL_isSender 92 = .ok (.invokevirtual 65, 3) := by decide +kernel
theorem dL_isSender_95 : decode cL_isSender 95 = .ok (.iload 7, 2) := by decide +kernel
theorem dL_isSender_97 : decode cL_isSender 97 = .ok (.if_icmp .ne 50, 3) := by decide +kernel
theorem dL_isSender_100 : decode cL_isSender 100 = .ok (.aload_n 0, 1) := by decide +kernel
theorem dL_isSender_101 : decode cL_isSender 101 = .ok (.iload 6, 2) := by decide +kernel
theorem dL_isSender_103 : decode cL_isSender 103 = .ok (.invokevirtual 67, 3) := by decide +kernel
theorem dL_isSender_106 : decode cL_isSender 106 = .ok (.aload_n 3, 1) := by decide +kernel
theorem dL_isSender_107 : decode cL_isSender 107 = .ok (.iconst 5, 1) := by decide +kernel
theorem dL_isSender_108 : decode cL_isSender 108 = .ok (.iload 6, 2) := by decide +kernel
theorem dL_isSender_110 : decode cL_isSender 110 = .ok (.imul, 1) := by decide +kernel
theorem dL_isSender_111 : decode cL_isSender 111 = .ok (.iconst 4, 1) := by decide +kernel
theorem dL_isSender_112 : decode cL_isSender 112 = .ok (.iadd, 1) := by decide +kernel
theorem dL_isSender_113 : decode cL_isSender 113 = .ok (.iaload, 1) := by decide +kernel
theorem dL_isSender_114 : decode cL_isSender 114 = .ok (.iconst 1, 1) := by decide +kernel
theorem dL_isSender_115 : decode cL_isSender 115 = .ok (.if_icmp .ne 7, 3) := by decide +kernel
theorem dL_isSender_118 : decode cL_isSender 118 = .ok (.iconst 1, 1) := by decide +kernel
theorem dL_isSender_119 : decode cL_isSender 119 = .ok (.goto 4, 3) := by decide +kernel
theorem dL_isSender_122 : decode cL_isSender 122 = .ok (.iconst 0, 1) := by decide +kernel
theorem dL_isSender_123 : decode cL_isSender 123 = .ok (.if_icmp .ne 24, 3) := by decide +kernel
theorem dL_isSender_126 : decode cL_isSender 126 = .ok (.aload_n 0, 1) := by decide +kernel
theorem dL_isSender_127 : decode cL_isSender 127 = .ok (.iload 6, 2) := by decide +kernel
theorem dL_isSender_129 : decode cL_isSender 129 = .ok (.invokevirtual 71, 3) := by decide +kernel
theorem dL_isSender_132 : decode cL_isSender 132 = .ok (.aload_n 3, 1) := by decide +kernel
theorem dL_isSender_133 : decode cL_isSender 133 = .ok (.iconst 5, 1) := by decide +kernel
theorem dL_isSender_134 : decode cL_isSender 134 = .ok (.iload 6, 2) := by decide +kernel
theorem dL_isSender_136 : decode cL_isSender 136 = .ok (.imul, 1) := by decide +kernel
theorem dL_isSender_137 : decode cL_isSender 137 = .ok (.iconst 3, 1) := by decide +kernel
theorem dL_isSender_138 : decode cL_isSender 138 = .ok (.iadd, 1) := by decide +kernel
theorem dL_isSender_139 : decode cL_isSender 139 = .ok (.iaload, 1) := by decide +kernel
theorem dL_isSender_140 : decode cL_isSender 140 = .ok (.if_icmp .ne 7, 3) := by decide +kernel
theorem dL_isSender_143 : decode cL_isSender 143 = .ok (.iconst 1, 1) := by decide +kernel
theorem dL_isSender_144 : decode cL_isSender 144 = .ok (.goto 4, 3) := by decide +kernel
theorem dL_isSender_147 : decode cL_isSender 147 = .ok (.iconst 0, 1) := by decide +kernel
theorem dL_isSender_148 : decode cL_isSender 148 = .ok (.istore 5, 2) := by decide +kernel
theorem dL_isSender_150 : decode cL_isSender 150 = .ok (.iload 4, 2) := by decide +kernel
theorem dL_isSender_152 : decode cL_isSender 152 = .ok (.iload 6, 2) := by decide +kernel
theorem dL_isSender_154 : decode cL_isSender 154 = .ok (.iadd, 1) := by decide +kernel
theorem dL_isSender_155 : decode cL_isSender 155 = .ok (.aload_n 1, 1) := by decide +kernel
theorem dL_isSender_156 : decode cL_isSender 156 = .ok (.iconst 0, 1) := by decide +kernel
theorem dL_isSender_157 : decode cL_isSender 157 = .ok (.iaload, 1) := by decide +kernel
theorem dL_isSender_158 : decode cL_isSender 158 = .ok (.irem, 1) := by decide +kernel
theorem dL_isSender_159 : decode cL_isSender 159 = .ok (.istore 8, 2) := by decide +kernel
theorem dL_isSender_161 : decode cL_isSender 161 = .ok (.iload 5, 2) := by decide +kernel
theorem dL_isSender_163 : decode cL_isSender 163 = .ok (.ifCond .eq 59, 3) := by decide +kernel
theorem dL_isSender_166 : decode cL_isSender 166 = .ok (.aload_n 0, 1) := by decide +kernel
theorem dL_isSender_167 : decode cL_isSender 167 = .ok (.iconst 4, 1) := by decide +kernel
theorem dL_isSender_168 : decode cL_isSender 168 = .ok (.iload 6, 2) := by decide +kernel
theorem dL_isSender_170 : decode cL_isSender 170 = .ok (.iload 8, 2) := by decide +kernel
theorem dL_isSender_172 : decode cL_isSender 172 = .ok (.invokestatic 74, 3) := by decide +kernel
theorem dL_isSender_175 : decode cL_isSender 175 = .ok (.iload 7, 2) := by decide +kernel
theorem dL_isSender_177 : decode cL_isSender 177 = .ok (.ifCond .le 8, 3) := by decide +kernel
theorem dL_isSender_180 : decode cL_isSender 180 = .ok (.bipush (-13), 2) := by decide +kernel
theorem dL_isSender_182 : decode cL_isSender 182 = .ok (.goto 7, 3) := by decide +kernel
theorem dL_isSender_185 : decode cL_isSender 185 = .ok (.aload_n 2, 1) := by decide +kernel
theorem dL_isSender_186 : decode cL_isSender 186 = .ok (.iload 8, 2) := by decide +kernel
theorem dL_isSender_188 : decode cL_isSender 188 = .ok (.iaload, 1) := by decide +kernel
theorem dL_isSender_189 : decode cL_isSender 189 = .ok (.if_icmp .ne 33, 3) := by decide +kernel
theorem dL_isSender_192 : decode cL_isSender 192 = .ok (.aload_n 0, 1) := by decide +kernel
theorem dL_isSender_193 : decode cL_isSender 193 = .ok (.iconst 5, 1) := by decide +kernel
theorem dL_isSender_194 : decode cL_isSender 194 = .ok (.iload 6, 2) := by decide +kernel
theorem dL_isSender_196 : decode cL_isSender 196 = .ok (.iload 8, 2) := by decide +kernel
theorem dL_isSender_198 : decode cL_isSender 198 = .ok (.invokestatic 74, 3) := by decide +kernel
theorem dL_isSender_201 : decode cL_isSender 201 = .ok (.iload 7, 2) := by decide +kernel
theorem dL_isSender_203 : decode cL_isSender 203 = .ok (.ifCond .le 8, 3) := by decide +kernel
theorem dL_isSender_206 : decode cL_isSender 206 = .ok (.bipush (-13), 2) := by decide +kernel
theorem dL_isSender_208 : decode cL_isSender 208 = .ok (.goto 7, 3) := by decide +kernel
theorem dL_isSender_211 : decode cL_isSender 211 = .ok (.aload_n 2, 1) := by decide +kernel
theorem dL_isSender_212 : decode cL_isSender 212 = .ok (.iload 8, 2) := by decide +kernel
theorem dL_isSender_214 : decode cL_isSender 214 = .ok (.iaload, 1) := by decide +kernel
theorem dL_isSender_215 : decode cL_isSender 215 = .ok (.if_icmp .ne 7, 3) := by decide +kernel
theorem dL_isSender_218 : decode cL_isSender 218 = .ok (.iconst 1, 1) := by decide +kernel
theorem dL_isSender_219 : decode cL_isSender 219 = .ok (.goto 4, 3) := by decide +kernel
theorem dL_isSender_222 : decode cL_isSender 222 = .ok (.iconst 0, 1) := by decide +kernel
theorem dL_isSender_223 : decode cL_isSender 223 = .ok (.istore 5, 2) := by decide +kernel
theorem dL_isSender_225 : decode cL_isSender 225 = .ok (.iinc 6 1, 3) := by decide +kernel
theorem dL_isSender_228 : decode cL_isSender 228 = .ok (.goto (-178), 3) := by decide +kernel
theorem dL_isSender_231 : decode cL_isSender 231 = .ok (.iconst 0, 1) := by decide +kernel
theorem dL_isSender_232 : decode cL_isSender 232 = .ok (.istore 6, 2) := by decide +kernel
theorem dL_isSender_234 : decode cL_isSender 234 = .ok (.iload 6, 2) := by decide +kernel
theorem dL_isSender_236 : decode cL_isSender 236 = .ok (.iconst 4, 1) := by decide +kernel
theorem dL_isSender_237 : decode cL_isSender 237 = .ok (.if_icmp .ge 49, 3) := by decide +kernel
theorem dL_isSender_240 : decode cL_isSender 240 = .ok (.iload 5, 2) := by decide +kernel
theorem dL_isSender_242 : decode cL_isSender 242 = .ok (.ifCond .eq 44, 3) := by decide +kernel
theorem dL_isSender_245 : decode cL_isSender 245 = .ok (.iload 4, 2) := by decide +kernel
theorem dL_isSender_247 : decode cL_isSender 247 = .ok (.iconst 5, 1) := by decide +kernel
theorem dL_isSender_248 : decode cL_isSender 248 = .ok (.iload 6, 2) := by decide +kernel
theorem dL_isSender_250 : decode cL_isSender 250 = .ok (.imul, 1) := by decide +kernel
theorem dL_isSender_251 : decode cL_isSender 251 = .ok (.iadd, 1) := by decide +kernel
theorem dL_isSender_252 : decode cL_isSender 252 = .ok (.bipush 16, 2) := by decide +kernel
theorem dL_isSender_254 : decode cL_isSender 254 = .ok (.irem, 1) := by decide +kernel
theorem dL_isSender_255 : decode cL_isSender 255 = .ok (.istore 7, 2) := by decide +kernel
theorem dL_isSender_257 : decode cL_isSender 257 = .ok (.aload_n 0, 1) := by decide +kernel
theorem dL_isSender_258 : decode cL_isSender 258 = .ok (.iload 7, 2) := by decide +kernel
theorem dL_isSender_260 : decode cL_isSender 260 = .ok (.invokevirtual 78, 3) := by decide +kernel
theorem dL_isSender_263 : decode cL_isSender 263 = .ok (.aload_n 1, 1) := by decide +kernel
theorem dL_isSender_264 : decode cL_isSender 264 = .ok (.aload_n 2, 1) := by decide +kernel
theorem dL_isSender_265 : decode cL_isSender 265 = .ok (.iload 7, 2) := by decide +kernel
theorem dL_isSender_267 : decode cL_isSender 267 = .ok (.invokestatic 81, 3) := by decide +kernel
theorem dL_isSender_270 : decode cL_isSender 270 = .ok (.if_icmp .ne 7, 3) := by decide +kernel
theorem dL_isSender_273 : decode cL_isSender 273 = .ok (.iconst 1, 1) := by decide +kernel
theorem dL_isSender_274 : decode cL_isSender 274 = .ok (.goto 4, 3) := by decide +kernel
theorem dL_isSender_277 : decode cL_isSender 277 = .ok (.iconst 0, 1) := by decide +kernel
theorem dL_isSender_278 : decode cL_isSender 278 = .ok (.istore 5, 2) := by decide +kernel
theorem dL_isSender_280 : decode cL_isSender 280 = .ok (.iinc 6 1, 3) := by decide +kernel
theorem dL_isSender_283 : decode cL_isSender 283 = .ok (.goto (-49), 3) := by decide +kernel
theorem dL_isSender_286 : decode cL_isSender 286 = .ok (.iload 4, 2) := by decide +kernel
theorem dL_isSender_288 : decode cL_isSender 288 = .ok (.sipush 256, 3) := by decide +kernel
theorem dL_isSender_291 : decode cL_isSender 291 = .ok (.irem, 1) := by decide +kernel
theorem dL_isSender_292 : decode cL_isSender 292 = .ok (.istore 6, 2) := by decide +kernel
theorem dL_isSender_294 : decode cL_isSender 294 = .ok (.iload 4, 2) := by decide +kernel
theorem dL_isSender_296 : decode cL_isSender 296 = .ok (.sipush 256, 3) := by decide +kernel
theorem dL_isSender_299 : decode cL_isSender 299 = .ok (.idiv, 1) := by decide +kernel
theorem dL_isSender_300 : decode cL_isSender 300 = .ok (.sipush 256, 3) := by decide +kernel
theorem dL_isSender_303 : decode cL_isSender 303 = .ok (.irem, 1) := by decide +kernel
theorem dL_isSender_304 : decode cL_isSender 304 = .ok (.istore 7, 2) := by decide +kernel
theorem dL_isSender_306 : decode cL_isSender 306 = .ok (.iload 5, 2) := by decide +kernel
theorem dL_isSender_308 : decode cL_isSender 308 = .ok (.ifCond .eq 53, 3) := by decide +kernel
theorem dL_isSender_311 : decode cL_isSender 311 = .ok (.aload_n 0, 1) := by decide +kernel
theorem dL_isSender_312 : decode cL_isSender 312 = .ok (.iload 6, 2) := by decide +kernel
theorem dL_isSender_314 : decode cL_isSender 314 = .ok (.iload 7, 2) := by decide +kernel
theorem dL_isSender_316 : decode cL_isSender 316 = .ok (.invokevirtual 83, 3) := by decide +kernel
theorem dL_isSender_319 : decode cL_isSender 319 = .ok (.iload 6, 2) := by decide +kernel
theorem dL_isSender_321 : decode cL_isSender 321 = .ok (.iload 7, 2) := by decide +kernel
theorem dL_isSender_323 : decode cL_isSender 323 = .ok (.invokestatic 7, 3) := by decide +kernel
theorem dL_isSender_326 : decode cL_isSender 326 = .ok (.if_icmp .ne 35, 3) := by decide +kernel
theorem dL_isSender_329 : decode cL_isSender 329 = .ok (.aload_n 0, 1) := by decide +kernel
theorem dL_isSender_330 : decode cL_isSender 330 = .ok (.iconst 4, 1) := by decide +kernel
theorem dL_isSender_331 : decode cL_isSender 331 = .ok (.aload_n 1, 1) := by decide +kernel
theorem dL_isSender_332 : decode cL_isSender 332 = .ok (.iconst 3, 1) := by decide +kernel
theorem dL_isSender_333 : decode cL_isSender 333 = .ok (.iaload, 1) := by decide +kernel
theorem dL_isSender_334 : decode cL_isSender 334 = .ok (.iconst 0, 1) := by decide +kernel
theorem dL_isSender_335 : decode cL_isSender 335 = .ok (.invokestatic 74, 3) := by decide +kernel
theorem dL_isSender_338 : decode cL_isSender 338 = .ok (.bipush (-11), 2) := by decide +kernel
theorem dL_isSender_340 : decode cL_isSender 340 = .ok (.if_icmp .ne 21, 3) := by decide +kernel
theorem dL_isSender_343 : decode cL_isSender 343 = .ok (.aload_n 0, 1) := by decide +kernel
theorem dL_isSender_344 : decode cL_isSender 344 = .ok (.iconst 5, 1) := by decide +kernel
theorem dL_isSender_345 : decode cL_isSender 345 = .ok (.iconst 0, 1) := by decide +kernel
theorem dL_isSender_346 : decode cL_isSender 346 = .ok (.aload_n 1, 1) := by decide +kernel
theorem dL_isSender_347 : decode cL_isSender 347 = .ok (.iconst 0, 1) := by decide +kernel
theorem dL_isSender_348 : decode cL_isSender 348 = .ok (.iaload, 1) := by decide +kernel
theorem dL_isSender_349 : decode cL_isSender 349 = .ok (.invokestatic 74, 3) := by decide +kernel
theorem dL_isSender_352 : decode cL_isSender 352 = .ok (.bipush (-11), 2) := by decide +kernel
theorem dL_isSender_354 : decode cL_isSender 354 = .ok (.if_icmp .ne 7, 3) := by decide +kernel
theorem dL_isSender_357 : decode cL_isSender 357 = .ok (.iconst 1, 1) := by decide +kernel
theorem dL_isSender_358 : decode cL_isSender 358 = .ok (.goto 4, 3) := by decide +kernel
theorem dL_isSender_361 : decode cL_isSender 361 = .ok (.iconst 0, 1) := by decide +kernel
theorem dL_isSender_362 : decode cL_isSender 362 = .ok (.ireturn, 1) := by decide +kernel
set_option maxRecDepth 20000 in
theorem ggL_law_X3_init : GoodIn wsL_law wsX3_init := goodIn_r _ [8, 9, 10, 11, 12, 13, 14, 15, 3, 16, 17, 18, 19, 20, 21, 22, 23, 24, 25, 26, 27, 28, 29, 30, 31, 32, 33, 34, 35, 36, 37, 38, 39, 2, 40, 41, 42, 43, 44, 45, 46, 47, 48, 49, 50, 51, 52, 282, 283, 284, 269, 270, 271, 272, 273, 274, 275, 276, 277, 278, 279, 280, 281, 285, 286] (by decide +kernel) (by decide +kernel)
set_option maxRecDepth 20000 in
theorem gL_law_X3_init : GoodIn wsL_law (wsX3_init) := ggL_law_X3_init
set_option maxRecDepth 20000 in
theorem ggL_law_L_isSender : GoodIn wsL_law wsL_isSender := goodIn_ca (goodIn_ca (goodIn_ca (goodIn_r _ [56, 57, 58, 59, 2, 60, 43, 61, 62, 63, 64, 42, 65, 66, 67, 68, 44, 69, 70, 71, 72, 45, 73, 74, 55, 75, 76, 77, 78, 79, 18, 80, 81, 82, 83, 84, 85, 86, 87, 88, 89, 90, 91, 92, 93, 15, 94, 95, 96, 97, 98, 99, 100, 101, 102, 103, 104, 105, 106, 107, 108, 21, 109, 110, 111, 112, 19, 113, 114, 115, 116, 117, 118, 119, 120, 121, 122, 123, 124, 125, 126, 127, 128, 129, 130, 131, 132, 133, 134, 135, 136, 16, 17, 137, 138, 139, 140, 141, 142, 143, 144, 145, 146, 147, 148, 149, 150, 151, 152, 153, 154, 155, 156, 157, 158, 159, 160, 161, 162, 163, 164, 165, 166, 167, 168, 169, 170, 171, 172, 173, 174, 175, 176, 177, 178, 41, 179, 180, 181, 182, 22, 183, 184, 185, 186, 187, 188, 189, 190, 46, 14, 47, 48, 49, 191, 192, 193, 194, 195, 196, 197, 31, 198, 199, 200, 201, 30, 202, 203, 204, 205, 206, 207, 50, 51, 52, 208, 209, 210, 211, 26, 212, 213, 214, 215, 216, 25, 217, 218, 219, 36, 220, 221, 222, 223, 224, 225, 226, 227, 228, 229, 230, 231, 232, 233, 234, 235, 236, 237, 238, 239, 240, 3, 241, 242, 243, 244, 245, 246, 247, 248, 249, 250, 269, 270, 271, 272, 273, 274, 275, 276, 277, 278, 279, 280, 281, 282, 283, 284, 285, 286] (by decide +kernel) (by decide +kernel)) (goodIn_sub (fun _ h => List.mem_append_left _ (List.mem_append_left _ (List.mem_append_right _ h))) (by decide +kernel))) (goodIn_sub (fun _ h => List.mem_append_left _ (List.mem_append_right _ h)) (by decide +kernel))) (goodIn_sub (fun _ h => List.mem_append_right _ h) (by decide +kernel))
set_option maxRecDepth 20000 in
theorem gL_law_L_isSender : GoodIn wsL_law (va_wsS RL 87 yL_isSender wsL_isSender) := goodIn_app (goodIn_of _ (by decide +kernel)) ggL_law_L_isSender
set_option maxRecDepth 20000 in
theorem ggL_law_X3_begin : GoodIn wsL_law wsX3_begin := goodIn_ca (goodIn_r _ [254, 122, 123, 43, 37, 38, 39, 2, 40, 15, 41, 42, 44, 45, 46, 14, 47, 48, 49, 50, 51, 52, 30, 31, 269, 270, 271, 272, 273, 274, 275, 276, 277, 278, 279, 280, 281, 282, 283, 284] (by decide +kernel) (by decide +kernel)) (goodIn_sub (fun _ h => List.mem_append_left _ (List.mem_append_right _ h)) (by decide +kernel))
set_option maxRecDepth 20000 in
theorem gL_law_X3_begin : GoodIn wsL_law (wsV RL 93 RX3 yX3_begin wsX3_begin) := goodIn_app (goodIn_of _ (by decide +kernel)) ggL_law_X3_begin
set_option maxRecDepth 20000 in
theorem ggL_law_L_does : GoodIn wsL_law wsL_does := goodIn_ca (goodIn_ca (goodIn_ca (goodIn_r _ [115, 116, 117, 118, 119, 120, 2, 121, 122, 123, 124, 125, 43, 15, 126, 127, 128, 129, 84, 85, 130, 131, 132, 133, 134, 135, 136, 42, 16, 17, 18, 19, 21, 137, 138, 139, 140, 141, 142, 143, 144, 145, 146, 147, 148, 149, 150, 151, 152, 153, 154, 155, 156, 157, 158, 90, 91, 92, 93, 94, 95, 96, 97, 98, 99, 100, 101, 102, 103, 104, 159, 160, 161, 162, 163, 164, 165, 166, 167, 168, 169, 170, 44, 45, 171, 172, 173, 174, 175, 176, 177, 178, 41, 179, 180, 181, 182, 22, 183, 184, 185, 186, 80, 81, 82, 83, 187, 188, 189, 190, 46, 14, 47, 48, 49, 191, 192, 193, 194, 195, 196, 197, 31, 198, 199, 200, 201, 30, 202, 203, 204, 205, 206, 207, 50, 51, 52, 208, 209, 210, 211, 26, 212, 213, 214, 215, 216, 25, 217, 218, 219, 36, 220, 221, 222, 223, 224, 225, 226, 227, 228, 229, 230, 231, 232, 233, 269, 270, 271, 272, 273, 274, 275, 276, 277, 278, 279, 280, 281, 282, 283, 284, 285, 286] (by decide +kernel) (by decide +kernel)) (goodIn_sub (fun _ h => List.mem_append_left _ (List.mem_append_right _ h)) (by decide +kernel))) (goodIn_sub (fun _ h => List.mem_append_right _ h) (by decide +kernel))) (goodIn_sub (fun _ h => List.mem_append_left _ (List.mem_append_left _ (List.mem_append_right _ h))) (by decide +kernel))
set_option maxRecDepth 20000 in
theorem gL_law_L_does : GoodIn wsL_law (va_wsS RL 74 yL_does wsL_does) := goodIn_app (goodIn_of _ (by decide +kernel)) ggL_law_L_does
set_option maxRecDepth 20000 in
theorem ggL_law_X3_setLosses : GoodIn wsL_law wsX3_setLosses := goodIn_ca (goodIn_ca (goodIn_r _ [258, 16, 80, 81, 82, 2, 83, 84, 85, 42, 137, 138, 139, 122, 123, 269, 270, 271, 272, 273, 274, 275, 276, 277, 278, 279, 280, 281] (by decide +kernel) (by decide +kernel)) (goodIn_sub (fun _ h => List.mem_append_left _ (List.mem_append_left _ (List.mem_append_right _ h))) (by decide +kernel))) (goodIn_sub (fun _ h => List.mem_append_left _ (List.mem_append_right _ h)) (by decide +kernel))
set_option maxRecDepth 20000 in
theorem gL_law_X3_setLosses : GoodIn wsL_law (wsV RL 96 RX3 yX3_setLosses wsX3_setLosses) := goodIn_app (goodIn_of _ (by decide +kernel)) ggL_law_X3_setLosses
set_option maxRecDepth 20000 in
theorem ggL_law_X3_setWait : GoodIn wsL_law wsX3_setWait := goodIn_ca (goodIn_ca (goodIn_r _ [262, 17, 80, 81, 82, 2, 83, 84, 85, 42, 140, 141, 142, 122, 123, 269, 270, 271, 272, 273, 274, 275, 276, 277, 278, 279, 280, 281] (by decide +kernel) (by decide +kernel)) (goodIn_sub (fun _ h => List.mem_append_left _ (List.mem_append_left _ (List.mem_append_right _ h))) (by decide +kernel))) (goodIn_sub (fun _ h => List.mem_append_left _ (List.mem_append_right _ h)) (by decide +kernel))
set_option maxRecDepth 20000 in
theorem gL_law_X3_setWait : GoodIn wsL_law (wsV RL 99 RX3 yX3_setWait wsX3_setWait) := goodIn_app (goodIn_of _ (by decide +kernel)) ggL_law_X3_setWait
set_option maxRecDepth 20000 in
theorem ggL_law_L_sends : GoodIn wsL_law wsL_sends := goodIn_r _ [265] (by decide +kernel) (by decide +kernel)
set_option maxRecDepth 20000 in
theorem gL_law_L_sends : GoodIn wsL_law (va_wsS RL 21 yL_sends wsL_sends) := goodIn_app (goodIn_of _ (by decide +kernel)) ggL_law_L_sends
set_option maxRecDepth 20000 in
theorem ggL_law_L_need : GoodIn wsL_law wsL_need := goodIn_r _ [75] (by decide +kernel) (by decide +kernel)
set_option maxRecDepth 20000 in
theorem gL_law_L_need : GoodIn wsL_law (va_wsS RL 17 yL_need wsL_need) := goodIn_app (goodIn_of _ (by decide +kernel)) ggL_law_L_need
set_option maxRecDepth 20000 in
theorem ggL_law_L_rounds : GoodIn wsL_law wsL_rounds := goodIn_r _ [268, 3, 73, 74, 55, 75, 263, 264, 265] (by decide +kernel) (by decide +kernel)
set_option maxRecDepth 20000 in
theorem gL_law_L_rounds : GoodIn wsL_law (va_wsS RL 102 yL_rounds wsL_rounds) := goodIn_app (goodIn_of _ (by decide +kernel)) ggL_law_L_rounds
