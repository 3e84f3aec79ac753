def wsL_law0_r1 : List Cond := [Cond.classLink RL 8 RX3, Cond.instantiable RX3 13, Cond.initialized RX3, Cond.classLink RL 65 RX4, Cond.instantiable RX4 14, Cond.initialized RX4, Cond.arrayClass .long, Cond.methodLink RL 64 yX3_init, Cond.instanceMethod yX3_init, Cond.code yX3_init cX3_init 1 none, Cond.methodLink RX3 1 objectInit, Cond.instanceMethod objectInit, Cond.code objectInit ⟨#[0xb1]⟩ 1 none, Cond.classLink RX3 7 RX2, Cond.instantiable RX2 3, Cond.initialized RX2, Cond.fieldLink RX3 10 "RepairSender" "block" "LRepairSender$Points;", Cond.arrayClass .int, Cond.fieldLink RX3 16 "RepairSender" "losses" "[I", Cond.fieldLink RX3 20 "RepairSender" "waits" "[I", Cond.fieldLink RX3 23 "RepairSender" "packetSets" "[I", Cond.fieldLink RX3 26 "RepairSender" "badCounts" "[I", Cond.arrayClass .boolean, Cond.fieldLink RX3 29 "RepairSender" "dropped" "[Z"]
def wsL_law0_r2 : List Cond := [Cond.fieldLink RX3 33 "RepairSender" "chosen" "LRepairSender$Points;", Cond.classLink RX3 36 RX0, Cond.instantiable RX0 2, Cond.initialized RX0, Cond.fieldLink RX3 39 "RepairSender" "equations" "LRepairSender$Equations;", Cond.instanceMethod yX2_init, Cond.code yX2_init cX2_init 1 none, Cond.methodLink RX2 3 objectInit, Cond.fieldLink RX2 9 "RepairSender$Points" "places" "[I", Cond.fieldLink RX2 15 "RepairSender$Points" "values" "[I", Cond.instanceMethod yX0_init, Cond.code yX0_init cX0_init 1 none, Cond.methodLink RX0 3 objectInit, Cond.classLink RX0 9 "[[I", Cond.fieldLink RX0 11 "RepairSender$Equations" "cells" "[[I", Cond.methodLink RX3 43 yX3_startBlock, Cond.instanceMethod yX3_startBlock, Cond.selects RX3 yX3_startBlock yX3_startBlock, Cond.code yX3_startBlock cX3_startBlock 4 none, Cond.fieldLink RX3 173 "RepairSender" "patience" "I", Cond.fieldLink RX3 84 "RepairSender" "receiverCount" "I", Cond.fieldLink RX3 56 "RepairSender" "sentCount" "I", Cond.fieldLink RX3 111 "RepairSender" "reportCount" "I", Cond.fieldLink RX3 114 "RepairSender" "keptBackCount" "I"]
def wsL_law0_r3 : List Cond := [Cond.instanceMethod yX2_clear, Cond.selects RX2 yX2_clear yX2_clear, Cond.code yX2_clear cX2_clear 1 none, Cond.fieldLink RX2 18 "RepairSender$Points" "count" "I", Cond.instanceMethod yX2_add, Cond.selects RX2 yX2_add yX2_add, Cond.code yX2_add cX2_add 3 none, Cond.methodLink RL 67 yX4_init, Cond.instanceMethod yX4_init, Cond.code yX4_init cX4_init 1 none, Cond.methodLink RX4 1 objectInit, Cond.fieldLink RX4 7 "RepairSenderModel" "data" "[I", Cond.fieldLink RX4 13 "RepairSenderModel" "lossesOf" "[I", Cond.fieldLink RX4 16 "RepairSenderModel" "waits" "[I", Cond.fieldLink RX4 19 "RepairSenderModel" "sets" "[I", Cond.fieldLink RX4 22 "RepairSenderModel" "bads" "[I", Cond.fieldLink RX4 25 "RepairSenderModel" "isGone" "[Z", Cond.fieldLink RX4 29 "RepairSenderModel" "needsAhead" "[I", Cond.fieldLink RX4 32 "RepairSenderModel" "size" "I", Cond.fieldLink RX4 36 "RepairSenderModel" "patience" "I", Cond.methodLink RL 68 yL_begin, Cond.static yL_begin, Cond.initialized RL, Cond.codeWith yL_begin cL_begin 5 (some .int) [(0, 10, 13, 13)]]
def wsL_law0_r4 : List Cond := [Cond.classLink RL 13 "java/lang/IllegalArgumentException", Cond.methodLink RL 7 yX3_begin, Cond.instanceMethod yX3_begin, Cond.selects RX3 yX3_begin yX3_begin, Cond.code yX3_begin cX3_begin 4 (some .int), Cond.classLink RX3 47 "java/lang/IllegalArgumentException", Cond.initialized "java/lang/IllegalArgumentException", Cond.methodLink RL 73 yX4_begin, Cond.instanceMethod yX4_begin, Cond.selects RX4 yX4_begin yX4_begin, Cond.code yX4_begin cX4_begin 5 (some .int), Cond.fieldLink RX4 39 "RepairSenderModel" "thrown" "I", Cond.fieldLink RX4 49 "RepairSenderModel" "sentMany" "I", Cond.fieldLink RX4 42 "RepairSenderModel" "receiverMany" "I", Cond.fieldLink RX4 52 "RepairSenderModel" "reportMany" "I", Cond.fieldLink RX4 55 "RepairSenderModel" "silentMany" "I", Cond.methodLink RX4 45 yX4_in, Cond.static yX4_in, Cond.code yX4_in cX4_in 3 (some .boolean), Cond.methodLink RL 74 yX4_thrown, Cond.instanceMethod yX4_thrown, Cond.selects RX4 yX4_thrown yX4_thrown, Cond.code yX4_thrown cX4_thrown 1 (some .int), Cond.methodLink RL 77 yL_setDatum]
def wsL_law0_r5 : List Cond := [Cond.static yL_setDatum, Cond.codeWith yL_setDatum cL_setDatum 5 (some .int) [(0, 10, 13, 18), (0, 10, 17, 13), (0, 10, 21, 20)], Cond.classLink RL 18 "java/lang/IndexOutOfBoundsException", Cond.classLink RL 20 "java/lang/IllegalStateException", Cond.methodLink RL 15 yX3_setDatum, Cond.instanceMethod yX3_setDatum, Cond.selects RX3 yX3_setDatum yX3_setDatum, Cond.code yX3_setDatum cX3_setDatum 4 (some .int), Cond.classLink RX3 70 "java/lang/IllegalStateException", Cond.initialized "java/lang/IllegalStateException", Cond.methodLink RX3 60 yX3_demandPlace, Cond.instanceMethod yX3_demandPlace, Cond.selects RX3 yX3_demandPlace yX3_demandPlace, Cond.code yX3_demandPlace cX3_demandPlace 2 none, Cond.classLink RX3 129 "java/lang/IndexOutOfBoundsException", Cond.initialized "java/lang/IndexOutOfBoundsException", Cond.methodLink RX3 64 yX3_isFieldNumber, Cond.static yX3_isFieldNumber, Cond.code yX3_isFieldNumber cX3_isFieldNumber 1 (some .boolean), Cond.methodLink RL 79 yX4_setDatum, Cond.instanceMethod yX4_setDatum, Cond.selects RX4 yX4_setDatum yX4_setDatum, Cond.code yX4_setDatum cX4_setDatum 4 (some .int), Cond.methodLink RL 80 yL_join]
def wsL_law0_r6 : List Cond := [Cond.static yL_join, Cond.codeWith yL_join cL_join 5 (some .int) [(0, 10, 13, 13), (0, 10, 17, 20)], Cond.methodLink RL 22 yX3_join, Cond.instanceMethod yX3_join, Cond.selects RX3 yX3_join yX3_join, Cond.code yX3_join cX3_join 4 (some .int), Cond.methodLink RX3 78 yX3_demandLosses, Cond.static yX3_demandLosses, Cond.code yX3_demandLosses cX3_demandLosses 1 none, Cond.methodLink RX3 81 yX3_demandWait, Cond.static yX3_demandWait, Cond.code yX3_demandWait cX3_demandWait 1 none, Cond.methodLink RL 82 yX4_join, Cond.instanceMethod yX4_join, Cond.selects RX4 yX4_join yX4_join, Cond.code yX4_join cX4_join 3 (some .int), Cond.methodLink RL 83 yL_setLosses, Cond.static yL_setLosses, Cond.codeWith yL_setLosses cL_setLosses 5 (some .int) [(0, 10, 13, 18), (0, 10, 17, 13)], Cond.methodLink RL 25 yX3_setLosses, Cond.instanceMethod yX3_setLosses, Cond.selects RX3 yX3_setLosses yX3_setLosses, Cond.code yX3_setLosses cX3_setLosses 4 (some .int), Cond.methodLink RX3 89 yX3_demandReceiver]
def wsL_law0_r7 : List Cond := [Cond.instanceMethod yX3_demandReceiver, Cond.selects RX3 yX3_demandReceiver yX3_demandReceiver, Cond.code yX3_demandReceiver cX3_demandReceiver 2 none, Cond.methodLink RL 85 yX4_setLosses, Cond.instanceMethod yX4_setLosses, Cond.selects RX4 yX4_setLosses yX4_setLosses, Cond.code yX4_setLosses cX4_setLosses 4 (some .int), Cond.methodLink RX4 58 yX4_isReceiver, Cond.instanceMethod yX4_isReceiver, Cond.selects RX4 yX4_isReceiver yX4_isReceiver, Cond.code yX4_isReceiver cX4_isReceiver 2 (some .boolean), Cond.methodLink RL 86 yL_setWait, Cond.static yL_setWait, Cond.codeWith yL_setWait cL_setWait 5 (some .int) [(0, 10, 13, 18), (0, 10, 17, 13)], Cond.methodLink RL 28 yX3_setWait, Cond.instanceMethod yX3_setWait, Cond.selects RX3 yX3_setWait yX3_setWait, Cond.code yX3_setWait cX3_setWait 4 (some .int), Cond.methodLink RL 88 yX4_setWait, Cond.instanceMethod yX4_setWait, Cond.selects RX4 yX4_setWait yX4_setWait, Cond.code yX4_setWait cX4_setWait 4 (some .int), Cond.methodLink RL 89 yL_send, Cond.static yL_send]
def wsL_law0_r8 : List Cond := [Cond.codeWith yL_send cL_send 4 (some .int) [(0, 9, 12, 13), (0, 9, 15, 20)], Cond.methodLink RL 31 yX3_send, Cond.instanceMethod yX3_send, Cond.selects RX3 yX3_send yX3_send, Cond.code yX3_send cX3_send 2 (some .int), Cond.methodLink RX3 96 yX3_sendPackets, Cond.instanceMethod yX3_sendPackets, Cond.selects RX3 yX3_sendPackets yX3_sendPackets, Cond.code yX3_sendPackets cX3_sendPackets 3 none, Cond.methodLink RX3 186 yX3_sendNextPacket, Cond.instanceMethod yX3_sendNextPacket, Cond.selects RX3 yX3_sendNextPacket yX3_sendNextPacket, Cond.code yX3_sendNextPacket cX3_sendNextPacket 4 none, Cond.methodLink RX3 99 yX3_completeCount, Cond.instanceMethod yX3_completeCount, Cond.selects RX3 yX3_completeCount yX3_completeCount, Cond.code yX3_completeCount cX3_completeCount 3 (some .int), Cond.methodLink RX3 117 yX3_needOf, Cond.instanceMethod yX3_needOf, Cond.selects RX3 yX3_needOf yX3_needOf, Cond.code yX3_needOf cX3_needOf 2 (some .int), Cond.methodLink RX3 181 Lib.Math.max.name, Cond.static Lib.Math.max.name, Cond.initialized "java/lang/Math"]
def wsL_law0_r9 : List Cond := [Cond.code Lib.Math.max.name Lib.Math.max.code 2 (some .int), Cond.methodLink RX3 176 yJ6_bitCount_0f7a4, Cond.static yJ6_bitCount_0f7a4, Cond.initialized RJ6, Cond.code yJ6_bitCount_0f7a4 cJ6_bitCount_0f7a4 1 (some .int), Cond.constant RJ6 265 (1431655765), Cond.constant RJ6 266 (858993459), Cond.constant RJ6 267 (252645135), Cond.methodLink RL 92 yX4_send, Cond.instanceMethod yX4_send, Cond.selects RX4 yX4_send yX4_send, Cond.code yX4_send cX4_send 4 (some .int), Cond.methodLink RX4 62 yX4_sendOne, Cond.instanceMethod yX4_sendOne, Cond.selects RX4 yX4_sendOne yX4_sendOne, Cond.code yX4_sendOne cX4_sendOne 4 none, Cond.methodLink RX4 65 yX4_needOf, Cond.instanceMethod yX4_needOf, Cond.selects RX4 yX4_needOf yX4_needOf, Cond.code yX4_needOf cX4_needOf 4 (some .int), Cond.methodLink RL 93 yL_round, Cond.static yL_round, Cond.codeWith yL_round cL_round 3 (some .int) [(0, 8, 11, 20)], Cond.methodLink RL 35 yX3_round]
def wsL_law0_r10 : List Cond := [Cond.instanceMethod yX3_round, Cond.selects RX3 yX3_round yX3_round, Cond.code yX3_round cX3_round 2 (some .int), Cond.methodLink RX3 105 yX3_hearReports, Cond.instanceMethod yX3_hearReports, Cond.selects RX3 yX3_hearReports yX3_hearReports, Cond.code yX3_hearReports cX3_hearReports 3 (some .int), Cond.methodLink RX3 189 yX3_hearReportsAt, Cond.instanceMethod yX3_hearReportsAt, Cond.selects RX3 yX3_hearReportsAt yX3_hearReportsAt, Cond.code yX3_hearReportsAt cX3_hearReportsAt 6 (some .int), Cond.methodLink RX3 192 yX3_isLiveAndLacks, Cond.instanceMethod yX3_isLiveAndLacks, Cond.selects RX3 yX3_isLiveAndLacks yX3_isLiveAndLacks, Cond.code yX3_isLiveAndLacks cX3_isLiveAndLacks 2 (some .boolean), Cond.methodLink RX3 108 yX3_countBadRounds, Cond.instanceMethod yX3_countBadRounds, Cond.selects RX3 yX3_countBadRounds yX3_countBadRounds, Cond.code yX3_countBadRounds cX3_countBadRounds 2 none, Cond.methodLink RL 96 yX4_round, Cond.instanceMethod yX4_round, Cond.selects RX4 yX4_round yX4_round, Cond.code yX4_round cX4_round 3 (some .int), Cond.methodLink RX4 69 yX4_layNeeds]
def wsL_law0_r11 : List Cond := [Cond.instanceMethod yX4_layNeeds, Cond.selects RX4 yX4_layNeeds yX4_layNeeds, Cond.code yX4_layNeeds cX4_layNeeds 2 none, Cond.methodLink RX4 72 yX4_report, Cond.instanceMethod yX4_report, Cond.selects RX4 yX4_report yX4_report, Cond.code yX4_report cX4_report 6 (some .int), Cond.methodLink RL 97 yX3_sent, Cond.instanceMethod yX3_sent, Cond.selects RX3 yX3_sent yX3_sent, Cond.code yX3_sent cX3_sent 1 (some .int), Cond.methodLink RL 100 yX4_sent, Cond.instanceMethod yX4_sent, Cond.selects RX4 yX4_sent yX4_sent, Cond.code yX4_sent cX4_sent 1 (some .int), Cond.methodLink RL 101 yX3_receivers, Cond.instanceMethod yX3_receivers, Cond.selects RX3 yX3_receivers yX3_receivers, Cond.code yX3_receivers cX3_receivers 1 (some .int), Cond.methodLink RL 104 yX4_receivers, Cond.instanceMethod yX4_receivers, Cond.selects RX4 yX4_receivers yX4_receivers, Cond.code yX4_receivers cX4_receivers 1 (some .int), Cond.methodLink RL 105 yX3_reports]
def wsL_law0_r12 : List Cond := [Cond.instanceMethod yX3_reports, Cond.selects RX3 yX3_reports yX3_reports, Cond.code yX3_reports cX3_reports 1 (some .int), Cond.methodLink RL 108 yX4_reports, Cond.instanceMethod yX4_reports, Cond.selects RX4 yX4_reports yX4_reports, Cond.code yX4_reports cX4_reports 1 (some .int), Cond.methodLink RL 109 yX3_keptBack, Cond.instanceMethod yX3_keptBack, Cond.selects RX3 yX3_keptBack yX3_keptBack, Cond.code yX3_keptBack cX3_keptBack 1 (some .int), Cond.methodLink RL 112 yX4_keptBack, Cond.instanceMethod yX4_keptBack, Cond.selects RX4 yX4_keptBack yX4_keptBack, Cond.code yX4_keptBack cX4_keptBack 1 (some .int), Cond.methodLink RL 113 yL_has, Cond.static yL_has, Cond.codeWith yL_has cL_has 4 (some .int) [(0, 9, 12, 18)], Cond.methodLink RL 39 yX3_has, Cond.instanceMethod yX3_has, Cond.selects RX3 yX3_has yX3_has, Cond.code yX3_has cX3_has 2 (some .int), Cond.methodLink RL 115 yX4_has, Cond.instanceMethod yX4_has]
def wsL_law0_r13 : List Cond := [Cond.selects RX4 yX4_has yX4_has, Cond.code yX4_has cX4_has 2 (some .int), Cond.methodLink RX4 76 yX4_asksFor, Cond.instanceMethod yX4_asksFor, Cond.selects RX4 yX4_asksFor yX4_asksFor, Cond.code yX4_asksFor cX4_asksFor 2 (some .boolean), Cond.methodLink RL 116 yL_need, Cond.static yL_need, Cond.codeWith yL_need cL_need 4 (some .int) [(0, 9, 12, 18)], Cond.methodLink RL 42 yX3_need, Cond.instanceMethod yX3_need, Cond.selects RX3 yX3_need yX3_need, Cond.code yX3_need cX3_need 2 (some .int), Cond.methodLink RL 118 yX4_need, Cond.instanceMethod yX4_need, Cond.selects RX4 yX4_need yX4_need, Cond.code yX4_need cX4_need 2 (some .int), Cond.methodLink RL 119 yL_isDropped, Cond.static yL_isDropped, Cond.codeWith yL_isDropped cL_isDropped 4 (some .int) [(0, 16, 19, 18)], Cond.methodLink RL 45 yX3_isDropped, Cond.instanceMethod yX3_isDropped, Cond.selects RX3 yX3_isDropped yX3_isDropped, Cond.code yX3_isDropped cX3_isDropped 2 (some .boolean)]
def wsL_law0_r14 : List Cond := [Cond.methodLink RL 121 yX4_isDropped, Cond.instanceMethod yX4_isDropped, Cond.selects RX4 yX4_isDropped yX4_isDropped, Cond.code yX4_isDropped cX4_isDropped 2 (some .boolean), Cond.methodLink RL 122 yL_badRounds, Cond.static yL_badRounds, Cond.codeWith yL_badRounds cL_badRounds 4 (some .int) [(0, 9, 12, 18)], Cond.methodLink RL 49 yX3_badRounds, Cond.instanceMethod yX3_badRounds, Cond.selects RX3 yX3_badRounds yX3_badRounds, Cond.code yX3_badRounds cX3_badRounds 2 (some .int), Cond.methodLink RL 124 yX4_badRounds, Cond.instanceMethod yX4_badRounds, Cond.selects RX4 yX4_badRounds yX4_badRounds, Cond.code yX4_badRounds cX4_badRounds 2 (some .int), Cond.methodLink RL 125 yL_times, Cond.static yL_times, Cond.codeWith yL_times cL_times 5 (some .int) [(0, 10, 13, 13)], Cond.methodLink RL 52 yX3_times, Cond.instanceMethod yX3_times, Cond.selects RX3 yX3_times yX3_times, Cond.code yX3_times cX3_times 3 (some .int), Cond.static yX1_product, Cond.initialized RX1]
def wsL_law0_r15 : List Cond := [Cond.code yX1_product cX1_product 5 (some .int), Cond.methodLink RL 127 yX4_times, Cond.instanceMethod yX4_times, Cond.selects RX4 yX4_times yX4_times, Cond.code yX4_times cX4_times 3 (some .int), Cond.methodLink RX4 79 yX4_product, Cond.static yX4_product, Cond.code yX4_product cX4_product 5 (some .int), Cond.methodLink RL 128 yL_packet, Cond.static yL_packet, Cond.codeWith yL_packet cL_packet 4 (some .int) [(0, 9, 12, 18)], Cond.methodLink RL 55 yX3_packet, Cond.instanceMethod yX3_packet, Cond.selects RX3 yX3_packet yX3_packet, Cond.code yX3_packet cX3_packet 2 (some .int), Cond.instanceMethod yX2_polynomialAt, Cond.selects RX2 yX2_polynomialAt yX2_polynomialAt, Cond.code yX2_polynomialAt cX2_polynomialAt 4 (some .int), Cond.methodLink RX2 22 yX2_weight, Cond.instanceMethod yX2_weight, Cond.selects RX2 yX2_weight yX2_weight, Cond.code yX2_weight cX2_weight 6 (some .int), Cond.static yX1_inverse, Cond.code yX1_inverse cX1_inverse 4 (some .int)]
def wsL_law0_r16 : List Cond := [Cond.methodLink RX1 11 yX1_product, Cond.methodLink RL 130 yX4_packet, Cond.instanceMethod yX4_packet, Cond.selects RX4 yX4_packet yX4_packet, Cond.code yX4_packet cX4_packet 7 (some .int), Cond.methodLink RX4 82 yX4_inverse, Cond.static yX4_inverse, Cond.code yX4_inverse cX4_inverse 2 (some .int), Cond.methodLink RL 131 yL_rebuilt, Cond.static yL_rebuilt, Cond.codeWith yL_rebuilt cL_rebuilt 5 (some .int) [(0, 10, 13, 18), (0, 10, 17, 20)], Cond.methodLink RL 58 yX3_rebuilt, Cond.instanceMethod yX3_rebuilt, Cond.selects RX3 yX3_rebuilt yX3_rebuilt, Cond.code yX3_rebuilt cX3_rebuilt 3 (some .int), Cond.methodLink RX3 137 yX3_demandRebuilding, Cond.instanceMethod yX3_demandRebuilding, Cond.selects RX3 yX3_demandRebuilding yX3_demandRebuilding, Cond.code yX3_demandRebuilding cX3_demandRebuilding 3 none, Cond.methodLink RX3 140 yX3_chooseLowest, Cond.instanceMethod yX3_chooseLowest, Cond.selects RX3 yX3_chooseLowest yX3_chooseLowest, Cond.code yX3_chooseLowest cX3_chooseLowest 3 none, Cond.methodLink RX3 195 yX3_chooseIfWanted]
def wsL_law0_r17 : List Cond := [Cond.instanceMethod yX3_chooseIfWanted, Cond.selects RX3 yX3_chooseIfWanted yX3_chooseIfWanted, Cond.code yX3_chooseIfWanted cX3_chooseIfWanted 4 none, Cond.methodLink RL 133 yX4_rebuilt, Cond.instanceMethod yX4_rebuilt, Cond.selects RX4 yX4_rebuilt yX4_rebuilt, Cond.code yX4_rebuilt cX4_rebuilt 3 (some .int), Cond.methodLink RL 134 yL_rebuiltByElimination, Cond.static yL_rebuiltByElimination, Cond.codeWith yL_rebuiltByElimination cL_rebuiltByElimination 5 (some .int) [(0, 10, 13, 18), (0, 10, 17, 20)], Cond.methodLink RL 61 yX3_rebuiltByElimination, Cond.instanceMethod yX3_rebuiltByElimination, Cond.selects RX3 yX3_rebuiltByElimination yX3_rebuiltByElimination, Cond.code yX3_rebuiltByElimination cX3_rebuiltByElimination 3 (some .int), Cond.methodLink RX3 143 yX3_chooseHighest, Cond.instanceMethod yX3_chooseHighest, Cond.selects RX3 yX3_chooseHighest yX3_chooseHighest, Cond.code yX3_chooseHighest cX3_chooseHighest 3 none, Cond.instanceMethod yX0_write, Cond.selects RX0 yX0_write yX0_write, Cond.code yX0_write cX0_write 5 none, Cond.fieldLink RX0 22 "RepairSender$Equations" "count" "I", Cond.instanceMethod yX0_solve, Cond.selects RX0 yX0_solve yX0_solve]
def wsL_law0_r18 : List Cond := [Cond.code yX0_solve cX0_solve 3 none, Cond.methodLink RX0 40 yX0_scaleRow, Cond.instanceMethod yX0_scaleRow, Cond.selects RX0 yX0_scaleRow yX0_scaleRow, Cond.code yX0_scaleRow cX0_scaleRow 4 none, Cond.methodLink RX0 44 yX0_addMultiple, Cond.instanceMethod yX0_addMultiple, Cond.selects RX0 yX0_addMultiple yX0_addMultiple, Cond.code yX0_addMultiple cX0_addMultiple 5 none, Cond.instanceMethod yX0_polynomialAt, Cond.selects RX0 yX0_polynomialAt yX0_polynomialAt, Cond.code yX0_polynomialAt cX0_polynomialAt 4 (some .int), Cond.methodLink RL 136 yX4_rebuiltByElimination, Cond.instanceMethod yX4_rebuiltByElimination, Cond.selects RX4 yX4_rebuiltByElimination yX4_rebuiltByElimination, Cond.code yX4_rebuiltByElimination cX4_rebuiltByElimination 3 (some .int), Cond.methodLink RX4 85 yX4_rebuilt]
def wsL_law0 : List Cond := (wsL_law0_r1 ++ (wsL_law0_r2 ++ (wsL_law0_r3 ++ (wsL_law0_r4 ++ (wsL_law0_r5 ++ (wsL_law0_r6 ++ (wsL_law0_r7 ++ (wsL_law0_r8 ++ (wsL_law0_r9 ++ (wsL_law0_r10 ++ (wsL_law0_r11 ++ (wsL_law0_r12 ++ (wsL_law0_r13 ++ (wsL_law0_r14 ++ (wsL_law0_r15 ++ (wsL_law0_r16 ++ (wsL_law0_r17 ++ wsL_law0_r18))))))))))))))))) ++ wsX30 ++ wsX40 ++ wsX20 ++ wsX00 ++ ([] : List Cond)
def wsL_law : List Cond := wsL_law0 ++ (vx_atS RX3 51 "java/lang/IllegalArgumentException" ["java/lang/RuntimeException", "java/lang/Exception"]).filter goodWord ++ (vx_atS RX3 74 "java/lang/IllegalStateException" ["java/lang/RuntimeException", "java/lang/Exception"]).filter goodWord ++ (vx_atS RX3 133 "java/lang/IndexOutOfBoundsException" ["java/lang/RuntimeException", "java/lang/Exception"]).filter goodWord
set_option maxRecDepth 20000 in
theorem dJ6_bitCount_0f7a4_0 : decode cJ6_bitCount_0f7a4 0 = .ok (.iload_n 0, 1) := by decide +kernel
theorem dJ6_bitCount_0f7a4_1 : decode cJ6_bitCount_0f7a4 1 = .ok (.iload_n 0, 1) := by decide +kernel
theorem dJ6_bitCount_0f7a4_2 : decode cJ6_bitCount_0f7a4 2 = .ok (.iconst 1, 1) := by decide +kernel
theorem dJ6_bitCount_0f7a4_3 : decode cJ6_bitCount_0f7a4 3 = .ok (.iushr, 1) := by decide +kernel
theorem dJ6_bitCount_0f7a4_4 : decode cJ6_bitCount_0f7a4 4 = .ok (.ldc_w 265, 3) := by decide +kernel
theorem dJ6_bitCount_0f7a4_7 : decode cJ6_bitCount_0f7a4 7 = .ok (.iand, 1) := by decide +kernel
theorem dJ6_bitCount_0f7a4_8 : decode cJ6_bitCount_0f7a4 8 = .ok (.isub, 1) := by decide +kernel
theorem dJ6_bitCount_0f7a4_9 : decode cJ6_bitCount_0f7a4 9 = .ok (.istore_n 0, 1) := by decide +kernel
theorem dJ6_bitCount_0f7a4_10 : decode cJ6_bitCount_0f7a4 10 = .ok (.iload_n 0, 1) := by decide +kernel
theorem dJ6_bitCount_0f7a4_11 : decode cJ6_bitCount_0f7a4 11 = .ok (.ldc_w 266, 3) := by decide +kernel
theorem dJ6_bitCount_0f7a4_14 : decode cJ6_bitCount_0f7a4 14 = .ok (.iand, 1) := by decide +kernel
theorem dJ6_bitCount_0f7a4_15 : decode cJ6_bitCount_0f7a4 15 = .ok (.iload_n 0, 1) := by decide +kernel
theorem dJ6_bitCount_0f7a4_16 : decode cJ6_bitCount_0f7a4 16 = .ok (.iconst 2, 1) := by decide +kernel
theorem dJ6_bitCount_0f7a4_17 : decode cJ6_bitCount_0f7a4 17 = .ok (.iushr, 1) := by decide +kernel
theorem dJ6_bitCount_0f7a4_18 : decode cJ6_bitCount_0f7a4 18 = .ok (.ldc_w 266, 3) := by decide +kernel
theorem dJ6_bitCount_0f7a4_21 : decode cJ6_bitCount_0f7a4 21 = .ok (.iand, 1) := by decide +kernel
theorem dJ6_bitCount_0f7a4_22 : decode cJ6_bitCount_0f7a4 22 = .ok (.iadd, 1) := by decide +kernel
theorem dJ6_bitCount_0f7a4_23 : decode cJ6_bitCount_0f7a4 23 = .ok (.istore_n 0, 1) := by decide +kernel
theorem dJ6_bitCount_0f7a4_24 : decode cJ6_bitCount_0f7a4 24 = .ok (.iload_n 0, 1) := by decide +kernel
theorem dJ6_bitCount_0f7a4_25 : decode cJ6_bitCount_0f7a4 25 = .ok (.iload_n 0, 1) := by decide +kernel
theorem dJ6_bitCount_0f7a4_26 : decode cJ6_bitCount_0f7a4 26 = .ok (.iconst 4, 1) := by decide +kernel
theorem dJ6_bitCount_0f7a4_27 : decode cJ6_bitCount_0f7a4 27 = .ok (.iushr, 1) := by decide +kernel
theorem dJ6_bitCount_0f7a4_28 : decode cJ6_bitCount_0f7a4 28 = .ok (.iadd, 1) := by decide +kernel
theorem dJ6_bitCount_0f7a4_29 : decode cJ6_bitCount_0f7a4 29 = .ok (.ldc_w 267, 3) := by decide +kernel
theorem dJ6_bitCount_0f7a4_32 : decode cJ6_bitCount_0f7a4 32 = .ok (.iand, 1) := by decide +kernel
theorem dJ6_bitCount_0f7a4_33 : decode cJ6_bitCount_0f7a4 33 = .ok (.istore_n 0, 1) := by decide +kernel
theorem dJ6_bitCount_0f7a4_34 : decode cJ6_bitCount_0f7a4 34 = .ok (.iload_n 0, 1) := by decide +kernel
theorem dJ6_bitCount_0f7a4_35 : decode cJ6_bitCount_0f7a4 35 = .ok (.iload_n 0, 1) := by decide +kernel
theorem dJ6_bitCount_0f7a4_36 : decode cJ6_bitCount_0f7a4 36 = .ok (.bipush 8, 2) := by decide +kernel
theorem dJ6_bitCount_0f7a4_38 : decode cJ6_bitCount_0f7a4 38 = .ok (.iushr, 1) := by decide +kernel
theorem dJ6_bitCount_0f7a4_39 : decode cJ6_bitCount_0f7a4 39 = .ok (.iadd, 1) := by decide +kernel
theorem dJ6_bitCount_0f7a4_40 : decode cJ6_bitCount_0f7a4 40 = .ok (.istore_n 0, 1) := by decide +kernel
theorem dJ6_bitCount_0f7a4_41 : decode cJ6_bitCount_0f7a4 41 = .ok (.iload_n 0, 1) := by decide +kernel
theorem dJ6_bitCount_0f7a4_42 : decode cJ6_bitCount_0f7a4 42 = .ok (.iload_n 0, 1) := by decide +kernel
theorem dJ6_bitCount_0f7a4_43 : decode cJ6_bitCount_0f7a4 43 = .ok (.bipush 16, 2) := by decide +kernel
theorem dJ6_bitCount_0f7a4_45 : decode cJ6_bitCount_0f7a4 45 = .ok (.iushr, 1) := by decide +kernel
theorem dJ6_bitCount_0f7a4_46 : decode cJ6_bitCount_0f7a4 46 = .ok (.iadd, 1) := by decide +kernel
theorem dJ6_bitCount_0f7a4_47 : decode cJ6_bitCount_0f7a4 47 = .ok (.istore_n 0, 1) := by decide +kernel
theorem dJ6_bitCount_0f7a4_48 : decode cJ6_bitCount_0f7a4 48 = .ok (.iload_n 0, 1) := by decide +kernel
theorem dJ6_bitCount_0f7a4_49 : decode cJ6_bitCount_0f7a4 49 = .ok (.bipush 63, 2) := by decide +kernel
theorem dJ6_bitCount_0f7a4_51 : decode cJ6_bitCount_0f7a4 51 = .ok (.iand, 1) := by decide +kernel
theorem dJ6_bitCount_0f7a4_52 : decode cJ6_bitCount_0f7a4 52 = .ok (.ireturn, 1) := by decide +kernel
theorem dJ9_max_7cf53_0 : decode cJ9_max_7cf53 0 = .ok (.iload_n 0, 1) := by decide +kernel
theorem dJ9_max_7cf53_1 : decode cJ9_max_7cf53 1 = .ok (.iload_n 1, 1) := by decide +kernel
theorem dJ9_max_7cf53_2 : decode cJ9_max_7cf53 2 = .ok (.if_icmp .lt 7, 3) := by decide +kernel
theorem dJ9_max_7cf53_5 : decode cJ9_max_7cf53 5 = .ok (.iload_n 0, 1) := by decide +kernel
theorem dJ9_max_7cf53_6 : decode cJ9_max_7cf53 6 = .ok (.goto 4, 3) := by decide +kernel
theorem dJ9_max_7cf53_9 : decode cJ9_max_7cf53 9 = .ok (.iload_n 1, 1) := by decide +kernel
theorem dJ9_max_7cf53_10 : decode cJ9_max_7cf53 10 = .ok (.ireturn, 1) := by decide +kernel
set_option maxRecDepth 20000 in
theorem ggL_begin_X3_begin : GoodIn wsL_begin wsX3_begin := goodIn_ca (goodIn_r _ [6, 7, 8, 9, 10, 11, 12, 5, 13, 14, 15, 16, 17, 18, 19, 20, 21, 22, 23, 24, 25, 26, 27, 28, 29, 30, 31, 32, 33, 34, 35, 36, 37, 38, 39, 40, 41, 42, 43, 44] (by decide +kernel) (by decide +kernel)) (goodIn_sub (fun _ h => List.mem_cons_of_mem _ (List.mem_append_right _ h)) (by decide +kernel))
set_option maxRecDepth 20000 in
theorem gL_begin_X3_begin : GoodIn wsL_begin (wsV RL 7 RX3 yX3_begin wsX3_begin) := goodIn_app (goodIn_of _ (by decide +kernel)) ggL_begin_X3_begin
theorem dL_begin_0 : decode cL_begin 0 = .ok (.aload_n 3, 1) := by decide +kernel
theorem dL_begin_1 : decode cL_begin 1 = .ok (.iconst 0, 1) := by decide +kernel
theorem dL_begin_2 : decode cL_begin 2 = .ok (.aload_n 0, 1) := by decide +kernel
theorem dL_begin_3 : decode cL_begin 3 = .ok (.iload_n 1, 1) := by decide +kernel
theorem dL_begin_4 : decode cL_begin 4 = .ok (.iload_n 2, 1) := by decide +kernel
theorem dL_begin_5 : decode cL_begin 5 = .ok (.invokevirtual 7, 3) := by decide +kernel
theorem dL_begin_8 : decode cL_begin 8 = .ok (.i2l, 1) := by decide +kernel
theorem dL_begin_9 : decode cL_begin 9 = .ok (.lastore, 1) := by decide +kernel
theorem dL_begin_10 : decode cL_begin 10 = .ok (.goto 7, 3) := by decide +kernel
theorem dL_begin_13 : decode cL_begin 13 = .ok (.astore 4, 2) := by decide +kernel
theorem dL_begin_15 : decode cL_begin 15 = .ok (.iconst 1, 1) := by decide +kernel
theorem dL_begin_16 : decode cL_begin 16 = .ok (.ireturn, 1) := by decide +kernel
theorem dL_begin_17 : decode cL_begin 17 = .ok (.iconst 0, 1) := by decide +kernel
theorem dL_begin_18 : decode cL_begin 18 = .ok (.ireturn, 1) := by decide +kernel
set_option maxRecDepth 20000 in
theorem ggL_setDatum_X3_setDatum : GoodIn wsL_setDatum wsX3_setDatum := goodIn_ca (goodIn_ca (goodIn_ca (goodIn_r _ [8, 9, 10, 11, 12, 13, 14, 15, 16, 17, 7, 18, 19, 20, 21, 22, 23, 24, 25, 26, 27, 28, 29, 30, 31, 32, 33, 34, 35, 36, 37, 38, 39] (by decide +kernel) (by decide +kernel)) (goodIn_sub (fun _ h => List.mem_cons_of_mem _ (List.mem_append_left _ (List.mem_append_left _ (List.mem_append_right _ h)))) (by decide +kernel))) (goodIn_sub (fun _ h => List.mem_cons_of_mem _ (List.mem_append_left _ (List.mem_append_right _ h))) (by decide +kernel))) (goodIn_sub (fun _ h => List.mem_cons_of_mem _ (List.mem_append_right _ h)) (by decide +kernel))
set_option maxRecDepth 20000 in
theorem gL_setDatum_X3_setDatum : GoodIn wsL_setDatum (wsV RL 15 RX3 yX3_setDatum wsX3_setDatum) := goodIn_app (goodIn_of _ (by decide +kernel)) ggL_setDatum_X3_setDatum
theorem dL_setDatum_0 : decode cL_setDatum 0 = .ok (.aload_n 3, 1) := by decide +kernel
theorem dL_setDatum_1 : decode cL_setDatum 1 = .ok (.iconst 0, 1) := by decide +kernel
theorem dL_setDatum_2 : decode cL_setDatum 2 = .ok (.aload_n 0, 1) := by decide +kernel
theorem dL_setDatum_3 : decode cL_setDatum 3 = .ok (.iload_n 1, 1) := by decide +kernel
theorem dL_setDatum_4 : decode cL_setDatum 4 = .ok (.iload_n 2, 1) := by decide +kernel
theorem dL_setDatum_5 : decode cL_setDatum 5 = .ok (.invokevirtual 15, 3) := by decide +kernel
theorem dL_setDatum_8 : decode cL_setDatum 8 = .ok (.i2l, 1) := by decide +kernel
theorem dL_setDatum_9 : decode cL_setDatum 9 = .ok (.lastore, 1) := by decide +kernel
theorem dL_setDatum_10 : decode cL_setDatum 10 = .ok (.goto 15, 3) := by decide +kernel
theorem dL_setDatum_13 : decode cL_setDatum 13 = .ok (.astore 4, 2) := by decide +kernel
theorem dL_setDatum_15 : decode cL_setDatum 15 = .ok (.iconst 1, 1) := by decide +kernel
theorem dL_setDatum_16 : decode cL_setDatum 16 = .ok (.ireturn, 1) := by decide +kernel
theorem dL_setDatum_17 : decode cL_setDatum 17 = .ok (.astore 4, 2) := by decide +kernel
theorem dL_setDatum_19 : decode cL_setDatum 19 = .ok (.iconst 2, 1) := by decide +kernel
theorem dL_setDatum_20 : decode cL_setDatum 20 = .ok (.ireturn, 1) := by decide +kernel
theorem dL_setDatum_21 : decode cL_setDatum 21 = .ok (.astore 4, 2) := by decide +kernel
theorem dL_setDatum_23 : decode cL_setDatum 23 = .ok (.iconst 3, 1) := by decide +kernel
theorem dL_setDatum_24 : decode cL_setDatum 24 = .ok (.ireturn, 1) := by decide +kernel
theorem dL_setDatum_25 : decode cL_setDatum 25 = .ok (.iconst 0, 1) := by decide +kernel
theorem dL_setDatum_26 : decode cL_setDatum 26 = .ok (.ireturn, 1) := by decide +kernel
set_option maxRecDepth 20000 in
theorem ggL_join_X3_join : GoodIn wsL_join wsX3_join := goodIn_ca (goodIn_ca (goodIn_r _ [7, 8, 9, 10, 11, 12, 13, 14, 15, 16, 17, 6, 18, 19, 20, 21, 22, 23, 24, 25, 26, 27, 28, 29, 30, 31, 32, 33, 34, 35, 36] (by decide +kernel) (by decide +kernel)) (goodIn_sub (fun _ h => List.mem_cons_of_mem _ (List.mem_append_left _ (List.mem_append_right _ h))) (by decide +kernel))) (goodIn_sub (fun _ h => List.mem_cons_of_mem _ (List.mem_append_right _ h)) (by decide +kernel))
set_option maxRecDepth 20000 in
theorem gL_join_X3_join : GoodIn wsL_join (wsV RL 22 RX3 yX3_join wsX3_join) := goodIn_app (goodIn_of _ (by decide +kernel)) ggL_join_X3_join
theorem dL_join_0 : decode cL_join 0 = .ok (.aload_n 3, 1) := by decide +kernel
theorem dL_join_1 : decode cL_join 1 = .ok (.iconst 0, 1) := by decide +kernel
theorem dL_join_2 : decode cL_join 2 = .ok (.aload_n 0, 1) := by decide +kernel
theorem dL_join_3 : decode cL_join 3 = .ok (.iload_n 1, 1) := by decide +kernel
theorem dL_join_4 : decode cL_join 4 = .ok (.iload_n 2, 1) := by decide +kernel
theorem dL_join_5 : decode cL_join 5 = .ok (.invokevirtual 22, 3) := by decide +kernel
theorem dL_join_8 : decode cL_join 8 = .ok (.i2l, 1) := by decide +kernel
theorem dL_join_9 : decode cL_join 9 = .ok (.lastore, 1) := by decide +kernel
theorem dL_join_10 : decode cL_join 10 = .ok (.goto 11, 3) := by decide +kernel
theorem dL_join_13 : decode cL_join 13 = .ok (.astore 4, 2) := by decide +kernel
theorem dL_join_15 : decode cL_join 15 = .ok (.iconst 1, 1) := by decide +kernel
theorem dL_join_16 : decode cL_join 16 = .ok (.ireturn, 1) := by decide +kernel
theorem dL_join_17 : decode cL_join 17 = .ok (.astore 4, 2) := by decide +kernel
theorem dL_join_19 : decode cL_join 19 = .ok (.iconst 2, 1) := by decide +kernel
theorem dL_join_20 : decode cL_join 20 = .ok (.ireturn, 1) := by decide +kernel
theorem dL_join_21 : decode cL_join 21 = .ok (.iconst 0, 1) := by decide +kernel
theorem dL_join_22 : decode cL_join 22 = .ok (.ireturn, 1) := by decide +kernel
set_option maxRecDepth 20000 in
theorem ggL_setLosses_X3_setLosses : GoodIn wsL_setLosses wsX3_setLosses := goodIn_ca (goodIn_ca (goodIn_r _ [7, 8, 9, 10, 11, 6, 12, 13, 14, 15, 16, 17, 18, 19, 20, 21, 22, 23, 24, 25, 26, 27, 28, 29, 30, 31, 32, 33] (by decide +kernel) (by decide +kernel)) (goodIn_sub (fun _ h => List.mem_cons_of_mem _ (List.mem_append_left _ (List.mem_append_right _ h))) (by decide +kernel))) (goodIn_sub (fun _ h => List.mem_cons_of_mem _ (List.mem_append_right _ h)) (by decide +kernel))
set_option maxRecDepth 20000 in
theorem gL_setLosses_X3_setLosses : GoodIn wsL_setLosses (wsV RL 25 RX3 yX3_setLosses wsX3_setLosses) := goodIn_app (goodIn_of _ (by decide +kernel)) ggL_setLosses_X3_setLosses
theorem dL_setLosses_0 : decode cL_setLosses 0 = .ok (.aload_n 3, 1) := by decide +kernel
theorem dL_setLosses_1 : decode cL_setLosses 1 = .ok (.iconst 0, 1) := by decide +kernel
theorem dL_setLosses_2 : decode cL_setLosses 2 = .ok (.aload_n 0, 1) := by decide +kernel
theorem dL_setLosses_3 : decode cL_setLosses 3 = .ok (.iload_n 1, 1) := by decide +kernel
theorem dL_setLosses_4 : decode cL_setLosses 4 = .ok (.iload_n 2, 1) := by decide +kernel
theorem dL_setLosses_5 : decode cL_setLosses 5 = .ok (.invokevirtual 25, 3) := by decide +kernel
theorem dL_setLosses_8 : decode cL_setLosses 8 = .ok (.i2l, 1) := by decide +kernel
theorem dL_setLosses_9 : decode cL_setLosses 9 = .ok (.lastore, 1) := by decide +kernel
theorem dL_setLosses_10 : decode cL_setLosses 10 = .ok (.goto 11, 3) := by decide +kernel
theorem dL_setLosses_13 : decode cL_setLosses 13 = .ok (.astore 4, 2) := by decide +kernel
theorem dL_setLosses_15 : decode cL_setLosses 15 = .ok (.iconst 1, 1) := by decide +kernel
theorem dL_setLosses_16 : decode cL_setLosses 16 = .ok (.ireturn, 1) := by decide +kernel
theorem dL_setLosses_17 : decode cL_setLosses 17 = .ok (.astore 4, 2) := by decide +kernel
theorem dL_setLosses_19 : decode cL_setLosses 19 = .ok (.iconst 2, 1) := by decide +kernel
theorem dL_setLosses_20 : decode cL_setLosses 20 = .ok (.ireturn, 1) := by decide +kernel
theorem dL_setLosses_21 : decode cL_setLosses 21 = .ok (.iconst 0, 1) := by decide +kernel
theorem dL_setLosses_22 : decode cL_setLosses 22 = .ok (.ireturn, 1) := by decide +kernel
set_option maxRecDepth 20000 in
theorem ggL_setWait_X3_setWait : GoodIn wsL_setWait wsX3_setWait := goodIn_ca (goodIn_ca (goodIn_r _ [7, 8, 9, 10, 11, 6, 12, 13, 14, 15, 16, 17, 18, 19, 20, 21, 22, 23, 24, 25, 26, 27, 28, 29, 30, 31, 32, 33] (by decide +kernel) (by decide +kernel)) (goodIn_sub (fun _ h => List.mem_cons_of_mem _ (List.mem_append_left _ (List.mem_append_right _ h))) (by decide +kernel))) (goodIn_sub (fun _ h => List.mem_cons_of_mem _ (List.mem_append_right _ h)) (by decide +kernel))
set_option maxRecDepth 20000 in
theorem gL_setWait_X3_setWait : GoodIn wsL_setWait (wsV RL 28 RX3 yX3_setWait wsX3_setWait) := goodIn_app (goodIn_of _ (by decide +kernel)) ggL_setWait_X3_setWait
theorem dL_setWait_0 : decode cL_setWait 0 = .ok (.aload_n 3, 1) := by decide +kernel
theorem dL_setWait_1 : decode cL_setWait 1 = .ok (.iconst 0, 1) := by decide +kernel
theorem dL_setWait_2 : decode cL_setWait 2 = .ok (.aload_n 0, 1) := by decide +kernel
theorem dL_setWait_3 : decode cL_setWait 3 = .ok (.iload_n 1, 1) := by decide +kernel
theorem dL_setWait_4 : decode cL_setWait 4 = .ok (.iload_n 2, 1) := by decide +kernel
theorem dL_setWait_5 : decode cL_setWait 5 = .ok (.invokevirtual 28, 3) := by decide +kernel
theorem dL_setWait_8 : decode cL_setWait 8 = .ok (.i2l, 1) := by decide +kernel
theorem dL_setWait_9 : decode cL_setWait 9 = .ok (.lastore, 1) := by decide +kernel
theorem dL_setWait_10 : decode cL_setWait 10 = .ok (.goto 11, 3) := by decide +kernel
theorem dL_setWait_13 : decode cL_setWait 13 = .ok (.astore 4, 2) := by decide +kernel
theorem dL_setWait_15 : decode cL_setWait 15 = .ok (.iconst 1, 1) := by decide +kernel
theorem dL_setWait_16 : decode cL_setWait 16 = .ok (.ireturn, 1) := by decide +kernel
theorem dL_setWait_17 : decode cL_setWait 17 = .ok (.astore 4, 2) := by decide +kernel
theorem dL_setWait_19 : decode cL_setWait 19 = .ok (.iconst 2, 1) := by decide +kernel
theorem dL_setWait_20 : decode cL_setWait 20 = .ok (.ireturn, 1) := by decide +kernel
theorem dL_setWait_21 : decode cL_setWait 21 = .ok (.iconst 0, 1) := by decide +kernel
theorem dL_setWait_22 : decode cL_setWait 22 = .ok (.ireturn, 1) := by decide +kernel
set_option maxRecDepth 20000 in
theorem ggL_send_X3_send : GoodIn wsL_send wsX3_send := goodIn_ca (goodIn_ca (goodIn_r _ [7, 8, 9, 10, 11, 12, 13, 14, 15, 6, 16, 17, 18, 19, 20, 21, 22, 23, 24, 25, 26, 27, 28, 29, 30, 31, 32, 33, 34, 35, 36, 37, 38, 39, 40, 41, 42, 43, 44, 45, 46, 47, 48, 49, 50, 51, 52, 53, 54, 55, 56, 57, 58, 59, 60] (by decide +kernel) (by decide +kernel)) (goodIn_sub (fun _ h => List.mem_cons_of_mem _ (List.mem_append_left _ (List.mem_append_right _ h))) (by decide +kernel))) (goodIn_sub (fun _ h => List.mem_cons_of_mem _ (List.mem_append_right _ h)) (by decide +kernel))
set_option maxRecDepth 20000 in
theorem gL_send_X3_send : GoodIn wsL_send (wsV RL 31 RX3 yX3_send wsX3_send) := goodIn_app (goodIn_of _ (by decide +kernel)) ggL_send_X3_send
theorem dL_send_0 : decode cL_send 0 = .ok (.aload_n 2, 1) := by decide +kernel
theorem dL_send_1 : decode cL_send 1 = .ok (.iconst 0, 1) := by decide +kernel
theorem dL_send_2 : decode cL_send 2 = .ok (.aload_n 0, 1) := by decide +kernel
theorem dL_send_3 : decode cL_send 3 = .ok (.iload_n 1, 1) := by decide +kernel
theorem dL_send_4 : decode cL_send 4 = .ok (.invokevirtual 31, 3) := by decide +kernel
theorem dL_send_7 : decode cL_send 7 = .ok (.i2l, 1) := by decide +kernel
theorem dL_send_8 : decode cL_send 8 = .ok (.lastore, 1) := by decide +kernel
theorem dL_send_9 : decode cL_send 9 = .ok (.goto 9, 3) := by decide +kernel
theorem dL_send_12 : decode cL_send 12 = .ok (.astore_n 3, 1) := by decide +kernel
theorem dL_send_13 : decode cL_send 13 = .ok (.iconst 1, 1) := by decide +kernel
theorem dL_send_14 : decode cL_send 14 = .ok (.ireturn, 1) := by decide +kernel
theorem dL_send_15 : decode cL_send 15 = .ok (.astore_n 3, 1) := by decide +kernel
theorem dL_send_16 : decode cL_send 16 = .ok (.iconst 2, 1) := by decide +kernel
theorem dL_send_17 : decode cL_send 17 = .ok (.ireturn, 1) := by decide +kernel
theorem dL_send_18 : decode cL_send 18 = .ok (.iconst 0, 1) := by decide +kernel
theorem dL_send_19 : decode cL_send 19 = .ok (.ireturn, 1) := by decide +kernel
set_option maxRecDepth 20000 in
theorem ggL_round_X3_round : GoodIn wsL_round wsX3_round := goodIn_ca (goodIn_r _ [6, 7, 8, 9, 10, 11, 12, 5, 13, 14, 15, 16, 17, 18, 19, 20, 21, 22, 23, 24, 25, 26, 27, 28, 29, 30, 31, 32, 33, 34, 35, 36, 37, 38, 39, 40, 41, 42, 43, 44, 45, 46, 47, 48, 49, 50, 51, 52, 53, 54, 55, 56, 57, 58, 59, 60, 61, 62, 63, 64, 65, 66, 67, 68, 69, 70, 71, 72, 73, 74] (by decide +kernel) (by decide +kernel)) (goodIn_sub (fun _ h => List.mem_cons_of_mem _ (List.mem_append_right _ h)) (by decide +kernel))
set_option maxRecDepth 20000 in
theorem gL_round_X3_round : GoodIn wsL_round (wsV RL 35 RX3 yX3_round wsX3_round) := goodIn_app (goodIn_of _ (by decide +kernel)) ggL_round_X3_round
theorem dL_round_0 : decode cL_round 0 = .ok (.aload_n 1, 1) := by decide +kernel
theorem dL_round_1 : decode cL_round 1 = .ok (.iconst 0, 1) := by decide +kernel
theorem dL_round_2 : decode cL_round 2 = .ok (.aload_n 0, 1) := by decide +kernel
theorem dL_round_3 : decode cL_round 3 = .ok (.invokevirtual 35, 3) := by decide +kernel
theorem dL_round_6 : decode cL_round 6 = .ok (.i2l, 1) := by decide +kernel
theorem dL_round_7 : decode cL_round 7 = .ok (.lastore, 1) := by decide +kernel
theorem dL_round_8 : decode cL_round 8 = .ok (.goto 6, 3) := by decide +kernel
theorem dL_round_11 : decode cL_round 11 = .ok (.astore_n 2, 1) := by decide +kernel
theorem dL_round_12 : decode cL_round 12 = .ok (.iconst 1, 1) := by decide +kernel
theorem dL_round_13 : decode cL_round 13 = .ok (.ireturn, 1) := by decide +kernel
theorem dL_round_14 : decode cL_round 14 = .ok (.iconst 0, 1) := by decide +kernel
theorem dL_round_15 : decode cL_round 15 = .ok (.ireturn, 1) := by decide +kernel
set_option maxRecDepth 20000 in
theorem ggL_has_X3_has : GoodIn wsL_has wsX3_has := goodIn_ca (goodIn_r _ [6, 7, 8, 9, 10, 5, 11, 12, 13, 14, 15, 16, 17, 18, 19, 20, 21, 22, 23, 24, 25, 26, 27] (by decide +kernel) (by decide +kernel)) (goodIn_sub (fun _ h => List.mem_cons_of_mem _ (List.mem_append_right _ h)) (by decide +kernel))
set_option maxRecDepth 20000 in
theorem gL_has_X3_has : GoodIn wsL_has (wsV RL 39 RX3 yX3_has wsX3_has) := goodIn_app (goodIn_of _ (by decide +kernel)) ggL_has_X3_has
theorem dL_has_0 : decode cL_has 0 = .ok (.aload_n 2, 1) := by decide +kernel
theorem dL_has_1 : decode cL_has 1 = .ok (.iconst 0, 1) := by decide +kernel
theorem dL_has_2 : decode cL_has 2 = .ok (.aload_n 0, 1) := by decide +kernel
theorem dL_has_3 : decode cL_has 3 = .ok (.iload_n 1, 1) := by decide +kernel
theorem dL_has_4 : decode cL_has 4 = .ok (.invokevirtual 39, 3) := by decide +kernel
theorem dL_has_7 : decode cL_has 7 = .ok (.i2l, 1) := by decide +kernel
theorem dL_has_8 : decode cL_has 8 = .ok (.lastore, 1) := by decide +kernel
theorem dL_has_9 : decode cL_has 9 = .ok (.goto 6, 3) := by decide +kernel
theorem dL_has_12 : decode cL_has 12 = .ok (.astore_n 3, 1) := by decide +kernel
theorem dL_has_13 : decode cL_has 13 = .ok (.iconst 1, 1) := by decide +kernel
theorem dL_has_14 : decode cL_has 14 = .ok (.ireturn, 1) := by decide +kernel
theorem dL_has_15 : decode cL_has 15 = .ok (.iconst 0, 1) := by decide +kernel
theorem dL_has_16 : decode cL_has 16 = .ok (.ireturn, 1) := by decide +kernel
set_option maxRecDepth 20000 in
theorem ggL_need_X3_need : GoodIn wsL_need wsX3_need := goodIn_ca (goodIn_r _ [6, 7, 8, 9, 5, 10, 11, 12, 13, 14, 15, 16, 17, 18, 19, 20, 21, 22, 23, 24, 25, 26, 27, 28, 29, 30, 31, 32, 33, 34, 35, 36, 37, 38, 39, 40, 41, 42, 43, 44, 45, 46] (by decide +kernel) (by decide +kernel)) (goodIn_sub (fun _ h => List.mem_cons_of_mem _ (List.mem_append_right _ h)) (by decide +kernel))
set_option maxRecDepth 20000 in
theorem gL_need_X3_need : GoodIn wsL_need (wsV RL 42 RX3 yX3_need wsX3_need) := goodIn_app (goodIn_of _ (by decide +kernel)) ggL_need_X3_need
theorem dL_need_0 : decode cL_need 0 = .ok (.aload_n 2, 1) := by decide +kernel
theorem dL_need_1 : decode cL_need 1 = .ok (.iconst 0, 1) := by decide +kernel
theorem dL_need_2 : decode cL_need 2 = .ok (.aload_n 0, 1) := by decide +kernel
theorem dL_need_3 : decode cL_need 3 = .ok (.iload_n 1, 1) := by decide +kernel
theorem dL_need_4 : decode cL_need 4 = .ok (.invokevirtual 42, 3) := by decide +kernel
theorem dL_need_7 : decode cL_need 7 = .ok (.i2l, 1) := by decide +kernel
theorem dL_need_8 : decode cL_need 8 = .ok (.lastore, 1) := by decide +kernel
theorem dL_need_9 : decode cL_need 9 = .ok (.goto 6, 3) := by decide +kernel
theorem dL_need_12 : decode cL_need 12 = .ok (.astore_n 3, 1) := by decide +kernel
theorem dL_need_13 : decode cL_need 13 = .ok (.iconst 1, 1) := by decide +kernel
theorem dL_need_14 : decode cL_need 14 = .ok (.ireturn, 1) := by decide +kernel
theorem dL_need_15 : decode cL_need 15 = .ok (.iconst 0, 1) := by decide +kernel
theorem dL_need_16 : decode cL_need 16 = .ok (.ireturn, 1) := by decide +kernel
set_option maxRecDepth 20000 in
theorem ggL_isDropped_X3_isDropped : GoodIn wsL_isDropped wsX3_isDropped := goodIn_ca (goodIn_r _ [6, 7, 8, 9, 10, 5, 11, 12, 13, 14, 15, 16, 17, 18, 19, 20, 21, 22, 23, 24, 25, 26, 27] (by decide +kernel) (by decide +kernel)) (goodIn_sub (fun _ h => List.mem_cons_of_mem _ (List.mem_append_right _ h)) (by decide +kernel))
set_option maxRecDepth 20000 in
theorem gL_isDropped_X3_isDropped : GoodIn wsL_isDropped (wsV RL 45 RX3 yX3_isDropped wsX3_isDropped) := goodIn_app (goodIn_of _ (by decide +kernel)) ggL_isDropped_X3_isDropped
theorem dL_isDropped_0 : decode cL_isDropped 0 = .ok (.aload_n 2, 1) := by decide +kernel
theorem dL_isDropped_1 : decode cL_isDropped 1 = .ok (.iconst 0, 1) := by decide +kernel
theorem dL_isDropped_2 : decode cL_isDropped 2 = .ok (.aload_n 0, 1) := by decide +kernel
theorem dL_isDropped_3 : decode cL_isDropped 3 = .ok (.iload_n 1, 1) := by decide +kernel
theorem dL_isDropped_4 : decode cL_isDropped 4 = .ok (.invokevirtual 45, 3) := by decide +kernel
theorem dL_isDropped_7 : decode cL_isDropped 7 = .ok (.ifCond .eq 7, 3) := by decide +kernel
theorem dL_isDropped_10 : decode cL_isDropped 10 = .ok (.lconst 1, 1) := by decide +kernel
theorem dL_isDropped_11 : decode cL_isDropped 11 = .ok (.goto 4, 3) := by decide +kernel
theorem dL_isDropped_14 : decode cL_isDropped 14 = .ok (.lconst 0, 1) := by decide +kernel
theorem dL_isDropped_15 : decode cL_isDropped 15 = .ok (.lastore, 1) := by decide +kernel
theorem dL_isDropped_16 : decode cL_isDropped 16 = .ok (.goto 6, 3) := by decide +kernel
theorem dL_isDropped_19 : decode cL_isDropped 19 = .ok (.astore_n 3, 1) := by decide +kernel
theorem dL_isDropped_20 : decode cL_isDropped 20 = .ok (.iconst 1, 1) := by decide +kernel
theorem dL_isDropped_21 : decode cL_isDropped 21 = .ok (.ireturn, 1) := by decide +kernel
theorem dL_isDropped_22 : decode cL_isDropped 22 = .ok (.iconst 0, 1) := by decide +kernel
theorem dL_isDropped_23 : decode cL_isDropped 23 = .ok (.ireturn, 1) := by decide +kernel
set_option maxRecDepth 20000 in
theorem ggL_badRounds_X3_badRounds : GoodIn wsL_badRounds wsX3_badRounds := goodIn_ca (goodIn_r _ [6, 7, 8, 9, 10, 5, 11, 12, 13, 14, 15, 16, 17, 18, 19, 20, 21, 22, 23, 24, 25, 26, 27] (by decide +kernel) (by decide +kernel)) (goodIn_sub (fun _ h => List.mem_cons_of_mem _ (List.mem_append_right _ h)) (by decide +kernel))
set_option maxRecDepth 20000 in
theorem gL_badRounds_X3_badRounds : GoodIn wsL_badRounds (wsV RL 49 RX3 yX3_badRounds wsX3_badRounds) := goodIn_app (goodIn_of _ (by decide +kernel)) ggL_badRounds_X3_badRounds
theorem dL_badRounds_0 : decode cL_badRounds 0 = .ok (.aload_n 2, 1) := by decide +kernel
theorem dL_badRounds_1 : decode cL_badRounds 1 = .ok (.iconst 0, 1) := by decide +kernel
theorem dL_badRounds_2 : decode cL_badRounds 2 = .ok (.aload_n 0, 1) := by decide +kernel
theorem dL_badRounds_3 : decode cL_badRounds 3 = .ok (.iload_n 1, 1) := by decide +kernel
theorem dL_badRounds_4 : decode cL_badRounds 4 = .ok (.invokevirtual 49, 3) := by decide +kernel
theorem dL_badRounds_7 : decode cL_badRounds 7 = .ok (.i2l, 1) := by decide +kernel
theorem dL_badRounds_8 : decode cL_badRounds 8 = .ok (.lastore, 1) := by decide +kernel
theorem dL_badRounds_9 : decode cL_badRounds 9 = .ok (.goto 6, 3) := by decide +kernel
theorem dL_badRounds_12 : decode cL_badRounds 12 = .ok (.astore_n 3, 1) := by decide +kernel
theorem dL_badRounds_13 : decode cL_badRounds 13 = .ok (.iconst 1, 1) := by decide +kernel
theorem dL_badRounds_14 : decode cL_badRounds 14 = .ok (.ireturn, 1) := by decide +kernel
theorem dL_badRounds_15 : decode cL_badRounds 15 = .ok (.iconst 0, 1) := by decide +kernel
theorem dL_badRounds_16 : decode cL_badRounds 16 = .ok (.ireturn, 1) := by decide +kernel
set_option maxRecDepth 20000 in
theorem ggL_times_X3_times : GoodIn wsL_times wsX3_times := goodIn_ca (goodIn_r _ [6, 7, 8, 9, 10, 5, 11, 12, 13, 14] (by decide +kernel) (by decide +kernel)) (goodIn_sub (fun _ h => List.mem_cons_of_mem _ (List.mem_append_right _ h)) (by decide +kernel))
set_option maxRecDepth 20000 in
theorem gL_times_X3_times : GoodIn wsL_times (wsV RL 52 RX3 yX3_times wsX3_times) := goodIn_app (goodIn_of _ (by decide +kernel)) ggL_times_X3_times
theorem dL_times_0 : decode cL_times 0 = .ok (.aload_n 3, 1) := by decide +kernel
theorem dL_times_1 : decode cL_times 1 = .ok (.iconst 0, 1) := by decide +kernel
theorem dL_times_2 : decode cL_times 2 = .ok (.aload_n 0, 1) := by decide +kernel
theorem dL_times_3 : decode cL_times 3 = .ok (.iload_n 1, 1) := by decide +kernel
theorem dL_times_4 : decode cL_times 4 = .ok (.iload_n 2, 1) := by decide +kernel
theorem dL_times_5 : decode cL_times 5 = .ok (.invokevirtual 52, 3) := by decide +kernel
theorem dL_times_8 : decode cL_times 8 = .ok (.i2l, 1) := by decide +kernel
theorem dL_times_9 : decode cL_times 9 = .ok (.lastore, 1) := by decide +kernel
theorem dL_times_10 : decode cL_times 10 = .ok (.goto 7, 3) := by decide +kernel
theorem dL_times_13 : decode cL_times 13 = .ok (.astore 4, 2) := by decide +kernel
theorem dL_times_15 : decode cL_times 15 = .ok (.iconst 1, 1) := by decide +kernel
theorem dL_times_16 : decode cL_times 16 = .ok (.ireturn, 1) := by decide +kernel
theorem dL_times_17 : decode cL_times 17 = .ok (.iconst 0, 1) := by decide +kernel
theorem dL_times_18 : decode cL_times 18 = .ok (.ireturn, 1) := by decide +kernel
set_option maxRecDepth 20000 in
theorem ggL_packet_X3_packet : GoodIn wsL_packet wsX3_packet := goodIn_ca (goodIn_r _ [6, 7, 8, 9, 10, 11, 12, 13, 14, 15, 16, 17, 18, 19, 20, 21, 22, 23, 24, 25, 26, 27, 28, 29, 30, 31, 32, 33, 34, 35, 36, 37, 38, 39, 40, 41, 42] (by decide +kernel) (by decide +kernel)) (goodIn_sub (fun _ h => List.mem_cons_of_mem _ (List.mem_append_right _ h)) (by decide +kernel))
set_option maxRecDepth 20000 in
theorem gL_packet_X3_packet : GoodIn wsL_packet (wsV RL 55 RX3 yX3_packet wsX3_packet) := goodIn_app (goodIn_of _ (by decide +kernel)) ggL_packet_X3_packet
theorem dL_packet_0 : decode cL_packet 0 = .ok (.aload_n 2, 1) := by decide +kernel
theorem dL_packet_1 : decode cL_packet 1 = .ok (.iconst 0, 1) := by decide +kernel
theorem dL_packet_2 : decode cL_packet 2 = .ok (.aload_n 0, 1) := by decide +kernel
theorem dL_packet_3 : decode cL_packet 3 = .ok (.iload_n 1, 1) := by decide +kernel
theorem dL_packet_4 : decode cL_packet 4 = .ok (.invokevirtual 55, 3) := by decide +kernel
theorem dL_packet_7 : decode cL_packet 7 = .ok (.i2l, 1) := by decide +kernel
theorem dL_packet_8 : decode cL_packet 8 = .ok (.lastore, 1) := by decide +kernel
theorem dL_packet_9 : decode cL_packet 9 = .ok (.goto 6, 3) := by decide +kernel
theorem dL_packet_12 : decode cL_packet 12 = .ok (.astore_n 3, 1) := by decide +kernel
theorem dL_packet_13 : decode cL_packet 13 = .ok (.iconst 1, 1) := by decide +kernel
theorem dL_packet_14 : decode cL_packet 14 = .ok (.ireturn, 1) := by decide +kernel
theorem dL_packet_15 : decode cL_packet 15 = .ok (.iconst 0, 1) := by decide +kernel
theorem dL_packet_16 : decode cL_packet 16 = .ok (.ireturn, 1) := by decide +kernel
set_option maxRecDepth 20000 in
theorem ggL_rebuilt_X3_rebuilt : GoodIn wsL_rebuilt wsX3_rebuilt := goodIn_ca (goodIn_ca (goodIn_r _ [7, 8, 9, 10, 11, 12, 6, 13, 14, 15, 16, 17, 18, 19, 20, 21, 22, 23, 24, 25, 26, 27, 28, 29, 30, 31, 32, 33, 34, 35, 36, 37, 38, 39, 40, 41, 42, 43, 44, 45, 46, 47, 48, 49, 50, 51, 52, 53, 54, 55, 56, 57, 58, 59, 60, 61, 62, 63, 64, 65, 66, 67, 68, 69, 70, 71, 72, 73, 74, 75, 76, 77, 78, 79, 80, 81, 82, 83, 84, 85, 86, 87, 88, 89] (by decide +kernel) (by decide +kernel)) (goodIn_sub (fun _ h => List.mem_cons_of_mem _ (List.mem_append_left _ (List.mem_append_right _ h))) (by decide +kernel))) (goodIn_sub (fun _ h => List.mem_cons_of_mem _ (List.mem_append_right _ h)) (by decide +kernel))
set_option maxRecDepth 20000 in
theorem gL_rebuilt_X3_rebuilt : GoodIn wsL_rebuilt (wsV RL 58 RX3 yX3_rebuilt wsX3_rebuilt) := goodIn_app (goodIn_of _ (by decide +kernel)) ggL_rebuilt_X3_rebuilt
theorem dL_rebuilt_0 : decode cL_rebuilt 0 = .ok (.aload_n 3, 1) := by decide +kernel
theorem dL_rebuilt_1 : decode cL_rebuilt 1 = .ok (.iconst 0, 1) := by decide +kernel
theorem dL_rebuilt_2 : decode cL_rebuilt 2 = .ok (.aload_n 0, 1) := by decide +kernel
theorem dL_rebuilt_3 : decode cL_rebuilt 3 = .ok (.iload_n 1, 1) := by decide +kernel
theorem dL_rebuilt_4 : decode cL_rebuilt 4 = .ok (.iload_n 2, 1) := by decide +kernel
theorem dL_rebuilt_5 : decode cL_rebuilt 5 = .ok (.invokevirtual 58, 3) := by decide +kernel
theorem dL_rebuilt_8 : decode cL_rebuilt 8 = .ok (.i2l, 1) := by decide +kernel
theorem dL_rebuilt_9 : decode cL_rebuilt 9 = .ok (.lastore, 1) := by decide +kernel
theorem dL_rebuilt_10 : decode cL_rebuilt 10 = .ok (.goto 11, 3) := by decide +kernel
theorem dL_rebuilt_13 : decode cL_rebuilt 13 = .ok (.astore 4, 2) := by decide +kernel
theorem dL_rebuilt_15 : decode cL_rebuilt 15 = .ok (.iconst 1, 1) := by decide +kernel
theorem dL_rebuilt_16 : decode cL_rebuilt 16 = .ok (.ireturn, 1) := by decide +kernel
theorem dL_rebuilt_17 : decode cL_rebuilt 17 = .ok (.astore 4, 2) := by decide +kernel
theorem dL_rebuilt_19 : decode cL_rebuilt 19 = .ok (.iconst 2, 1) := by decide +kernel
theorem dL_rebuilt_20 : decode cL_rebuilt 20 = .ok (.ireturn, 1) := by decide +kernel
theorem dL_rebuilt_21 : decode cL_rebuilt 21 = .ok (.iconst 0, 1) := by decide +kernel
theorem dL_rebuilt_22 : decode cL_rebuilt 22 = .ok (.ireturn, 1) := by decide +kernel
set_option maxRecDepth 20000 in
theorem ggL_rebuiltByElimination_X3_rebuiltByElimination : GoodIn wsL_rebuiltByElimination wsX3_rebuiltByElimination := goodIn_ca (goodIn_ca (goodIn_r _ [7, 8, 9, 10, 11, 12, 13, 6, 14, 15, 16, 17, 18, 19, 20, 21, 22, 23, 24, 25, 26, 27, 28, 29, 30, 31, 32, 33, 34, 35, 36, 37, 38, 39, 40, 41, 42, 43, 44, 45, 46, 47, 48, 49, 50, 51, 52, 53, 54, 55, 56, 57, 58, 59, 60, 61, 62, 63, 64, 65, 66, 67, 68, 69, 70, 71, 72, 73, 74, 75, 76, 77, 78, 79, 80, 81, 82, 83, 84, 85, 86, 87, 88, 89, 90, 91, 92, 93, 94, 95, 96, 97, 98, 99, 100, 101, 102, 103, 104, 105, 106, 107, 108, 109, 110, 111, 112] (by decide +kernel) (by decide +kernel)) (goodIn_sub (fun _ h => List.mem_cons_of_mem _ (List.mem_append_left _ (List.mem_append_right _ h))) (by decide +kernel))) (goodIn_sub (fun _ h => List.mem_cons_of_mem _ (List.mem_append_right _ h)) (by decide +kernel))
set_option maxRecDepth 20000 in
theorem gL_rebuiltByElimination_X3_rebuiltByElimination : GoodIn wsL_rebuiltByElimination (wsV RL 61 RX3 yX3_rebuiltByElimination wsX3_rebuiltByElimination) := goodIn_app (goodIn_of _ (by decide +kernel)) ggL_rebuiltByElimination_X3_rebuiltByElimination
theorem dL_rebuiltByElimination_0 : decode cL_rebuiltByElimination 0 = .ok (.aload_n 3, 1) := by decide +kernel
theorem dL_rebuiltByElimination_1 : decode cL_rebuiltByElimination 1 = .ok (.iconst 0, 1) := by decide +kernel
theorem dL_rebuiltByElimination_2 : decode cL_rebuiltByElimination 2 = .ok (.aload_n 0, 1) := by decide +kernel
theorem dL_rebuiltByElimination_3 : decode cL_rebuiltByElimination 3 = .ok (.iload_n 1, 1) := by decide +kernel
theorem dL_rebuiltByElimination_4 : decode cL_rebuiltByElimination 4 = .ok (.iload_n 2, 1) := by decide +kernel
theorem dL_rebuiltByElimination_5 : decode cL_rebuiltByElimination 5 = .ok (.invokevirtual 61, 3) := by decide +kernel
theorem dL_rebuiltByElimination_8 : decode cL_rebuiltByElimination 8 = .ok (.i2l, 1) := by decide +kernel
theorem dL_rebuiltByElimination_9 : decode cL_rebuiltByElimination 9 = .ok (.lastore, 1) := by decide +kernel
theorem dL_rebuiltByElimination_10 : decode cL_rebuiltByElimination 10 = .ok (.goto 11, 3) := by decide +kernel
theorem dL_rebuiltByElimination_13 : decode cL_rebuiltByElimination 13 = .ok (.astore 4, 2) := by decide +kernel
theorem dL_rebuiltByElimination_15 : decode cL_rebuiltByElimination 15 = .ok (.iconst 1, 1) := by decide +kernel
theorem dL_rebuiltByElimination_16 : decode cL_rebuiltByElimination 16 = .ok (.ireturn, 1) := by decide +kernel
theorem dL_rebuiltByElimination_17 : decode cL_rebuiltByElimination 17 = .ok (.astore 4, 2) := by decide +kernel
theorem dL_rebuiltByElimination_19 : decode cL_rebuiltByElimination 19 = .ok (.iconst 2, 1) := by decide +kernel
theorem dL_rebuiltByElimination_20 : decode cL_rebuiltByElimination 20 = .ok (.ireturn, 1) := by decide +kernel
theorem dL_rebuiltByElimination_21 : decode cL_rebuiltByElimination 21 = .ok (.iconst 0, 1) := by decide +kernel
theorem dL_rebuiltByElimination_22 : decode cL_rebuiltByElimination 22 = .ok (.ireturn, 1) := by decide +kernel
set_option maxRecDepth 20000 in
theorem ggL_law_X3_init : GoodIn wsL_law wsX3_init := goodIn_r _ [9, 10, 11, 12, 13, 14, 15, 16, 17, 18, 19, 20, 21, 22, 23, 24, 25, 26, 27, 28, 29, 30, 31, 32, 33, 34, 35, 36, 37, 38, 39, 40, 41, 2, 42, 43, 44, 45, 46, 47, 48, 49, 50, 51, 52, 53, 54, 452, 453, 454, 425, 426, 427, 428, 429, 430, 431, 432, 433, 434, 435, 436, 437, 455, 456] (by decide +kernel) (by decide +kernel)
set_option maxRecDepth 20000 in
theorem gL_law_X3_init : GoodIn wsL_law (wsX3_init) := ggL_law_X3_init
set_option maxRecDepth 20000 in
theorem ggL_law_X4_init : GoodIn wsL_law wsX4_init := goodIn_r _ [57, 58, 11, 12, 17, 59, 60, 61, 62, 63, 22, 64, 65, 66, 67, 438, 439, 440, 441, 442, 443, 444, 445, 446, 447, 448, 449, 450, 451] (by decide +kernel) (by decide +kernel)
set_option maxRecDepth 20000 in
theorem gL_law_X4_init : GoodIn wsL_law (wsX4_init) := ggL_law_X4_init
set_option maxRecDepth 20000 in
theorem ggL_law_L_begin : GoodIn wsL_law wsL_begin := goodIn_ca (goodIn_r _ [71, 72, 73, 74, 75, 2, 76, 77, 78, 45, 39, 40, 41, 42, 16, 43, 44, 46, 47, 48, 15, 49, 50, 51, 52, 53, 54, 32, 33, 425, 426, 427, 428, 429, 430, 431, 432, 433, 434, 435, 436, 437, 452, 453, 454] (by decide +kernel) (by decide +kernel)) (goodIn_sub (fun _ h => List.mem_append_left _ (List.mem_append_left _ (List.mem_append_right _ h))) (by decide +kernel))
set_option maxRecDepth 20000 in
theorem gL_law_L_begin : GoodIn wsL_law (va_wsS RL 68 yL_begin wsL_begin) := goodIn_app (goodIn_of _ (by decide +kernel)) ggL_law_L_begin
set_option maxRecDepth 20000 in
theorem ggL_law_X4_begin : GoodIn wsL_law wsX4_begin := goodIn_r _ [82, 83, 84, 66, 67, 59, 85, 86, 87, 88, 89, 5, 90, 438, 439, 440, 441, 442, 443, 444, 445, 446, 447, 448, 449, 450, 451] (by decide +kernel) (by decide +kernel)
set_option maxRecDepth 20000 in
theorem gL_law_X4_begin : GoodIn wsL_law (wsV RL 73 RX4 yX4_begin wsX4_begin) := goodIn_app (goodIn_of _ (by decide +kernel)) ggL_law_X4_begin
set_option maxRecDepth 20000 in
theorem ggL_law_X4_thrown : GoodIn wsL_law wsX4_thrown := goodIn_r _ [94, 83, 438, 439, 440, 441, 442, 443, 444, 445, 446, 447, 448, 449, 450, 451] (by decide +kernel) (by decide +kernel)
set_option maxRecDepth 20000 in
theorem gL_law_X4_thrown : GoodIn wsL_law (wsV RL 74 RX4 yX4_thrown wsX4_thrown) := goodIn_app (goodIn_of _ (by decide +kernel)) ggL_law_X4_thrown
set_option maxRecDepth 20000 in
theorem ggL_law_L_setDatum : GoodIn wsL_law wsL_setDatum := goodIn_ca (goodIn_ca (goodIn_ca (goodIn_r _ [97, 98, 72, 99, 100, 101, 102, 2, 103, 77, 78, 104, 105, 45, 16, 106, 107, 108, 109, 110, 111, 112, 113, 114, 425, 426, 427, 428, 429, 430, 431, 432, 433, 434, 435, 436, 437, 452, 453, 454] (by decide +kernel) (by decide +kernel)) (goodIn_sub (fun _ h => List.mem_append_left _ (List.mem_append_left _ (List.mem_append_right _ h))) (by decide +kernel))) (goodIn_sub (fun _ h => List.mem_append_left _ (List.mem_append_right _ h)) (by decide +kernel))) (goodIn_sub (fun _ h => List.mem_append_right _ h) (by decide +kernel))
set_option maxRecDepth 20000 in
theorem gL_law_L_setDatum : GoodIn wsL_law (va_wsS RL 77 yL_setDatum wsL_setDatum) := goodIn_app (goodIn_of _ (by decide +kernel)) ggL_law_L_setDatum
set_option maxRecDepth 20000 in
theorem ggL_law_X4_setDatum : GoodIn wsL_law wsX4_setDatum := goodIn_r _ [118, 66, 84, 83, 59, 88, 89, 5, 90, 438, 439, 440, 441, 442, 443, 444, 445, 446, 447, 448, 449, 450, 451] (by decide +kernel) (by decide +kernel)
set_option maxRecDepth 20000 in
theorem gL_law_X4_setDatum : GoodIn wsL_law (wsV RL 79 RX4 yX4_setDatum wsX4_setDatum) := goodIn_app (goodIn_of _ (by decide +kernel)) ggL_law_X4_setDatum
set_option maxRecDepth 20000 in
theorem ggL_law_L_join : GoodIn wsL_law wsL_join := goodIn_ca (goodIn_ca (goodIn_r _ [121, 72, 99, 122, 123, 124, 2, 125, 104, 105, 44, 18, 19, 20, 21, 23, 126, 127, 128, 77, 78, 129, 130, 131, 425, 426, 427, 428, 429, 430, 431, 432, 433, 434, 435, 436, 437] (by decide +kernel) (by decide +kernel)) (goodIn_sub (fun _ h => List.mem_append_left _ (List.mem_append_right _ h)) (by decide +kernel))) (goodIn_sub (fun _ h => List.mem_append_left _ (List.mem_append_left _ (List.mem_append_right _ h))) (by decide +kernel))
set_option maxRecDepth 20000 in
theorem gL_law_L_join : GoodIn wsL_law (va_wsS RL 80 yL_join wsL_join) := goodIn_app (goodIn_of _ (by decide +kernel)) ggL_law_L_join
set_option maxRecDepth 20000 in
theorem ggL_law_X4_join : GoodIn wsL_law wsX4_join := goodIn_r _ [135, 85, 83, 60, 61, 62, 63, 64, 88, 89, 5, 90, 438, 439, 440, 441, 442, 443, 444, 445, 446, 447, 448, 449, 450, 451] (by decide +kernel) (by decide +kernel)
set_option maxRecDepth 20000 in
theorem gL_law_X4_join : GoodIn wsL_law (wsV RL 82 RX4 yX4_join wsX4_join) := goodIn_app (goodIn_of _ (by decide +kernel)) ggL_law_X4_join
set_option maxRecDepth 20000 in
theorem ggL_law_L_setLosses : GoodIn wsL_law wsL_setLosses := goodIn_ca (goodIn_ca (goodIn_r _ [138, 98, 72, 139, 140, 141, 2, 142, 18, 143, 144, 145, 146, 110, 111, 44, 126, 127, 128, 77, 78, 425, 426, 427, 428, 429, 430, 431, 432, 433, 434, 435, 436, 437] (by decide +kernel) (by decide +kernel)) (goodIn_sub (fun _ h => List.mem_append_right _ h) (by decide +kernel))) (goodIn_sub (fun _ h => List.mem_append_left _ (List.mem_append_left _ (List.mem_append_right _ h))) (by decide +kernel))
set_option maxRecDepth 20000 in
theorem gL_law_L_setLosses : GoodIn wsL_law (va_wsS RL 83 yL_setLosses wsL_setLosses) := goodIn_app (goodIn_of _ (by decide +kernel)) ggL_law_L_setLosses
set_option maxRecDepth 20000 in
theorem ggL_law_X4_setLosses : GoodIn wsL_law wsX4_setLosses := goodIn_r _ [150, 83, 60, 151, 152, 153, 5, 154, 85, 88, 89, 90, 438, 439, 440, 441, 442, 443, 444, 445, 446, 447, 448, 449, 450, 451] (by decide +kernel) (by decide +kernel)
set_option maxRecDepth 20000 in
theorem gL_law_X4_setLosses : GoodIn wsL_law (wsV RL 85 RX4 yX4_setLosses wsX4_setLosses) := goodIn_app (goodIn_of _ (by decide +kernel)) ggL_law_X4_setLosses
set_option maxRecDepth 20000 in
theorem ggL_law_L_setWait : GoodIn wsL_law wsL_setWait := goodIn_ca (goodIn_ca (goodIn_r _ [157, 98, 72, 158, 159, 160, 2, 161, 19, 143, 144, 145, 146, 110, 111, 44, 129, 130, 131, 77, 78, 425, 426, 427, 428, 429, 430, 431, 432, 433, 434, 435, 436, 437] (by decide +kernel) (by decide +kernel)) (goodIn_sub (fun _ h => List.mem_append_right _ h) (by decide +kernel))) (goodIn_sub (fun _ h => List.mem_append_left _ (List.mem_append_left _ (List.mem_append_right _ h))) (by decide +kernel))
set_option maxRecDepth 20000 in
theorem gL_law_L_setWait : GoodIn wsL_law (va_wsS RL 86 yL_setWait wsL_setWait) := goodIn_app (goodIn_of _ (by decide +kernel)) ggL_law_L_setWait
set_option maxRecDepth 20000 in
theorem ggL_law_X4_setWait : GoodIn wsL_law wsX4_setWait := goodIn_r _ [165, 83, 61, 151, 152, 153, 5, 154, 85, 88, 89, 90, 438, 439, 440, 441, 442, 443, 444, 445, 446, 447, 448, 449, 450, 451] (by decide +kernel) (by decide +kernel)
set_option maxRecDepth 20000 in
theorem gL_law_X4_setWait : GoodIn wsL_law (wsV RL 88 RX4 yX4_setWait wsX4_setWait) := goodIn_app (goodIn_of _ (by decide +kernel)) ggL_law_X4_setWait
set_option maxRecDepth 20000 in
theorem ggL_law_L_send : GoodIn wsL_law wsL_send := goodIn_ca (goodIn_ca (goodIn_r _ [168, 72, 99, 169, 170, 171, 2, 172, 77, 78, 104, 105, 45, 173, 174, 175, 176, 177, 178, 179, 180, 44, 23, 18, 20, 181, 182, 183, 184, 185, 186, 187, 188, 16, 189, 190, 191, 192, 193, 194, 195, 196, 197, 198, 199, 425, 426, 427, 428, 429, 430, 431, 432, 433, 434, 435, 436, 437, 452, 453, 454] (by decide +kernel) (by decide +kernel)) (goodIn_sub (fun _ h => List.mem_append_left _ (List.mem_append_left _ (List.mem_append_right _ h))) (by decide +kernel))) (goodIn_sub (fun _ h => List.mem_append_left _ (List.mem_append_right _ h)) (by decide +kernel))
set_option maxRecDepth 20000 in
theorem gL_law_L_send : GoodIn wsL_law (va_wsS RL 89 yL_send wsL_send) := goodIn_app (goodIn_of _ (by decide +kernel)) ggL_law_L_send
set_option maxRecDepth 20000 in
theorem ggL_law_X4_send : GoodIn wsL_law wsX4_send := goodIn_r _ [203, 84, 83, 85, 64, 88, 89, 5, 90, 204, 205, 206, 207, 60, 62, 208, 209, 210, 211, 66, 438, 439, 440, 441, 442, 443, 444, 445, 446, 447, 448, 449, 450, 451] (by decide +kernel) (by decide +kernel)
set_option maxRecDepth 20000 in
theorem gL_law_X4_send : GoodIn wsL_law (wsV RL 92 RX4 yX4_send wsX4_send) := goodIn_app (goodIn_of _ (by decide +kernel)) ggL_law_X4_send
set_option maxRecDepth 20000 in
theorem ggL_law_L_round : GoodIn wsL_law wsL_round := goodIn_ca (goodIn_r _ [214, 99, 215, 216, 217, 2, 218, 104, 105, 45, 219, 220, 221, 222, 223, 224, 225, 226, 44, 19, 46, 189, 190, 191, 192, 47, 227, 228, 229, 230, 23, 185, 186, 187, 188, 16, 20, 193, 194, 195, 196, 197, 198, 199, 173, 174, 175, 176, 177, 178, 179, 180, 18, 231, 232, 233, 234, 21, 43, 425, 426, 427, 428, 429, 430, 431, 432, 433, 434, 435, 436, 437, 452, 453, 454] (by decide +kernel) (by decide +kernel)) (goodIn_sub (fun _ h => List.mem_append_left _ (List.mem_append_right _ h)) (by decide +kernel))
set_option maxRecDepth 20000 in
theorem gL_law_L_round : GoodIn wsL_law (va_wsS RL 93 yL_round wsL_round) := goodIn_app (goodIn_of _ (by decide +kernel)) ggL_law_L_round
set_option maxRecDepth 20000 in
theorem ggL_law_X4_round : GoodIn wsL_law wsX4_round := goodIn_r _ [238, 84, 83, 85, 65, 63, 64, 67, 239, 240, 241, 5, 242, 208, 209, 210, 211, 66, 62, 243, 244, 245, 246, 61, 86, 87, 204, 205, 206, 207, 60, 438, 439, 440, 441, 442, 443, 444, 445, 446, 447, 448, 449, 450, 451] (by decide +kernel) (by decide +kernel)
set_option maxRecDepth 20000 in
theorem gL_law_X4_round : GoodIn wsL_law (wsV RL 96 RX4 yX4_round wsX4_round) := goodIn_app (goodIn_of _ (by decide +kernel)) ggL_law_X4_round
set_option maxRecDepth 20000 in
theorem ggL_law_X3_sent : GoodIn wsL_law wsX3_sent := goodIn_r _ [250, 45, 425, 426, 427, 428, 429, 430, 431, 432, 433, 434, 435, 436, 437] (by decide +kernel) (by decide +kernel)
set_option maxRecDepth 20000 in
theorem gL_law_X3_sent : GoodIn wsL_law (wsV RL 97 RX3 yX3_sent wsX3_sent) := goodIn_app (goodIn_of _ (by decide +kernel)) ggL_law_X3_sent
set_option maxRecDepth 20000 in
theorem ggL_law_X4_sent : GoodIn wsL_law wsX4_sent := goodIn_r _ [254, 83, 84, 438, 439, 440, 441, 442, 443, 444, 445, 446, 447, 448, 449, 450, 451] (by decide +kernel) (by decide +kernel)
set_option maxRecDepth 20000 in
theorem gL_law_X4_sent : GoodIn wsL_law (wsV RL 100 RX4 yX4_sent wsX4_sent) := goodIn_app (goodIn_of _ (by decide +kernel)) ggL_law_X4_sent
set_option maxRecDepth 20000 in
theorem ggL_law_X3_receivers : GoodIn wsL_law wsX3_receivers := goodIn_r _ [258, 44, 425, 426, 427, 428, 429, 430, 431, 432, 433, 434, 435, 436, 437] (by decide +kernel) (by decide +kernel)
set_option maxRecDepth 20000 in
theorem gL_law_X3_receivers : GoodIn wsL_law (wsV RL 101 RX3 yX3_receivers wsX3_receivers) := goodIn_app (goodIn_of _ (by decide +kernel)) ggL_law_X3_receivers
set_option maxRecDepth 20000 in
theorem ggL_law_X4_receivers : GoodIn wsL_law wsX4_receivers := goodIn_r _ [262, 83, 85, 438, 439, 440, 441, 442, 443, 444, 445, 446, 447, 448, 449, 450, 451] (by decide +kernel) (by decide +kernel)
set_option maxRecDepth 20000 in
theorem gL_law_X4_receivers : GoodIn wsL_law (wsV RL 104 RX4 yX4_receivers wsX4_receivers) := goodIn_app (goodIn_of _ (by decide +kernel)) ggL_law_X4_receivers
set_option maxRecDepth 20000 in
theorem ggL_law_X3_reports : GoodIn wsL_law wsX3_reports := goodIn_r _ [266, 46, 425, 426, 427, 428, 429, 430, 431, 432, 433, 434, 435, 436, 437] (by decide +kernel) (by decide +kernel)
set_option maxRecDepth 20000 in
theorem gL_law_X3_reports : GoodIn wsL_law (wsV RL 105 RX3 yX3_reports wsX3_reports) := goodIn_app (goodIn_of _ (by decide +kernel)) ggL_law_X3_reports
set_option maxRecDepth 20000 in
theorem ggL_law_X4_reports : GoodIn wsL_law wsX4_reports := goodIn_r _ [270, 83, 86, 438, 439, 440, 441, 442, 443, 444, 445, 446, 447, 448, 449, 450, 451] (by decide +kernel) (by decide +kernel)
set_option maxRecDepth 20000 in
theorem gL_law_X4_reports : GoodIn wsL_law (wsV RL 108 RX4 yX4_reports wsX4_reports) := goodIn_app (goodIn_of _ (by decide +kernel)) ggL_law_X4_reports
set_option maxRecDepth 20000 in
theorem ggL_law_X3_keptBack : GoodIn wsL_law wsX3_keptBack := goodIn_r _ [274, 47, 425, 426, 427, 428, 429, 430, 431, 432, 433, 434, 435, 436, 437] (by decide +kernel) (by decide +kernel)
set_option maxRecDepth 20000 in
theorem gL_law_X3_keptBack : GoodIn wsL_law (wsV RL 109 RX3 yX3_keptBack wsX3_keptBack) := goodIn_app (goodIn_of _ (by decide +kernel)) ggL_law_X3_keptBack
set_option maxRecDepth 20000 in
theorem ggL_law_X4_keptBack : GoodIn wsL_law wsX4_keptBack := goodIn_r _ [278, 83, 87, 438, 439, 440, 441, 442, 443, 444, 445, 446, 447, 448, 449, 450, 451] (by decide +kernel) (by decide +kernel)
set_option maxRecDepth 20000 in
theorem gL_law_X4_keptBack : GoodIn wsL_law (wsV RL 112 RX4 yX4_keptBack wsX4_keptBack) := goodIn_app (goodIn_of _ (by decide +kernel)) ggL_law_X4_keptBack
set_option maxRecDepth 20000 in
theorem ggL_law_L_has : GoodIn wsL_law wsL_has := goodIn_ca (goodIn_r _ [281, 98, 282, 283, 284, 2, 285, 20, 143, 144, 145, 146, 110, 111, 44, 425, 426, 427, 428, 429, 430, 431, 432, 433, 434, 435, 436, 437] (by decide +kernel) (by decide +kernel)) (goodIn_sub (fun _ h => List.mem_append_right _ h) (by decide +kernel))
set_option maxRecDepth 20000 in
theorem gL_law_L_has : GoodIn wsL_law (va_wsS RL 113 yL_has wsL_has) := goodIn_app (goodIn_of _ (by decide +kernel)) ggL_law_L_has
set_option maxRecDepth 20000 in
theorem ggL_law_X4_has : GoodIn wsL_law wsX4_has := goodIn_r _ [289, 62, 290, 291, 292, 5, 293, 83, 151, 152, 153, 154, 85, 88, 89, 90, 438, 439, 440, 441, 442, 443, 444, 445, 446, 447, 448, 449, 450, 451] (by decide +kernel) (by decide +kernel)
set_option maxRecDepth 20000 in
theorem gL_law_X4_has : GoodIn wsL_law (wsV RL 115 RX4 yX4_has wsX4_has) := goodIn_app (goodIn_of _ (by decide +kernel)) ggL_law_X4_has
set_option maxRecDepth 20000 in
theorem ggL_law_L_need : GoodIn wsL_law wsL_need := goodIn_ca (goodIn_r _ [296, 98, 297, 298, 299, 2, 300, 143, 144, 145, 146, 110, 111, 44, 185, 186, 187, 188, 16, 20, 189, 190, 191, 192, 193, 194, 195, 196, 197, 198, 199, 425, 426, 427, 428, 429, 430, 431, 432, 433, 434, 435, 436, 437, 452, 453, 454] (by decide +kernel) (by decide +kernel)) (goodIn_sub (fun _ h => List.mem_append_right _ h) (by decide +kernel))
set_option maxRecDepth 20000 in
theorem gL_law_L_need : GoodIn wsL_law (va_wsS RL 116 yL_need wsL_need) := goodIn_app (goodIn_of _ (by decide +kernel)) ggL_law_L_need
set_option maxRecDepth 20000 in
theorem ggL_law_X4_need : GoodIn wsL_law wsX4_need := goodIn_r _ [304, 290, 291, 292, 5, 293, 83, 151, 152, 153, 154, 85, 88, 89, 90, 208, 209, 210, 211, 66, 62, 438, 439, 440, 441, 442, 443, 444, 445, 446, 447, 448, 449, 450, 451] (by decide +kernel) (by decide +kernel)
set_option maxRecDepth 20000 in
theorem gL_law_X4_need : GoodIn wsL_law (wsV RL 118 RX4 yX4_need wsX4_need) := goodIn_app (goodIn_of _ (by decide +kernel)) ggL_law_X4_need
set_option maxRecDepth 20000 in
theorem ggL_law_L_isDropped : GoodIn wsL_law wsL_isDropped := goodIn_ca (goodIn_r _ [307, 98, 308, 309, 310, 2, 311, 23, 143, 144, 145, 146, 110, 111, 44, 425, 426, 427, 428, 429, 430, 431, 432, 433, 434, 435, 436, 437] (by decide +kernel) (by decide +kernel)) (goodIn_sub (fun _ h => List.mem_append_right _ h) (by decide +kernel))
set_option maxRecDepth 20000 in
theorem gL_law_L_isDropped : GoodIn wsL_law (va_wsS RL 119 yL_isDropped wsL_isDropped) := goodIn_app (goodIn_of _ (by decide +kernel)) ggL_law_L_isDropped
set_option maxRecDepth 20000 in
theorem ggL_law_X4_isDropped : GoodIn wsL_law wsX4_isDropped := goodIn_r _ [315, 64, 290, 291, 292, 5, 293, 83, 151, 152, 153, 154, 85, 88, 89, 90, 438, 439, 440, 441, 442, 443, 444, 445, 446, 447, 448, 449, 450, 451] (by decide +kernel) (by decide +kernel)
set_option maxRecDepth 20000 in
theorem gL_law_X4_isDropped : GoodIn wsL_law (wsV RL 121 RX4 yX4_isDropped wsX4_isDropped) := goodIn_app (goodIn_of _ (by decide +kernel)) ggL_law_X4_isDropped
set_option maxRecDepth 20000 in
theorem ggL_law_L_badRounds : GoodIn wsL_law wsL_badRounds := goodIn_ca (goodIn_r _ [318, 98, 319, 320, 321, 2, 322, 21, 143, 144, 145, 146, 110, 111, 44, 425, 426, 427, 428, 429, 430, 431, 432, 433, 434, 435, 436, 437] (by decide +kernel) (by decide +kernel)) (goodIn_sub (fun _ h => List.mem_append_right _ h) (by decide +kernel))
set_option maxRecDepth 20000 in
theorem gL_law_L_badRounds : GoodIn wsL_law (va_wsS RL 122 yL_badRounds wsL_badRounds) := goodIn_app (goodIn_of _ (by decide +kernel)) ggL_law_L_badRounds
set_option maxRecDepth 20000 in
theorem ggL_law_X4_badRounds : GoodIn wsL_law wsX4_badRounds := goodIn_r _ [326, 63, 290, 291, 292, 5, 293, 83, 151, 152, 153, 154, 85, 88, 89, 90, 438, 439, 440, 441, 442, 443, 444, 445, 446, 447, 448, 449, 450, 451] (by decide +kernel) (by decide +kernel)
set_option maxRecDepth 20000 in
theorem gL_law_X4_badRounds : GoodIn wsL_law (wsV RL 124 RX4 yX4_badRounds wsX4_badRounds) := goodIn_app (goodIn_of _ (by decide +kernel)) ggL_law_X4_badRounds
set_option maxRecDepth 20000 in
theorem ggL_law_L_times : GoodIn wsL_law wsL_times := goodIn_ca (goodIn_r _ [329, 72, 330, 331, 332, 2, 333, 77, 78, 112, 113, 114, 334, 335, 336] (by decide +kernel) (by decide +kernel)) (goodIn_sub (fun _ h => List.mem_append_left _ (List.mem_append_left _ (List.mem_append_right _ h))) (by decide +kernel))
set_option maxRecDepth 20000 in
theorem gL_law_L_times : GoodIn wsL_law (va_wsS RL 125 yL_times wsL_times) := goodIn_app (goodIn_of _ (by decide +kernel)) ggL_law_L_times
set_option maxRecDepth 20000 in
theorem ggL_law_X4_times : GoodIn wsL_law wsX4_times := goodIn_r _ [340, 83, 88, 89, 5, 90, 341, 342, 343, 438, 439, 440, 441, 442, 443, 444, 445, 446, 447, 448, 449, 450, 451] (by decide +kernel) (by decide +kernel)
set_option maxRecDepth 20000 in
theorem gL_law_X4_times : GoodIn wsL_law (wsV RL 127 RX4 yX4_times wsX4_times) := goodIn_app (goodIn_of _ (by decide +kernel)) ggL_law_X4_times
set_option maxRecDepth 20000 in
theorem ggL_law_L_packet : GoodIn wsL_law wsL_packet := goodIn_ca (goodIn_r _ [346, 98, 347, 348, 349, 2, 350, 110, 111, 16, 351, 15, 352, 353, 51, 33, 354, 355, 356, 357, 32, 334, 335, 336, 358, 359, 360, 425, 426, 427, 428, 429, 430, 431, 432, 433, 434, 435, 436, 437, 452, 453, 454] (by decide +kernel) (by decide +kernel)) (goodIn_sub (fun _ h => List.mem_append_right _ h) (by decide +kernel))
set_option maxRecDepth 20000 in
theorem gL_law_L_packet : GoodIn wsL_law (va_wsS RL 128 yL_packet wsL_packet) := goodIn_app (goodIn_of _ (by decide +kernel)) ggL_law_L_packet
set_option maxRecDepth 20000 in
theorem ggL_law_X4_packet : GoodIn wsL_law wsX4_packet := goodIn_r _ [364, 83, 66, 59, 88, 89, 5, 90, 341, 342, 343, 365, 366, 367, 438, 439, 440, 441, 442, 443, 444, 445, 446, 447, 448, 449, 450, 451] (by decide +kernel) (by decide +kernel)
set_option maxRecDepth 20000 in
theorem gL_law_X4_packet : GoodIn wsL_law (wsV RL 130 RX4 yX4_packet wsX4_packet) := goodIn_app (goodIn_of _ (by decide +kernel)) ggL_law_X4_packet
set_option maxRecDepth 20000 in
theorem ggL_law_L_rebuilt : GoodIn wsL_law wsL_rebuilt := goodIn_ca (goodIn_ca (goodIn_r _ [370, 98, 99, 371, 372, 373, 2, 374, 20, 24, 375, 376, 377, 378, 104, 105, 143, 144, 145, 146, 110, 111, 44, 106, 107, 108, 109, 16, 185, 186, 187, 188, 189, 190, 191, 192, 193, 194, 195, 196, 197, 198, 199, 379, 380, 381, 382, 48, 15, 49, 50, 51, 383, 384, 385, 386, 351, 352, 353, 33, 354, 355, 356, 357, 32, 334, 335, 336, 358, 359, 360, 52, 53, 54, 425, 426, 427, 428, 429, 430, 431, 432, 433, 434, 435, 436, 437, 452, 453, 454] (by decide +kernel) (by decide +kernel)) (goodIn_sub (fun _ h => List.mem_append_left _ (List.mem_append_right _ h)) (by decide +kernel))) (goodIn_sub (fun _ h => List.mem_append_right _ h) (by decide +kernel))
set_option maxRecDepth 20000 in
theorem gL_law_L_rebuilt : GoodIn wsL_law (va_wsS RL 131 yL_rebuilt wsL_rebuilt) := goodIn_app (goodIn_of _ (by decide +kernel)) ggL_law_L_rebuilt
set_option maxRecDepth 20000 in
theorem ggL_law_X4_rebuilt : GoodIn wsL_law wsX4_rebuilt := goodIn_r _ [390, 66, 83, 59, 151, 152, 153, 5, 154, 85, 88, 89, 90, 208, 209, 210, 211, 62, 438, 439, 440, 441, 442, 443, 444, 445, 446, 447, 448, 449, 450, 451] (by decide +kernel) (by decide +kernel)
set_option maxRecDepth 20000 in
theorem gL_law_X4_rebuilt : GoodIn wsL_law (wsV RL 133 RX4 yX4_rebuilt wsX4_rebuilt) := goodIn_app (goodIn_of _ (by decide +kernel)) ggL_law_X4_rebuilt
set_option maxRecDepth 20000 in
theorem ggL_law_L_rebuiltByElimination : GoodIn wsL_law wsL_rebuiltByElimination := goodIn_ca (goodIn_ca (goodIn_r _ [393, 98, 99, 394, 395, 396, 2, 397, 20, 28, 24, 375, 376, 377, 378, 104, 105, 143, 144, 145, 146, 110, 111, 44, 106, 107, 108, 109, 16, 185, 186, 187, 188, 189, 190, 191, 192, 193, 194, 195, 196, 197, 198, 199, 398, 399, 400, 401, 48, 15, 49, 50, 51, 383, 384, 385, 386, 351, 352, 353, 33, 354, 355, 356, 357, 32, 334, 335, 336, 358, 359, 360, 52, 53, 54, 402, 27, 403, 404, 405, 38, 406, 407, 408, 409, 410, 411, 412, 413, 414, 415, 416, 417, 418, 419, 425, 426, 427, 428, 429, 430, 431, 432, 433, 434, 435, 436, 437, 452, 453, 454, 455, 456] (by decide +kernel) (by decide +kernel)) (goodIn_sub (fun _ h => List.mem_append_left _ (List.mem_append_right _ h)) (by decide +kernel))) (goodIn_sub (fun _ h => List.mem_append_right _ h) (by decide +kernel))
set_option maxRecDepth 20000 in
theorem gL_law_L_rebuiltByElimination : GoodIn wsL_law (va_wsS RL 134 yL_rebuiltByElimination wsL_rebuiltByElimination) := goodIn_app (goodIn_of _ (by decide +kernel)) ggL_law_L_rebuiltByElimination
set_option maxRecDepth 20000 in
theorem ggL_law_X4_rebuiltByElimination : GoodIn wsL_law wsX4_rebuiltByElimination := goodIn_r _ [423, 424, 388, 389, 5, 390, 66, 83, 59, 151, 152, 153, 154, 85, 88, 89, 90, 208, 209, 210, 211, 62, 438, 439, 440, 441, 442, 443, 444, 445, 446, 447, 448, 449, 450, 451] (by decide +kernel) (by decide +kernel)
set_option maxRecDepth 20000 in
theorem gL_law_X4_rebuiltByElimination : GoodIn wsL_law (wsV RL 136 RX4 yX4_rebuiltByElimination wsX4_rebuiltByElimination) := goodIn_app (goodIn_of _ (by decide +kernel)) ggL_law_X4_rebuiltByElimination
