theorem lin_1 : ∀ w ∈ wsL_law0_r1, w ∈ lw_tbl := fun w h => (goodIn_p wsL_law0_r1 [42, 45] (by decide +kernel) (by decide +kernel) w h).1
theorem lin_2 : ∀ w ∈ wsL_law0_r2, w ∈ lw_tbl := fun w h => (goodIn_p wsL_law0_r2 [50, 72, 87] (by decide +kernel) (by decide +kernel) w h).1
theorem lin_3 : ∀ w ∈ wsL_law0_r3, w ∈ lw_tbl := fun w h => (goodIn_p wsL_law0_r3 [91, 95, 409, 413, 417, 421] (by decide +kernel) (by decide +kernel) w h).1
theorem lin_4 : ∀ w ∈ wsL_law0_r4, w ∈ lw_tbl := fun w h => (goodIn_p wsL_law0_r4 [425, 247, 429, 216, 433, 314] (by decide +kernel) (by decide +kernel) w h).1
theorem lin_5 : ∀ w ∈ wsL_law0_r5, w ∈ lw_tbl := fun w h => (goodIn_p wsL_law0_r5 [323, 317, 437, 441] (by decide +kernel) (by decide +kernel) w h).1
theorem lin_6 : ∀ w ∈ wsL_law0_r6, w ∈ lw_tbl := fun w h => (goodIn_p wsL_law0_r6 [262, 266, 270, 291, 235, 243] (by decide +kernel) (by decide +kernel) w h).1
theorem lin_7 : ∀ w ∈ wsL_law0_r7, w ∈ lw_tbl := fun w h => (goodIn_p wsL_law0_r7 [296, 302, 306, 310, 327, 332] (by decide +kernel) (by decide +kernel) w h).1
theorem lin_8 : ∀ w ∈ wsL_law0_r8, w ∈ lw_tbl := fun w h => (goodIn_p wsL_law0_r8 [336, 340, 344, 348, 352, 357] (by decide +kernel) (by decide +kernel) w h).1
theorem lin_9 : ∀ w ∈ wsL_law0_r9, w ∈ lw_tbl := fun w h => (goodIn_p wsL_law0_r9 [361, 365, 369, 372, 375, 380, 384] (by decide +kernel) (by decide +kernel) w h).1
theorem lin_10 : ∀ w ∈ wsL_law0_r10, w ∈ lw_tbl := fun w h => (goodIn_p wsL_law0_r10 [388, 393, 398, 402, 406, 445] (by decide +kernel) (by decide +kernel) w h).1
theorem lin_11 : ∀ w ∈ wsL_law0_r11, w ∈ lw_tbl := fun w h => (goodIn_p wsL_law0_r11 [449, 452, 455, 459, 139, 212, 240] (by decide +kernel) (by decide +kernel) w h).1
theorem lin_12 : ∀ w ∈ wsL_law0_r12, w ∈ lw_tbl := fun w h => (goodIn_p wsL_law0_r12 [250, 253] (by decide +kernel) (by decide +kernel) w h).1
theorem lin_X3 : ∀ w ∈ wsX30, w ∈ lw_tbl := by decide +kernel
theorem lin_X2 : ∀ w ∈ wsX20, w ∈ lw_tbl := by decide +kernel
theorem lin_X0 : ∀ w ∈ wsX00, w ∈ lw_tbl := by decide +kernel
theorem lin_x0 : ∀ w ∈ (vx_atS RX3 133 "java/lang/IndexOutOfBoundsException" ["java/lang/RuntimeException", "java/lang/Exception"]).filter goodWord, w ∈ lw_tbl := by decide +kernel
theorem lin_x1 : ∀ w ∈ (vx_atS RX3 51 "java/lang/IllegalArgumentException" ["java/lang/RuntimeException", "java/lang/Exception"]).filter goodWord, w ∈ lw_tbl := by decide +kernel
theorem lin_x2 : ∀ w ∈ (vx_atS RX3 74 "java/lang/IllegalStateException" ["java/lang/RuntimeException", "java/lang/Exception"]).filter goodWord, w ∈ lw_tbl := by decide +kernel
theorem lin_0 : ∀ w ∈ wsL_law0, w ∈ lw_tbl := fun w h => (List.mem_append.mp h).elim (fun h => (List.mem_append.mp h).elim (fun h => (List.mem_append.mp h).elim (fun h => (List.mem_append.mp h).elim (fun h => ((List.mem_append.mp h).elim (fun h => lin_1 w h) (fun h => ((List.mem_append.mp h).elim (fun h => lin_2 w h) (fun h => ((List.mem_append.mp h).elim (fun h => lin_3 w h) (fun h => ((List.mem_append.mp h).elim (fun h => lin_4 w h) (fun h => ((List.mem_append.mp h).elim (fun h => lin_5 w h) (fun h => ((List.mem_append.mp h).elim (fun h => lin_6 w h) (fun h => ((List.mem_append.mp h).elim (fun h => lin_7 w h) (fun h => ((List.mem_append.mp h).elim (fun h => lin_8 w h) (fun h => ((List.mem_append.mp h).elim (fun h => lin_9 w h) (fun h => ((List.mem_append.mp h).elim (fun h => lin_10 w h) (fun h => ((List.mem_append.mp h).elim (fun h => lin_11 w h) (fun h => (lin_12 w h)))))))))))))))))))))))) (fun h => lin_X3 w h)) (fun h => lin_X2 w h)) (fun h => lin_X0 w h)) (fun h => by cases h)
theorem lin_all : ∀ w ∈ wsL_law, w ∈ lw_tbl := fun w h => (List.mem_append.mp h).elim (fun h => (List.mem_append.mp h).elim (fun h => (List.mem_append.mp h).elim (fun h => lin_0 w h) (fun h => lin_x0 w h)) (fun h => lin_x1 w h)) (fun h => lin_x2 w h)
