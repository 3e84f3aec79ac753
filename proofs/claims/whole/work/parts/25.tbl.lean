theorem lin_1 : ∀ w ∈ wsL_law0_r1, w ∈ lw_tbl := fun w h => (goodIn_p wsL_law0_r1 [49, 52] (by decide +kernel) (by decide +kernel) w h).1
theorem lin_2 : ∀ w ∈ wsL_law0_r2, w ∈ lw_tbl := fun w h => (goodIn_p wsL_law0_r2 [57, 79, 94] (by decide +kernel) (by decide +kernel) w h).1
theorem lin_3 : ∀ w ∈ wsL_law0_r3, w ∈ lw_tbl := fun w h => (goodIn_p wsL_law0_r3 [98, 102, 495] (by decide +kernel) (by decide +kernel) w h).1
theorem lin_4 : ∀ w ∈ wsL_law0_r4, w ∈ lw_tbl := fun w h => (goodIn_p wsL_law0_r4 [166, 547, 550, 543] (by decide +kernel) (by decide +kernel) w h).1
theorem lin_5 : ∀ w ∈ wsL_law0_r5, w ∈ lw_tbl := fun w h => (goodIn_p wsL_law0_r5 [244, 248, 267, 554] (by decide +kernel) (by decide +kernel) w h).1
theorem lin_6 : ∀ w ∈ wsL_law0_r6, w ∈ lw_tbl := fun w h => (goodIn_p wsL_law0_r6 [291, 294, 298, 558, 307] (by decide +kernel) (by decide +kernel) w h).1
theorem lin_7 : ∀ w ∈ wsL_law0_r7, w ∈ lw_tbl := fun w h => (goodIn_p wsL_law0_r7 [311, 562, 566, 319, 570] (by decide +kernel) (by decide +kernel) w h).1
theorem lin_8 : ∀ w ∈ wsL_law0_r8, w ∈ lw_tbl := fun w h => (goodIn_p wsL_law0_r8 [326, 332, 336, 340, 344] (by decide +kernel) (by decide +kernel) w h).1
theorem lin_9 : ∀ w ∈ wsL_law0_r9, w ∈ lw_tbl := fun w h => (goodIn_p wsL_law0_r9 [353, 347, 574, 578, 582] (by decide +kernel) (by decide +kernel) w h).1
theorem lin_10 : ∀ w ∈ wsL_law0_r10, w ∈ lw_tbl := fun w h => (goodIn_p wsL_law0_r10 [360, 365, 369, 373, 377, 586] (by decide +kernel) (by decide +kernel) w h).1
theorem lin_11 : ∀ w ∈ wsL_law0_r11, w ∈ lw_tbl := fun w h => (goodIn_p wsL_law0_r11 [590, 594, 146, 598, 150, 602] (by decide +kernel) (by decide +kernel) w h).1
theorem lin_12 : ∀ w ∈ wsL_law0_r12, w ∈ lw_tbl := fun w h => (goodIn_p wsL_law0_r12 [154, 606, 158, 610, 384] (by decide +kernel) (by decide +kernel) w h).1
theorem lin_13 : ∀ w ∈ wsL_law0_r13, w ∈ lw_tbl := fun w h => (goodIn_p wsL_law0_r13 [614, 618, 391, 622, 398] (by decide +kernel) (by decide +kernel) w h).1
theorem lin_14 : ∀ w ∈ wsL_law0_r14, w ∈ lw_tbl := fun w h => (goodIn_p wsL_law0_r14 [626, 405, 630, 412] (by decide +kernel) (by decide +kernel) w h).1
theorem lin_15 : ∀ w ∈ wsL_law0_r15, w ∈ lw_tbl := fun w h => (goodIn_p wsL_law0_r15 [416, 634, 637, 423, 428, 432, 436] (by decide +kernel) (by decide +kernel) w h).1
theorem lin_16 : ∀ w ∈ wsL_law0_r16, w ∈ lw_tbl := fun w h => (goodIn_p wsL_law0_r16 [641, 644, 444, 448, 453] (by decide +kernel) (by decide +kernel) w h).1
theorem lin_17 : ∀ w ∈ wsL_law0_r17, w ∈ lw_tbl := fun w h => (goodIn_p wsL_law0_r17 [457, 648, 464, 468, 472] (by decide +kernel) (by decide +kernel) w h).1
theorem lin_18 : ∀ w ∈ wsL_law0_r18, w ∈ lw_tbl := fun w h => (goodIn_p wsL_law0_r18 [477, 482, 486, 490, 652] (by decide +kernel) (by decide +kernel) w h).1
theorem lin_X3 : ∀ w ∈ wsX30, w ∈ lw_tbl := by decide +kernel
theorem lin_X4 : ∀ w ∈ wsX40, w ∈ lw_tbl := by decide +kernel
theorem lin_X2 : ∀ w ∈ wsX20, w ∈ lw_tbl := by decide +kernel
theorem lin_X0 : ∀ w ∈ wsX00, w ∈ lw_tbl := by decide +kernel
theorem lin_x0 : ∀ w ∈ (vx_atS RX3 51 "java/lang/IllegalArgumentException" ["java/lang/RuntimeException", "java/lang/Exception"]).filter goodWord, w ∈ lw_tbl := by decide +kernel
theorem lin_x1 : ∀ w ∈ (vx_atS RX3 74 "java/lang/IllegalStateException" ["java/lang/RuntimeException", "java/lang/Exception"]).filter goodWord, w ∈ lw_tbl := by decide +kernel
theorem lin_x2 : ∀ w ∈ (vx_atS RX3 133 "java/lang/IndexOutOfBoundsException" ["java/lang/RuntimeException", "java/lang/Exception"]).filter goodWord, w ∈ lw_tbl := by decide +kernel
theorem lin_0 : ∀ w ∈ wsL_law0, w ∈ lw_tbl := fun w h => (List.mem_append.mp h).elim (fun h => (List.mem_append.mp h).elim (fun h => (List.mem_append.mp h).elim (fun h => (List.mem_append.mp h).elim (fun h => (List.mem_append.mp h).elim (fun h => ((List.mem_append.mp h).elim (fun h => lin_1 w h) (fun h => ((List.mem_append.mp h).elim (fun h => lin_2 w h) (fun h => ((List.mem_append.mp h).elim (fun h => lin_3 w h) (fun h => ((List.mem_append.mp h).elim (fun h => lin_4 w h) (fun h => ((List.mem_append.mp h).elim (fun h => lin_5 w h) (fun h => ((List.mem_append.mp h).elim (fun h => lin_6 w h) (fun h => ((List.mem_append.mp h).elim (fun h => lin_7 w h) (fun h => ((List.mem_append.mp h).elim (fun h => lin_8 w h) (fun h => ((List.mem_append.mp h).elim (fun h => lin_9 w h) (fun h => ((List.mem_append.mp h).elim (fun h => lin_10 w h) (fun h => ((List.mem_append.mp h).elim (fun h => lin_11 w h) (fun h => ((List.mem_append.mp h).elim (fun h => lin_12 w h) (fun h => ((List.mem_append.mp h).elim (fun h => lin_13 w h) (fun h => ((List.mem_append.mp h).elim (fun h => lin_14 w h) (fun h => ((List.mem_append.mp h).elim (fun h => lin_15 w h) (fun h => ((List.mem_append.mp h).elim (fun h => lin_16 w h) (fun h => ((List.mem_append.mp h).elim (fun h => lin_17 w h) (fun h => (lin_18 w h)))))))))))))))))))))))))))))))))))) (fun h => lin_X3 w h)) (fun h => lin_X4 w h)) (fun h => lin_X2 w h)) (fun h => lin_X0 w h)) (fun h => by cases h)
theorem lin_all : ∀ w ∈ wsL_law, w ∈ lw_tbl := fun w h => (List.mem_append.mp h).elim (fun h => (List.mem_append.mp h).elim (fun h => (List.mem_append.mp h).elim (fun h => lin_0 w h) (fun h => lin_x0 w h)) (fun h => lin_x1 w h)) (fun h => lin_x2 w h)
