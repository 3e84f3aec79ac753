theorem dX0_init_0 : decode cX0_init 0 = .ok (.aload_n 0, 1) := by decide +kernel
theorem dX0_init_1 : decode cX0_init 1 = .ok (.invokespecial 3, 3) := by decide +kernel
theorem dX0_init_4 : decode cX0_init 4 = .ok (.aload_n 0, 1) := by decide +kernel
theorem dX0_init_5 : decode cX0_init 5 = .ok (.bipush 8, 2) := by decide +kernel
theorem dX0_init_7 : decode cX0_init 7 = .ok (.bipush 9, 2) := by decide +kernel
theorem dX0_init_9 : decode cX0_init 9 = .ok (.multianewarray 9 2, 4) := by decide +kernel
theorem dX0_init_13 : decode cX0_init 13 = .ok (.putfield 11, 3) := by decide +kernel
theorem dX0_init_16 : decode cX0_init 16 = .ok (.return_, 1) := by decide +kernel
set_option maxRecDepth 20000 in
theorem ggX0_write_X1_product : GoodIn wsX0_write wsX1_product := goodIn_r _ [5] (by decide +kernel) (by decide +kernel)
set_option maxRecDepth 20000 in
theorem gX0_write_X1_product_n27 : GoodIn wsX0_write (wsX1_product) := ggX0_write_X1_product
theorem dX0_write_0 : decode cX0_write 0 = .ok (.aload_n 0, 1) := by decide +kernel
theorem dX0_write_1 : decode cX0_write 1 = .ok (.aload_n 1, 1) := by decide +kernel
theorem dX0_write_2 : decode cX0_write 2 = .ok (.getfield 16, 3) := by decide +kernel
theorem dX0_write_5 : decode cX0_write 5 = .ok (.putfield 22, 3) := by decide +kernel
theorem dX0_write_8 : decode cX0_write 8 = .ok (.iconst 0, 1) := by decide +kernel
theorem dX0_write_9 : decode cX0_write 9 = .ok (.istore_n 2, 1) := by decide +kernel
theorem dX0_write_10 : decode cX0_write 10 = .ok (.iload_n 2, 1) := by decide +kernel
theorem dX0_write_11 : decode cX0_write 11 = .ok (.aload_n 0, 1) := by decide +kernel
theorem dX0_write_12 : decode cX0_write 12 = .ok (.getfield 22, 3) := by decide +kernel
theorem dX0_write_15 : decode cX0_write 15 = .ok (.if_icmp .ge 67, 3) := by decide +kernel
theorem dX0_write_18 : decode cX0_write 18 = .ok (.iconst 1, 1) := by decide +kernel
theorem dX0_write_19 : decode cX0_write 19 = .ok (.istore_n 3, 1) := by decide +kernel
theorem dX0_write_20 : decode cX0_write 20 = .ok (.iconst 0, 1) := by decide +kernel
theorem dX0_write_21 : decode cX0_write 21 = .ok (.istore 4, 2) := by decide +kernel
theorem dX0_write_23 : decode cX0_write 23 = .ok (.iload 4, 2) := by decide +kernel
theorem dX0_write_25 : decode cX0_write 25 = .ok (.aload_n 0, 1) := by decide +kernel
theorem dX0_write_26 : decode cX0_write 26 = .ok (.getfield 22, 3) := by decide +kernel
theorem dX0_write_29 : decode cX0_write 29 = .ok (.if_icmp .ge 30, 3) := by decide +kernel
theorem dX0_write_32 : decode cX0_write 32 = .ok (.aload_n 0, 1) := by decide +kernel
theorem dX0_write_33 : decode cX0_write 33 = .ok (.getfield 11, 3) := by decide +kernel
theorem dX0_write_36 : decode cX0_write 36 = .ok (.iload_n 2, 1) := by decide +kernel
theorem dX0_write_37 : decode cX0_write 37 = .ok (.aaload, 1) := by decide +kernel
theorem dX0_write_38 : decode cX0_write 38 = .ok (.iload 4, 2) := by decide +kernel
theorem dX0_write_40 : decode cX0_write 40 = .ok (.iload_n 3, 1) := by decide +kernel
theorem dX0_write_41 : decode cX0_write 41 = .ok (.iastore, 1) := by decide +kernel
theorem dX0_write_42 : decode cX0_write 42 = .ok (.iload_n 3, 1) := by decide +kernel
theorem dX0_write_43 : decode cX0_write 43 = .ok (.aload_n 1, 1) := by decide +kernel
theorem dX0_write_44 : decode cX0_write 44 = .ok (.getfield 23, 3) := by decide +kernel
theorem dX0_write_47 : decode cX0_write 47 = .ok (.iload_n 2, 1) := by decide +kernel
theorem dX0_write_48 : decode cX0_write 48 = .ok (.iaload, 1) := by decide +kernel
theorem dX0_write_49 : decode cX0_write 49 = .ok (.invokestatic 27, 3) := by decide +kernel
theorem dX0_write_52 : decode cX0_write 52 = .ok (.istore_n 3, 1) := by decide +kernel
theorem dX0_write_53 : decode cX0_write 53 = .ok (.iinc 4 1, 3) := by decide +kernel
theorem dX0_write_56 : decode cX0_write 56 = .ok (.goto (-33), 3) := by decide +kernel
theorem dX0_write_59 : decode cX0_write 59 = .ok (.aload_n 0, 1) := by decide +kernel
theorem dX0_write_60 : decode cX0_write 60 = .ok (.getfield 11, 3) := by decide +kernel
theorem dX0_write_63 : decode cX0_write 63 = .ok (.iload_n 2, 1) := by decide +kernel
theorem dX0_write_64 : decode cX0_write 64 = .ok (.aaload, 1) := by decide +kernel
theorem dX0_write_65 : decode cX0_write 65 = .ok (.aload_n 0, 1) := by decide +kernel
theorem dX0_write_66 : decode cX0_write 66 = .ok (.getfield 22, 3) := by decide +kernel
theorem dX0_write_69 : decode cX0_write 69 = .ok (.aload_n 1, 1) := by decide +kernel
theorem dX0_write_70 : decode cX0_write 70 = .ok (.getfield 33, 3) := by decide +kernel
theorem dX0_write_73 : decode cX0_write 73 = .ok (.iload_n 2, 1) := by decide +kernel
theorem dX0_write_74 : decode cX0_write 74 = .ok (.iaload, 1) := by decide +kernel
theorem dX0_write_75 : decode cX0_write 75 = .ok (.iastore, 1) := by decide +kernel
theorem dX0_write_76 : decode cX0_write 76 = .ok (.iinc 2 1, 3) := by decide +kernel
theorem dX0_write_79 : decode cX0_write 79 = .ok (.goto (-69), 3) := by decide +kernel
theorem dX0_write_82 : decode cX0_write 82 = .ok (.return_, 1) := by decide +kernel
set_option maxRecDepth 20000 in
theorem ggX0_solve_X1_inverse : GoodIn wsX0_solve wsX1_inverse := goodIn_r _ [5, 6, 7, 4, 8] (by decide +kernel) (by decide +kernel)
set_option maxRecDepth 20000 in
theorem gX0_solve_X1_inverse_n36 : GoodIn wsX0_solve (wsX1_inverse) := ggX0_solve_X1_inverse
set_option maxRecDepth 20000 in
theorem ggX0_solve_X0_scaleRow : GoodIn wsX0_solve wsX0_scaleRow := goodIn_r _ [13, 1, 2, 7, 4, 8, 18, 19] (by decide +kernel) (by decide +kernel)
set_option maxRecDepth 20000 in
theorem gX0_solve_X0_scaleRow : GoodIn wsX0_solve (wsV RX0 40 RX0 yX0_scaleRow wsX0_scaleRow) := goodIn_app (goodIn_of _ (by decide +kernel)) ggX0_solve_X0_scaleRow
set_option maxRecDepth 20000 in
theorem ggX0_solve_X0_addMultiple : GoodIn wsX0_solve wsX0_addMultiple := goodIn_r _ [17, 1, 2, 7, 4, 8, 18, 19] (by decide +kernel) (by decide +kernel)
set_option maxRecDepth 20000 in
theorem gX0_solve_X0_addMultiple : GoodIn wsX0_solve (wsV RX0 44 RX0 yX0_addMultiple wsX0_addMultiple) := goodIn_app (goodIn_of _ (by decide +kernel)) ggX0_solve_X0_addMultiple
theorem dX0_solve_0 : decode cX0_solve 0 = .ok (.iconst 0, 1) := by decide +kernel
theorem dX0_solve_1 : decode cX0_solve 1 = .ok (.istore_n 1, 1) := by decide +kernel
theorem dX0_solve_2 : decode cX0_solve 2 = .ok (.iload_n 1, 1) := by decide +kernel
theorem dX0_solve_3 : decode cX0_solve 3 = .ok (.aload_n 0, 1) := by decide +kernel
theorem dX0_solve_4 : decode cX0_solve 4 = .ok (.getfield 22, 3) := by decide +kernel
theorem dX0_solve_7 : decode cX0_solve 7 = .ok (.if_icmp .ge 60, 3) := by decide +kernel
theorem dX0_solve_10 : decode cX0_solve 10 = .ok (.aload_n 0, 1) := by decide +kernel
theorem dX0_solve_11 : decode cX0_solve 11 = .ok (.iload_n 1, 1) := by decide +kernel
theorem dX0_solve_12 : decode cX0_solve 12 = .ok (.aload_n 0, 1) := by decide +kernel
theorem dX0_solve_13 : decode cX0_solve 13 = .ok (.getfield 11, 3) := by decide +kernel
theorem dX0_solve_16 : decode cX0_solve 16 = .ok (.iload_n 1, 1) := by decide +kernel
theorem dX0_solve_17 : decode cX0_solve 17 = .ok (.aaload, 1) := by decide +kernel
theorem dX0_solve_18 : decode cX0_solve 18 = .ok (.iload_n 1, 1) := by decide +kernel
theorem dX0_solve_19 : decode cX0_solve 19 = .ok (.iaload, 1) := by decide +kernel
theorem dX0_solve_20 : decode cX0_solve 20 = .ok (.invokestatic 36, 3) := by decide +kernel
theorem dX0_solve_23 : decode cX0_solve 23 = .ok (.invokevirtual 40, 3) := by decide +kernel
theorem dX0_solve_26 : decode cX0_solve 26 = .ok (.iconst 0, 1) := by decide +kernel
theorem dX0_solve_27 : decode cX0_solve 27 = .ok (.istore_n 2, 1) := by decide +kernel
theorem dX0_solve_28 : decode cX0_solve 28 = .ok (.iload_n 2, 1) := by decide +kernel
theorem dX0_solve_29 : decode cX0_solve 29 = .ok (.aload_n 0, 1) := by decide +kernel
theorem dX0_solve_30 : decode cX0_solve 30 = .ok (.getfield 22, 3) := by decide +kernel
theorem dX0_solve_33 : decode cX0_solve 33 = .ok (.if_icmp .ge 28, 3) := by decide +kernel
theorem dX0_solve_36 : decode cX0_solve 36 = .ok (.iload_n 2, 1) := by decide +kernel
theorem dX0_solve_37 : decode cX0_solve 37 = .ok (.iload_n 1, 1) := by decide +kernel
theorem dX0_solve_38 : decode cX0_solve 38 = .ok (.if_icmp .eq 17, 3) := by decide +kernel
theorem dX0_solve_41 : decode cX0_solve 41 = .ok (.aload_n 0, 1) := by decide +kernel
theorem dX0_solve_42 : decode cX0_solve 42 = .ok (.iload_n 2, 1) := by decide +kernel
theorem dX0_solve_43 : decode cX0_solve 43 = .ok (.iload_n 1, 1) := by decide +kernel
theorem dX0_solve_44 : decode cX0_solve 44 = .ok (.aload_n 0, 1) := by decide +kernel
theorem dX0_solve_45 : decode cX0_solve 45 = .ok (.getfield 11, 3) := by decide +kernel
theorem dX0_solve_48 : decode cX0_solve 48 = .ok (.iload_n 2, 1) := by decide +kernel
theorem dX0_solve_49 : decode cX0_solve 49 = .ok (.aaload, 1) := by decide +kernel
theorem dX0_solve_50 : decode cX0_solve 50 = .ok (.iload_n 1, 1) := by decide +kernel
theorem dX0_solve_51 : decode cX0_solve 51 = .ok (.iaload, 1) := by decide +kernel
theorem dX0_solve_52 : decode cX0_solve 52 = .ok (.invokevirtual 44, 3) := by decide +kernel
theorem dX0_solve_55 : decode cX0_solve 55 = .ok (.iinc 2 1, 3) := by decide +kernel
theorem dX0_solve_58 : decode cX0_solve 58 = .ok (.goto (-30), 3) := by decide +kernel
theorem dX0_solve_61 : decode cX0_solve 61 = .ok (.iinc 1 1, 3) := by decide +kernel
theorem dX0_solve_64 : decode cX0_solve 64 = .ok (.goto (-62), 3) := by decide +kernel
theorem dX0_solve_67 : decode cX0_solve 67 = .ok (.return_, 1) := by decide +kernel
set_option maxRecDepth 20000 in
theorem ggX0_scaleRow_X1_product : GoodIn wsX0_scaleRow wsX1_product := goodIn_r _ [5] (by decide +kernel) (by decide +kernel)
set_option maxRecDepth 20000 in
theorem gX0_scaleRow_X1_product_n27 : GoodIn wsX0_scaleRow (wsX1_product) := ggX0_scaleRow_X1_product
theorem dX0_scaleRow_0 : decode cX0_scaleRow 0 = .ok (.iconst 0, 1) := by decide +kernel
theorem dX0_scaleRow_1 : decode cX0_scaleRow 1 = .ok (.istore_n 3, 1) := by decide +kernel
theorem dX0_scaleRow_2 : decode cX0_scaleRow 2 = .ok (.iload_n 3, 1) := by decide +kernel
theorem dX0_scaleRow_3 : decode cX0_scaleRow 3 = .ok (.aload_n 0, 1) := by decide +kernel
theorem dX0_scaleRow_4 : decode cX0_scaleRow 4 = .ok (.getfield 22, 3) := by decide +kernel
theorem dX0_scaleRow_7 : decode cX0_scaleRow 7 = .ok (.if_icmp .gt 29, 3) := by decide +kernel
theorem dX0_scaleRow_10 : decode cX0_scaleRow 10 = .ok (.aload_n 0, 1) := by decide +kernel
theorem dX0_scaleRow_11 : decode cX0_scaleRow 11 = .ok (.getfield 11, 3) := by decide +kernel
theorem dX0_scaleRow_14 : decode cX0_scaleRow 14 = .ok (.iload_n 1, 1) := by decide +kernel
theorem dX0_scaleRow_15 : decode cX0_scaleRow 15 = .ok (.aaload, 1) := by decide +kernel
theorem dX0_scaleRow_16 : decode cX0_scaleRow 16 = .ok (.iload_n 3, 1) := by decide +kernel
theorem dX0_scaleRow_17 : decode cX0_scaleRow 17 = .ok (.aload_n 0, 1) := by decide +kernel
theorem dX0_scaleRow_18 : decode cX0_scaleRow 18 = .ok (.getfield 11, 3) := by decide +kernel
theorem dX0_scaleRow_21 : decode cX0_scaleRow 21 = .ok (.iload_n 1, 1) := by decide +kernel
theorem dX0_scaleRow_22 : decode cX0_scaleRow 22 = .ok (.aaload, 1) := by decide +kernel
theorem dX0_scaleRow_23 : decode cX0_scaleRow 23 = .ok (.iload_n 3, 1) := by decide +kernel
theorem dX0_scaleRow_24 : decode cX0_scaleRow 24 = .ok (.iaload, 1) := by decide +kernel
theorem dX0_scaleRow_25 : decode cX0_scaleRow 25 = .ok (.iload_n 2, 1) := by decide +kernel
theorem dX0_scaleRow_26 : decode cX0_scaleRow 26 = .ok (.invokestatic 27, 3) := by decide +kernel
theorem dX0_scaleRow_29 : decode cX0_scaleRow 29 = .ok (.iastore, 1) := by decide +kernel
theorem dX0_scaleRow_30 : decode cX0_scaleRow 30 = .ok (.iinc 3 1, 3) := by decide +kernel
theorem dX0_scaleRow_33 : decode cX0_scaleRow 33 = .ok (.goto (-31), 3) := by decide +kernel
theorem dX0_scaleRow_36 : decode cX0_scaleRow 36 = .ok (.return_, 1) := by decide +kernel
set_option maxRecDepth 20000 in
theorem ggX0_addMultiple_X1_product : GoodIn wsX0_addMultiple wsX1_product := goodIn_r _ [5] (by decide +kernel) (by decide +kernel)
set_option maxRecDepth 20000 in
theorem gX0_addMultiple_X1_product_n27 : GoodIn wsX0_addMultiple (wsX1_product) := ggX0_addMultiple_X1_product
theorem dX0_addMultiple_0 : decode cX0_addMultiple 0 = .ok (.iconst 0, 1) := by decide +kernel
theorem dX0_addMultiple_1 : decode cX0_addMultiple 1 = .ok (.istore 4, 2) := by decide +kernel
theorem dX0_addMultiple_3 : decode cX0_addMultiple 3 = .ok (.iload 4, 2) := by decide +kernel
theorem dX0_addMultiple_5 : decode cX0_addMultiple 5 = .ok (.aload_n 0, 1) := by decide +kernel
theorem dX0_addMultiple_6 : decode cX0_addMultiple 6 = .ok (.getfield 22, 3) := by decide +kernel
theorem dX0_addMultiple_9 : decode cX0_addMultiple 9 = .ok (.if_icmp .gt 34, 3) := by decide +kernel
theorem dX0_addMultiple_12 : decode cX0_addMultiple 12 = .ok (.aload_n 0, 1) := by decide +kernel
theorem dX0_addMultiple_13 : decode cX0_addMultiple 13 = .ok (.getfield 11, 3) := by decide +kernel
theorem dX0_addMultiple_16 : decode cX0_addMultiple 16 = .ok (.iload_n 1, 1) := by decide +kernel
theorem dX0_addMultiple_17 : decode cX0_addMultiple 17 = .ok (.aaload, 1) := by decide +kernel
theorem dX0_addMultiple_18 : decode cX0_addMultiple 18 = .ok (.iload 4, 2) := by decide +kernel
theorem dX0_addMultiple_20 : decode cX0_addMultiple 20 = .ok (.dup2, 1) := by decide +kernel
theorem dX0_addMultiple_21 : decode cX0_addMultiple 21 = .ok (.iaload, 1) := by decide +kernel
theorem dX0_addMultiple_22 : decode cX0_addMultiple 22 = .ok (.aload_n 0, 1) := by decide +kernel
theorem dX0_addMultiple_23 : decode cX0_addMultiple 23 = .ok (.getfield 11, 3) := by decide +kernel
theorem dX0_addMultiple_26 : decode cX0_addMultiple 26 = .ok (.iload_n 2, 1) := by decide +kernel
theorem dX0_addMultiple_27 : decode cX0_addMultiple 27 = .ok (.aaload, 1) := by decide +kernel
theorem dX0_addMultiple_28 : decode cX0_addMultiple 28 = .ok (.iload 4, 2) := by decide +kernel
theorem dX0_addMultiple_30 : decode cX0_addMultiple 30 = .ok (.iaload, 1) := by decide +kernel
theorem dX0_addMultiple_31 : decode cX0_addMultiple 31 = .ok (.iload_n 3, 1) := by decide +kernel
theorem dX0_addMultiple_32 : decode cX0_addMultiple 32 = .ok (.invokestatic 27, 3) := by decide +kernel
theorem dX0_addMultiple_35 : decode cX0_addMultiple 35 = .ok (.ixor, 1) := by decide +kernel
theorem dX0_addMultiple_36 : decode cX0_addMultiple 36 = .ok (.iastore, 1) := by decide +kernel
theorem dX0_addMultiple_37 : decode cX0_addMultiple 37 = .ok (.iinc 4 1, 3) := by decide +kernel
theorem dX0_addMultiple_40 : decode cX0_addMultiple 40 = .ok (.goto (-37), 3) := by decide +kernel
theorem dX0_addMultiple_43 : decode cX0_addMultiple 43 = .ok (.return_, 1) := by decide +kernel
set_option maxRecDepth 20000 in
theorem ggX0_polynomialAt_X1_product : GoodIn wsX0_polynomialAt wsX1_product := goodIn_r _ [5] (by decide +kernel) (by decide +kernel)
set_option maxRecDepth 20000 in
theorem gX0_polynomialAt_X1_product_n27 : GoodIn wsX0_polynomialAt (wsX1_product) := ggX0_polynomialAt_X1_product
theorem dX0_polynomialAt_0 : decode cX0_polynomialAt 0 = .ok (.iconst 0, 1) := by decide +kernel
theorem dX0_polynomialAt_1 : decode cX0_polynomialAt 1 = .ok (.istore_n 2, 1) := by decide +kernel
theorem dX0_polynomialAt_2 : decode cX0_polynomialAt 2 = .ok (.aload_n 0, 1) := by decide +kernel
theorem dX0_polynomialAt_3 : decode cX0_polynomialAt 3 = .ok (.getfield 22, 3) := by decide +kernel
theorem dX0_polynomialAt_6 : decode cX0_polynomialAt 6 = .ok (.iconst 1, 1) := by decide +kernel
theorem dX0_polynomialAt_7 : decode cX0_polynomialAt 7 = .ok (.isub, 1) := by decide +kernel
theorem dX0_polynomialAt_8 : decode cX0_polynomialAt 8 = .ok (.istore_n 3, 1) := by decide +kernel
theorem dX0_polynomialAt_9 : decode cX0_polynomialAt 9 = .ok (.iload_n 3, 1) := by decide +kernel
theorem dX0_polynomialAt_10 : decode cX0_polynomialAt 10 = .ok (.ifCond .lt 27, 3) := by decide +kernel
theorem dX0_polynomialAt_13 : decode cX0_polynomialAt 13 = .ok (.iload_n 2, 1) := by decide +kernel
theorem dX0_polynomialAt_14 : decode cX0_polynomialAt 14 = .ok (.iload_n 1, 1) := by decide +kernel
theorem dX0_polynomialAt_15 : decode cX0_polynomialAt 15 = .ok (.invokestatic 27, 3) := by decide +kernel
theorem dX0_polynomialAt_18 : decode cX0_polynomialAt 18 = .ok (.aload_n 0, 1) := by decide +kernel
theorem dX0_polynomialAt_19 : decode cX0_polynomialAt 19 = .ok (.getfield 11, 3) := by decide +kernel
theorem dX0_polynomialAt_22 : decode cX0_polynomialAt 22 = .ok (.iload_n 3, 1) := by decide +kernel
theorem dX0_polynomialAt_23 : decode cX0_polynomialAt 23 = .ok (.aaload, 1) := by decide +kernel
theorem dX0_polynomialAt_24 : decode cX0_polynomialAt 24 = .ok (.aload_n 0, 1) := by decide +kernel
theorem dX0_polynomialAt_25 : decode cX0_polynomialAt 25 = .ok (.getfield 22, 3) := by decide +kernel
theorem dX0_polynomialAt_28 : decode cX0_polynomialAt 28 = .ok (.iaload, 1) := by decide +kernel
theorem dX0_polynomialAt_29 : decode cX0_polynomialAt 29 = .ok (.ixor, 1) := by decide +kernel
theorem dX0_polynomialAt_30 : decode cX0_polynomialAt 30 = .ok (.istore_n 2, 1) := by decide +kernel
theorem dX0_polynomialAt_31 : decode cX0_polynomialAt 31 = .ok (.iinc 3 (-1), 3) := by decide +kernel
theorem dX0_polynomialAt_34 : decode cX0_polynomialAt 34 = .ok (.goto (-25), 3) := by decide +kernel
theorem dX0_polynomialAt_37 : decode cX0_polynomialAt 37 = .ok (.iload_n 2, 1) := by decide +kernel
theorem dX0_polynomialAt_38 : decode cX0_polynomialAt 38 = .ok (.ireturn, 1) := by decide +kernel
theorem dX1_product_0 : decode cX1_product 0 = .ok (.iconst 0, 1) := by decide +kernel
theorem dX1_product_1 : decode cX1_product 1 = .ok (.istore_n 2, 1) := by decide +kernel
theorem dX1_product_2 : decode cX1_product 2 = .ok (.iload_n 0, 1) := by decide +kernel
theorem dX1_product_3 : decode cX1_product 3 = .ok (.istore_n 3, 1) := by decide +kernel
theorem dX1_product_4 : decode cX1_product 4 = .ok (.iconst 0, 1) := by decide +kernel
theorem dX1_product_5 : decode cX1_product 5 = .ok (.istore 4, 2) := by decide +kernel
theorem dX1_product_7 : decode cX1_product 7 = .ok (.iload 4, 2) := by decide +kernel
theorem dX1_product_9 : decode cX1_product 9 = .ok (.bipush 8, 2) := by decide +kernel
theorem dX1_product_11 : decode cX1_product 11 = .ok (.if_icmp .ge 39, 3) := by decide +kernel
theorem dX1_product_14 : decode cX1_product 14 = .ok (.iload_n 1, 1) := by decide +kernel
theorem dX1_product_15 : decode cX1_product 15 = .ok (.iload 4, 2) := by decide +kernel
theorem dX1_product_17 : decode cX1_product 17 = .ok (.ishr, 1) := by decide +kernel
theorem dX1_product_18 : decode cX1_product 18 = .ok (.iconst 1, 1) := by decide +kernel
theorem dX1_product_19 : decode cX1_product 19 = .ok (.iand, 1) := by decide +kernel
theorem dX1_product_20 : decode cX1_product 20 = .ok (.ifCond .eq 7, 3) := by decide +kernel
theorem dX1_product_23 : decode cX1_product 23 = .ok (.iload_n 2, 1) := by decide +kernel
theorem dX1_product_24 : decode cX1_product 24 = .ok (.iload_n 3, 1) := by decide +kernel
theorem dX1_product_25 : decode cX1_product 25 = .ok (.ixor, 1) := by decide +kernel
theorem dX1_product_26 : decode cX1_product 26 = .ok (.istore_n 2, 1) := by decide +kernel
theorem dX1_product_27 : decode cX1_product 27 = .ok (.iload_n 3, 1) := by decide +kernel
theorem dX1_product_28 : decode cX1_product 28 = .ok (.iconst 1, 1) := by decide +kernel
theorem dX1_product_29 : decode cX1_product 29 = .ok (.ishl, 1) := by decide +kernel
theorem dX1_product_30 : decode cX1_product 30 = .ok (.istore_n 3, 1) := by decide +kernel
theorem dX1_product_31 : decode cX1_product 31 = .ok (.iload_n 3, 1) := by decide +kernel
theorem dX1_product_32 : decode cX1_product 32 = .ok (.sipush 255, 3) := by decide +kernel
theorem dX1_product_35 : decode cX1_product 35 = .ok (.if_icmp .le 9, 3) := by decide +kernel
theorem dX1_product_38 : decode cX1_product 38 = .ok (.iload_n 3, 1) := by decide +kernel
theorem dX1_product_39 : decode cX1_product 39 = .ok (.sipush 285, 3) := by decide +kernel
theorem dX1_product_42 : decode cX1_product 42 = .ok (.ixor, 1) := by decide +kernel
theorem dX1_product_43 : decode cX1_product 43 = .ok (.istore_n 3, 1) := by decide +kernel
theorem dX1_product_44 : decode cX1_product 44 = .ok (.iinc 4 1, 3) := by decide +kernel
theorem dX1_product_47 : decode cX1_product 47 = .ok (.goto (-40), 3) := by decide +kernel
theorem dX1_product_50 : decode cX1_product 50 = .ok (.iload_n 2, 1) := by decide +kernel
theorem dX1_product_51 : decode cX1_product 51 = .ok (.ireturn, 1) := by decide +kernel
set_option maxRecDepth 20000 in
theorem ggX1_inverse_X1_product : GoodIn wsX1_inverse wsX1_product := goodIn_r _ [4] (by decide +kernel) (by decide +kernel)
set_option maxRecDepth 20000 in
theorem gX1_inverse_X1_product : GoodIn wsX1_inverse (va_wsS RX1 11 yX1_product wsX1_product) := goodIn_app (goodIn_of _ (by decide +kernel)) ggX1_inverse_X1_product
theorem dX1_inverse_0 : decode cX1_inverse 0 = .ok (.iconst 1, 1) := by decide +kernel
theorem dX1_inverse_1 : decode cX1_inverse 1 = .ok (.istore_n 1, 1) := by decide +kernel
theorem dX1_inverse_2 : decode cX1_inverse 2 = .ok (.iload_n 0, 1) := by decide +kernel
theorem dX1_inverse_3 : decode cX1_inverse 3 = .ok (.istore_n 2, 1) := by decide +kernel
theorem dX1_inverse_4 : decode cX1_inverse 4 = .ok (.iconst 1, 1) := by decide +kernel
theorem dX1_inverse_5 : decode cX1_inverse 5 = .ok (.istore_n 3, 1) := by decide +kernel
theorem dX1_inverse_6 : decode cX1_inverse 6 = .ok (.iload_n 3, 1) := by decide +kernel
theorem dX1_inverse_7 : decode cX1_inverse 7 = .ok (.bipush 8, 2) := by decide +kernel
theorem dX1_inverse_9 : decode cX1_inverse 9 = .ok (.if_icmp .ge 21, 3) := by decide +kernel
theorem dX1_inverse_12 : decode cX1_inverse 12 = .ok (.iload_n 2, 1) := by decide +kernel
theorem dX1_inverse_13 : decode cX1_inverse 13 = .ok (.iload_n 2, 1) := by decide +kernel
theorem dX1_inverse_14 : decode cX1_inverse 14 = .ok (.invokestatic 11, 3) := by decide +kernel
theorem dX1_inverse_17 : decode cX1_inverse 17 = .ok (.istore_n 2, 1) := by decide +kernel
theorem dX1_inverse_18 : decode cX1_inverse 18 = .ok (.iload_n 1, 1) := by decide +kernel
theorem dX1_inverse_19 : decode cX1_inverse 19 = .ok (.iload_n 2, 1) := by decide +kernel
theorem dX1_inverse_20 : decode cX1_inverse 20 = .ok (.invokestatic 11, 3) := by decide +kernel
theorem dX1_inverse_23 : decode cX1_inverse 23 = .ok (.istore_n 1, 1) := by decide +kernel
theorem dX1_inverse_24 : decode cX1_inverse 24 = .ok (.iinc 3 1, 3) := by decide +kernel
theorem dX1_inverse_27 : decode cX1_inverse 27 = .ok (.goto (-21), 3) := by decide +kernel
theorem dX1_inverse_30 : decode cX1_inverse 30 = .ok (.iload_n 1, 1) := by decide +kernel
theorem dX1_inverse_31 : decode cX1_inverse 31 = .ok (.ireturn, 1) := by decide +kernel
theorem dX2_init_0 : decode cX2_init 0 = .ok (.aload_n 0, 1) := by decide +kernel
theorem dX2_init_1 : decode cX2_init 1 = .ok (.invokespecial 3, 3) := by decide +kernel
theorem dX2_init_4 : decode cX2_init 4 = .ok (.aload_n 0, 1) := by decide +kernel
theorem dX2_init_5 : decode cX2_init 5 = .ok (.bipush 8, 2) := by decide +kernel
theorem dX2_init_7 : decode cX2_init 7 = .ok (.newarray .int, 2) := by decide +kernel
theorem dX2_init_9 : decode cX2_init 9 = .ok (.putfield 9, 3) := by decide +kernel
theorem dX2_init_12 : decode cX2_init 12 = .ok (.aload_n 0, 1) := by decide +kernel
theorem dX2_init_13 : decode cX2_init 13 = .ok (.bipush 8, 2) := by decide +kernel
theorem dX2_init_15 : decode cX2_init 15 = .ok (.newarray .int, 2) := by decide +kernel
theorem dX2_init_17 : decode cX2_init 17 = .ok (.putfield 15, 3) := by decide +kernel
theorem dX2_init_20 : decode cX2_init 20 = .ok (.return_, 1) := by decide +kernel
theorem dX2_clear_0 : decode cX2_clear 0 = .ok (.aload_n 0, 1) := by decide +kernel
theorem dX2_clear_1 : decode cX2_clear 1 = .ok (.iconst 0, 1) := by decide +kernel
theorem dX2_clear_2 : decode cX2_clear 2 = .ok (.putfield 18, 3) := by decide +kernel
theorem dX2_clear_5 : decode cX2_clear 5 = .ok (.return_, 1) := by decide +kernel
theorem dX2_add_0 : decode cX2_add 0 = .ok (.aload_n 0, 1) := by decide +kernel
theorem dX2_add_1 : decode cX2_add 1 = .ok (.getfield 18, 3) := by decide +kernel
theorem dX2_add_4 : decode cX2_add 4 = .ok (.bipush 8, 2) := by decide +kernel
theorem dX2_add_6 : decode cX2_add 6 = .ok (.if_icmp .ge 33, 3) := by decide +kernel
theorem dX2_add_9 : decode cX2_add 9 = .ok (.aload_n 0, 1) := by decide +kernel
theorem dX2_add_10 : decode cX2_add 10 = .ok (.getfield 9, 3) := by decide +kernel
theorem dX2_add_13 : decode cX2_add 13 = .ok (.aload_n 0, 1) := by decide +kernel
theorem dX2_add_14 : decode cX2_add 14 = .ok (.getfield 18, 3) := by decide +kernel
theorem dX2_add_17 : decode cX2_add 17 = .ok (.iload_n 1, 1) := by decide +kernel
theorem dX2_add_18 : decode cX2_add 18 = .ok (.iastore, 1) := by decide +kernel
theorem dX2_add_19 : decode cX2_add 19 = .ok (.aload_n 0, 1) := by decide +kernel
theorem dX2_add_20 : decode cX2_add 20 = .ok (.getfield 15, 3) := by decide +kernel
theorem dX2_add_23 : decode cX2_add 23 = .ok (.aload_n 0, 1) := by decide +kernel
theorem dX2_add_24 : decode cX2_add 24 = .ok (.getfield 18, 3) := by decide +kernel
theorem dX2_add_27 : decode cX2_add 27 = .ok (.iload_n 2, 1) := by decide +kernel
theorem dX2_add_28 : decode cX2_add 28 = .ok (.iastore, 1) := by decide +kernel
theorem dX2_add_29 : decode cX2_add 29 = .ok (.aload_n 0, 1) := by decide +kernel
theorem dX2_add_30 : decode cX2_add 30 = .ok (.dup, 1) := by decide +kernel
theorem dX2_add_31 : decode cX2_add 31 = .ok (.getfield 18, 3) := by decide +kernel
theorem dX2_add_34 : decode cX2_add 34 = .ok (.iconst 1, 1) := by decide +kernel
theorem dX2_add_35 : decode cX2_add 35 = .ok (.iadd, 1) := by decide +kernel
theorem dX2_add_36 : decode cX2_add 36 = .ok (.putfield 18, 3) := by decide +kernel
theorem dX2_add_39 : decode cX2_add 39 = .ok (.return_, 1) := by decide +kernel
set_option maxRecDepth 20000 in
theorem ggX2_polynomialAt_X2_weight : GoodIn wsX2_polynomialAt wsX2_weight := goodIn_r _ [7, 1, 8, 9, 10, 11, 12, 13, 14, 15, 16, 17] (by decide +kernel) (by decide +kernel)
set_option maxRecDepth 20000 in
theorem gX2_polynomialAt_X2_weight : GoodIn wsX2_polynomialAt (wsV RX2 22 RX2 yX2_weight wsX2_weight) := goodIn_app (goodIn_of _ (by decide +kernel)) ggX2_polynomialAt_X2_weight
set_option maxRecDepth 20000 in
theorem ggX2_polynomialAt_X1_product : GoodIn wsX2_polynomialAt wsX1_product := goodIn_r _ [11] (by decide +kernel) (by decide +kernel)
set_option maxRecDepth 20000 in
theorem gX2_polynomialAt_X1_product_n26 : GoodIn wsX2_polynomialAt (wsX1_product) := ggX2_polynomialAt_X1_product
theorem dX2_polynomialAt_0 : decode cX2_polynomialAt 0 = .ok (.iconst 0, 1) := by decide +kernel
theorem dX2_polynomialAt_1 : decode cX2_polynomialAt 1 = .ok (.istore_n 2, 1) := by decide +kernel
theorem dX2_polynomialAt_2 : decode cX2_polynomialAt 2 = .ok (.iconst 0, 1) := by decide +kernel
theorem dX2_polynomialAt_3 : decode cX2_polynomialAt 3 = .ok (.istore_n 3, 1) := by decide +kernel
theorem dX2_polynomialAt_4 : decode cX2_polynomialAt 4 = .ok (.iload_n 3, 1) := by decide +kernel
theorem dX2_polynomialAt_5 : decode cX2_polynomialAt 5 = .ok (.aload_n 0, 1) := by decide +kernel
theorem dX2_polynomialAt_6 : decode cX2_polynomialAt 6 = .ok (.getfield 18, 3) := by decide +kernel
theorem dX2_polynomialAt_9 : decode cX2_polynomialAt 9 = .ok (.if_icmp .ge 27, 3) := by decide +kernel
theorem dX2_polynomialAt_12 : decode cX2_polynomialAt 12 = .ok (.iload_n 2, 1) := by decide +kernel
theorem dX2_polynomialAt_13 : decode cX2_polynomialAt 13 = .ok (.aload_n 0, 1) := by decide +kernel
theorem dX2_polynomialAt_14 : decode cX2_polynomialAt 14 = .ok (.getfield 15, 3) := by decide +kernel
theorem dX2_polynomialAt_17 : decode cX2_polynomialAt 17 = .ok (.iload_n 3, 1) := by decide +kernel
theorem dX2_polynomialAt_18 : decode cX2_polynomialAt 18 = .ok (.iaload, 1) := by decide +kernel
theorem dX2_polynomialAt_19 : decode cX2_polynomialAt 19 = .ok (.aload_n 0, 1) := by decide +kernel
theorem dX2_polynomialAt_20 : decode cX2_polynomialAt 20 = .ok (.iload_n 3, 1) := by decide +kernel
theorem dX2_polynomialAt_21 : decode cX2_polynomialAt 21 = .ok (.iload_n 1, 1) := by decide +kernel
theorem dX2_polynomialAt_22 : decode cX2_polynomialAt 22 = .ok (.invokevirtual 22, 3) := by decide +kernel
theorem dX2_polynomialAt_25 : decode cX2_polynomialAt 25 = .ok (.invokestatic 26, 3) := by decide +kernel
theorem dX2_polynomialAt_28 : decode cX2_polynomialAt 28 = .ok (.ixor, 1) := by decide +kernel
theorem dX2_polynomialAt_29 : decode cX2_polynomialAt 29 = .ok (.istore_n 2, 1) := by decide +kernel
theorem dX2_polynomialAt_30 : decode cX2_polynomialAt 30 = .ok (.iinc 3 1, 3) := by decide +kernel
theorem dX2_polynomialAt_33 : decode cX2_polynomialAt 33 = .ok (.goto (-29), 3) := by decide +kernel
theorem dX2_polynomialAt_36 : decode cX2_polynomialAt 36 = .ok (.iload_n 2, 1) := by decide +kernel
theorem dX2_polynomialAt_37 : decode cX2_polynomialAt 37 = .ok (.ireturn, 1) := by decide +kernel
set_option maxRecDepth 20000 in
theorem ggX2_weight_X1_product : GoodIn wsX2_weight wsX1_product := goodIn_r _ [5] (by decide +kernel) (by decide +kernel)
set_option maxRecDepth 20000 in
theorem gX2_weight_X1_product_n26 : GoodIn wsX2_weight (wsX1_product) := ggX2_weight_X1_product
set_option maxRecDepth 20000 in
theorem ggX2_weight_X1_inverse : GoodIn wsX2_weight wsX1_inverse := goodIn_r _ [7, 8, 3, 4, 5] (by decide +kernel) (by decide +kernel)
set_option maxRecDepth 20000 in
theorem gX2_weight_X1_inverse_n31 : GoodIn wsX2_weight (wsX1_inverse) := ggX2_weight_X1_inverse
theorem dX2_weight_0 : decode cX2_weight 0 = .ok (.iconst 1, 1) := by decide +kernel
theorem dX2_weight_1 : decode cX2_weight 1 = .ok (.istore_n 3, 1) := by decide +kernel
theorem dX2_weight_2 : decode cX2_weight 2 = .ok (.iconst 1, 1) := by decide +kernel
theorem dX2_weight_3 : decode cX2_weight 3 = .ok (.istore 4, 2) := by decide +kernel
theorem dX2_weight_5 : decode cX2_weight 5 = .ok (.iconst 0, 1) := by decide +kernel
theorem dX2_weight_6 : decode cX2_weight 6 = .ok (.istore 5, 2) := by decide +kernel
theorem dX2_weight_8 : decode cX2_weight 8 = .ok (.iload 5, 2) := by decide +kernel
theorem dX2_weight_10 : decode cX2_weight 10 = .ok (.aload_n 0, 1) := by decide +kernel
theorem dX2_weight_11 : decode cX2_weight 11 = .ok (.getfield 18, 3) := by decide +kernel
theorem dX2_weight_14 : decode cX2_weight 14 = .ok (.if_icmp .ge 50, 3) := by decide +kernel
theorem dX2_weight_17 : decode cX2_weight 17 = .ok (.iload 5, 2) := by decide +kernel
theorem dX2_weight_19 : decode cX2_weight 19 = .ok (.iload_n 1, 1) := by decide +kernel
theorem dX2_weight_20 : decode cX2_weight 20 = .ok (.if_icmp .eq 38, 3) := by decide +kernel
theorem dX2_weight_23 : decode cX2_weight 23 = .ok (.iload_n 3, 1) := by decide +kernel
theorem dX2_weight_24 : decode cX2_weight 24 = .ok (.iload_n 2, 1) := by decide +kernel
theorem dX2_weight_25 : decode cX2_weight 25 = .ok (.aload_n 0, 1) := by decide +kernel
theorem dX2_weight_26 : decode cX2_weight 26 = .ok (.getfield 9, 3) := by decide +kernel
theorem dX2_weight_29 : decode cX2_weight 29 = .ok (.iload 5, 2) := by decide +kernel
theorem dX2_weight_31 : decode cX2_weight 31 = .ok (.iaload, 1) := by decide +kernel
theorem dX2_weight_32 : decode cX2_weight 32 = .ok (.ixor, 1) := by decide +kernel
theorem dX2_weight_33 : decode cX2_weight 33 = .ok (.invokestatic 26, 3) := by decide +kernel
theorem dX2_weight_36 : decode cX2_weight 36 = .ok (.istore_n 3, 1) := by decide +kernel
theorem dX2_weight_37 : decode cX2_weight 37 = .ok (.iload 4, 2) := by decide +kernel
theorem dX2_weight_39 : decode cX2_weight 39 = .ok (.aload_n 0, 1) := by decide +kernel
theorem dX2_weight_40 : decode cX2_weight 40 = .ok (.getfield 9, 3) := by decide +kernel
theorem dX2_weight_43 : decode cX2_weight 43 = .ok (.iload_n 1, 1) := by decide +kernel
theorem dX2_weight_44 : decode cX2_weight 44 = .ok (.iaload, 1) := by decide +kernel
theorem dX2_weight_45 : decode cX2_weight 45 = .ok (.aload_n 0, 1) := by decide +kernel
theorem dX2_weight_46 : decode cX2_weight 46 = .ok (.getfield 9, 3) := by decide +kernel
theorem dX2_weight_49 : decode cX2_weight 49 = .ok (.iload 5, 2) := by decide +kernel
theorem dX2_weight_51 : decode cX2_weight 51 = .ok (.iaload, 1) := by decide +kernel
theorem dX2_weight_52 : decode cX2_weight 52 = .ok (.ixor, 1) := by decide +kernel
theorem dX2_weight_53 : decode cX2_weight 53 = .ok (.invokestatic 26, 3) := by decide +kernel
theorem dX2_weight_56 : decode cX2_weight 56 = .ok (.istore 4, 2) := by decide +kernel
theorem dX2_weight_58 : decode cX2_weight 58 = .ok (.iinc 5 1, 3) := by decide +kernel
theorem dX2_weight_61 : decode cX2_weight 61 = .ok (.goto (-53), 3) := by decide +kernel
theorem dX2_weight_64 : decode cX2_weight 64 = .ok (.iload_n 3, 1) := by decide +kernel
theorem dX2_weight_65 : decode cX2_weight 65 = .ok (.iload 4, 2) := by decide +kernel
theorem dX2_weight_67 : decode cX2_weight 67 = .ok (.invokestatic 31, 3) := by decide +kernel
theorem dX2_weight_70 : decode cX2_weight 70 = .ok (.invokestatic 26, 3) := by decide +kernel
theorem dX2_weight_73 : decode cX2_weight 73 = .ok (.ireturn, 1) := by decide +kernel
set_option maxRecDepth 20000 in
theorem ggX3_init_X2_init : GoodIn wsX3_init wsX2_init := goodIn_r _ [21, 22, 2, 3, 8, 23, 24, 47, 48, 49] (by decide +kernel) (by decide +kernel)
set_option maxRecDepth 20000 in
theorem gX3_init_X2_init_n9 : GoodIn wsX3_init (wsX2_init) := ggX3_init_X2_init
set_option maxRecDepth 20000 in
theorem ggX3_init_X0_init : GoodIn wsX3_init wsX0_init := goodIn_r _ [26, 27, 2, 3, 28, 8, 29, 63, 64] (by decide +kernel) (by decide +kernel)
set_option maxRecDepth 20000 in
theorem gX3_init_X0_init_n38 : GoodIn wsX3_init (wsX0_init) := ggX3_init_X0_init
set_option maxRecDepth 20000 in
theorem ggX3_init_X3_startBlock : GoodIn wsX3_init wsX3_startBlock := goodIn_r _ [34, 7, 35, 36, 37, 38, 39, 40, 6, 41, 42, 43, 44, 45, 46, 23, 24, 50, 51, 52, 53, 54, 55, 56, 57, 58, 59, 60, 61, 62, 47, 48, 49] (by decide +kernel) (by decide +kernel)
set_option maxRecDepth 20000 in
theorem gX3_init_X3_startBlock : GoodIn wsX3_init (wsV RX3 43 RX3 yX3_startBlock wsX3_startBlock) := goodIn_app (goodIn_of _ (by decide +kernel)) ggX3_init_X3_startBlock
theorem dX3_init_0 : decode cX3_init 0 = .ok (.aload_n 0, 1) := by decide +kernel
theorem dX3_init_1 : decode cX3_init 1 = .ok (.invokespecial 1, 3) := by decide +kernel
theorem dX3_init_4 : decode cX3_init 4 = .ok (.aload_n 0, 1) := by decide +kernel
theorem dX3_init_5 : decode cX3_init 5 = .ok (.new 7, 3) := by decide +kernel
theorem dX3_init_8 : decode cX3_init 8 = .ok (.dup, 1) := by decide +kernel
theorem dX3_init_9 : decode cX3_init 9 = .ok (.invokespecial 9, 3) := by decide +kernel
theorem dX3_init_12 : decode cX3_init 12 = .ok (.putfield 10, 3) := by decide +kernel
theorem dX3_init_15 : decode cX3_init 15 = .ok (.aload_n 0, 1) := by decide +kernel
theorem dX3_init_16 : decode cX3_init 16 = .ok (.bipush 6, 2) := by decide +kernel
theorem dX3_init_18 : decode cX3_init 18 = .ok (.newarray .int, 2) := by decide +kernel
theorem dX3_init_20 : decode cX3_init 20 = .ok (.putfield 16, 3) := by decide +kernel
theorem dX3_init_23 : decode cX3_init 23 = .ok (.aload_n 0, 1) := by decide +kernel
theorem dX3_init_24 : decode cX3_init 24 = .ok (.bipush 6, 2) := by decide +kernel
theorem dX3_init_26 : decode cX3_init 26 = .ok (.newarray .int, 2) := by decide +kernel
theorem dX3_init_28 : decode cX3_init 28 = .ok (.putfield 20, 3) := by decide +kernel
theorem dX3_init_31 : decode cX3_init 31 = .ok (.aload_n 0, 1) := by decide +kernel
theorem dX3_init_32 : decode cX3_init 32 = .ok (.bipush 6, 2) := by decide +kernel
theorem dX3_init_34 : decode cX3_init 34 = .ok (.newarray .int, 2) := by decide +kernel
theorem dX3_init_36 : decode cX3_init 36 = .ok (.putfield 23, 3) := by decide +kernel
theorem dX3_init_39 : decode cX3_init 39 = .ok (.aload_n 0, 1) := by decide +kernel
theorem dX3_init_40 : decode cX3_init 40 = .ok (.bipush 6, 2) := by decide +kernel
theorem dX3_init_42 : decode cX3_init 42 = .ok (.newarray .int, 2) := by decide +kernel
theorem dX3_init_44 : decode cX3_init 44 = .ok (.putfield 26, 3) := by decide +kernel
theorem dX3_init_47 : decode cX3_init 47 = .ok (.aload_n 0, 1) := by decide +kernel
theorem dX3_init_48 : decode cX3_init 48 = .ok (.bipush 6, 2) := by decide +kernel
theorem dX3_init_50 : decode cX3_init 50 = .ok (.newarray .boolean, 2) := by decide +kernel
theorem dX3_init_52 : decode cX3_init 52 = .ok (.putfield 29, 3) := by decide +kernel
theorem dX3_init_55 : decode cX3_init 55 = .ok (.aload_n 0, 1) := by decide +kernel
theorem dX3_init_56 : decode cX3_init 56 = .ok (.new 7, 3) := by decide +kernel
theorem dX3_init_59 : decode cX3_init 59 = .ok (.dup, 1) := by decide +kernel
theorem dX3_init_60 : decode cX3_init 60 = .ok (.invokespecial 9, 3) := by decide +kernel
theorem dX3_init_63 : decode cX3_init 63 = .ok (.putfield 33, 3) := by decide +kernel
theorem dX3_init_66 : decode cX3_init 66 = .ok (.aload_n 0, 1) := by decide +kernel
theorem dX3_init_67 : decode cX3_init 67 = .ok (.new 36, 3) := by decide +kernel
theorem dX3_init_70 : decode cX3_init 70 = .ok (.dup, 1) := by decide +kernel
theorem dX3_init_71 : decode cX3_init 71 = .ok (.invokespecial 38, 3) := by decide +kernel
theorem dX3_init_74 : decode cX3_init 74 = .ok (.putfield 39, 3) := by decide +kernel
theorem dX3_init_77 : decode cX3_init 77 = .ok (.aload_n 0, 1) := by decide +kernel
theorem dX3_init_78 : decode cX3_init 78 = .ok (.iconst 4, 1) := by decide +kernel
theorem dX3_init_79 : decode cX3_init 79 = .ok (.iconst 3, 1) := by decide +kernel
theorem dX3_init_80 : decode cX3_init 80 = .ok (.invokevirtual 43, 3) := by decide +kernel
theorem dX3_init_83 : decode cX3_init 83 = .ok (.return_, 1) := by decide +kernel
set_option maxRecDepth 20000 in
theorem ggX3_begin_X3_startBlock : GoodIn wsX3_begin wsX3_startBlock := goodIn_r _ [8, 9, 10, 11, 3, 12, 13, 14, 15, 16, 17, 18, 19, 20, 21, 22, 23, 24, 25, 26, 27, 28, 29, 30, 31, 32, 33, 34, 35, 36, 37, 38, 39] (by decide +kernel) (by decide +kernel)
set_option maxRecDepth 20000 in
theorem gX3_begin_X3_startBlock : GoodIn wsX3_begin (wsV RX3 43 RX3 yX3_startBlock wsX3_startBlock) := goodIn_app (goodIn_of _ (by decide +kernel)) ggX3_begin_X3_startBlock
theorem dX3_begin_0 : decode cX3_begin 0 = .ok (.iload_n 1, 1) := by decide +kernel
theorem dX3_begin_1 : decode cX3_begin 1 = .ok (.iconst 1, 1) := by decide +kernel
theorem dX3_begin_2 : decode cX3_begin 2 = .ok (.if_icmp .lt 9, 3) := by decide +kernel
theorem dX3_begin_5 : decode cX3_begin 5 = .ok (.iload_n 1, 1) := by decide +kernel
theorem dX3_begin_6 : decode cX3_begin 6 = .ok (.bipush 8, 2) := by decide +kernel
theorem dX3_begin_8 : decode cX3_begin 8 = .ok (.if_icmp .le 13, 3) := by decide +kernel
theorem dX3_begin_11 : decode cX3_begin 11 = .ok (.new 47, 3) := by decide +kernel
theorem dX3_begin_14 : decode cX3_begin 14 = .ok (.dup, 1) := by decide +kernel
theorem dX3_begin_15 : decode cX3_begin 15 = .ok (.ldc 49, 2) := by decide +kernel
theorem dX3_begin_17 : decode cX3_begin 17 = .ok (.invokespecial 51, 3) := by decide +kernel
theorem dX3_begin_20 : decode cX3_begin 20 = .ok (.athrow, 1) := by decide +kernel
theorem dX3_begin_21 : decode cX3_begin 21 = .ok (.iload_n 2, 1) := by decide +kernel
theorem dX3_begin_22 : decode cX3_begin 22 = .ok (.iconst 1, 1) := by decide +kernel
theorem dX3_begin_23 : decode cX3_begin 23 = .ok (.if_icmp .lt 9, 3) := by decide +kernel
theorem dX3_begin_26 : decode cX3_begin 26 = .ok (.iload_n 2, 1) := by decide +kernel
theorem dX3_begin_27 : decode cX3_begin 27 = .ok (.bipush 20, 2) := by decide +kernel
theorem dX3_begin_29 : decode cX3_begin 29 = .ok (.if_icmp .le 13, 3) := by decide +kernel
theorem dX3_begin_32 : decode cX3_begin 32 = .ok (.new 47, 3) := by decide +kernel
theorem dX3_begin_35 : decode cX3_begin 35 = .ok (.dup, 1) := by decide +kernel
theorem dX3_begin_36 : decode cX3_begin 36 = .ok (.ldc 54, 2) := by decide +kernel
theorem dX3_begin_38 : decode cX3_begin 38 = .ok (.invokespecial 51, 3) := by decide +kernel
theorem dX3_begin_41 : decode cX3_begin 41 = .ok (.athrow, 1) := by decide +kernel
theorem dX3_begin_42 : decode cX3_begin 42 = .ok (.aload_n 0, 1) := by decide +kernel
theorem dX3_begin_43 : decode cX3_begin 43 = .ok (.getfield 56, 3) := by decide +kernel
theorem dX3_begin_46 : decode cX3_begin 46 = .ok (.istore_n 3, 1) := by decide +kernel
theorem dX3_begin_47 : decode cX3_begin 47 = .ok (.aload_n 0, 1) := by decide +kernel
theorem dX3_begin_48 : decode cX3_begin 48 = .ok (.iload_n 1, 1) := by decide +kernel
theorem dX3_begin_49 : decode cX3_begin 49 = .ok (.iload_n 2, 1) := by decide +kernel
theorem dX3_begin_50 : decode cX3_begin 50 = .ok (.invokevirtual 43, 3) := by decide +kernel
theorem dX3_begin_53 : decode cX3_begin 53 = .ok (.iload_n 3, 1) := by decide +kernel
theorem dX3_begin_54 : decode cX3_begin 54 = .ok (.ireturn, 1) := by decide +kernel
set_option maxRecDepth 20000 in
theorem ggX3_setDatum_X3_demandPlace : GoodIn wsX3_setDatum wsX3_demandPlace := goodIn_ca (goodIn_r _ [11, 12, 13, 6, 17, 18, 19, 20, 21, 22, 23, 24, 25, 26, 27, 28, 29, 30, 31, 32] (by decide +kernel) (by decide +kernel)) (goodIn_sub (fun _ h => List.mem_cons_of_mem _ (List.mem_append_right _ h)) (by decide +kernel))
set_option maxRecDepth 20000 in
theorem gX3_setDatum_X3_demandPlace : GoodIn wsX3_setDatum (wsV RX3 60 RX3 yX3_demandPlace wsX3_demandPlace) := goodIn_app (goodIn_of _ (by decide +kernel)) ggX3_setDatum_X3_demandPlace
set_option maxRecDepth 20000 in
theorem ggX3_setDatum_X3_isFieldNumber : GoodIn wsX3_setDatum wsX3_isFieldNumber := goodIn_r _ [16] (by decide +kernel) (by decide +kernel)
set_option maxRecDepth 20000 in
theorem gX3_setDatum_X3_isFieldNumber : GoodIn wsX3_setDatum (va_wsS RX3 64 yX3_isFieldNumber wsX3_isFieldNumber) := goodIn_app (goodIn_of _ (by decide +kernel)) ggX3_setDatum_X3_isFieldNumber
theorem dX3_setDatum_0 : decode cX3_setDatum 0 = .ok (.aload_n 0, 1) := by decide +kernel
theorem dX3_setDatum_1 : decode cX3_setDatum 1 = .ok (.iload_n 1, 1) := by decide +kernel
theorem dX3_setDatum_2 : decode cX3_setDatum 2 = .ok (.invokevirtual 60, 3) := by decide +kernel
theorem dX3_setDatum_5 : decode cX3_setDatum 5 = .ok (.iload_n 2, 1) := by decide +kernel
theorem dX3_setDatum_6 : decode cX3_setDatum 6 = .ok (.invokestatic 64, 3) := by decide +kernel
theorem dX3_setDatum_9 : decode cX3_setDatum 9 = .ok (.ifCond .ne 13, 3) := by decide +kernel
theorem dX3_setDatum_12 : decode cX3_setDatum 12 = .ok (.new 47, 3) := by decide +kernel
theorem dX3_setDatum_15 : decode cX3_setDatum 15 = .ok (.dup, 1) := by decide +kernel
theorem dX3_setDatum_16 : decode cX3_setDatum 16 = .ok (.ldc 68, 2) := by decide +kernel
theorem dX3_setDatum_18 : decode cX3_setDatum 18 = .ok (.invokespecial 51, 3) := by decide +kernel
theorem dX3_setDatum_21 : decode cX3_setDatum 21 = .ok (.athrow, 1) := by decide +kernel
theorem dX3_setDatum_22 : decode cX3_setDatum 22 = .ok (.aload_n 0, 1) := by decide +kernel
theorem dX3_setDatum_23 : decode cX3_setDatum 23 = .ok (.getfield 56, 3) := by decide +kernel
theorem dX3_setDatum_26 : decode cX3_setDatum 26 = .ok (.ifCond .le 13, 3) := by decide +kernel
theorem dX3_setDatum_29 : decode cX3_setDatum 29 = .ok (.new 70, 3) := by decide +kernel
theorem dX3_setDatum_32 : decode cX3_setDatum 32 = .ok (.dup, 1) := by decide +kernel
theorem dX3_setDatum_33 : decode cX3_setDatum 33 = .ok (.ldc 72, 2) := by decide +kernel
theorem dX3_setDatum_35 : decode cX3_setDatum 35 = .ok (.invokespecial 74, 3) := by decide +kernel
theorem dX3_setDatum_38 : decode cX3_setDatum 38 = .ok (.athrow, 1) := by decide +kernel
theorem dX3_setDatum_39 : decode cX3_setDatum 39 = .ok (.aload_n 0, 1) := by decide +kernel
theorem dX3_setDatum_40 : decode cX3_setDatum 40 = .ok (.getfield 10, 3) := by decide +kernel
theorem dX3_setDatum_43 : decode cX3_setDatum 43 = .ok (.getfield 75, 3) := by decide +kernel
theorem dX3_setDatum_46 : decode cX3_setDatum 46 = .ok (.iload_n 1, 1) := by decide +kernel
theorem dX3_setDatum_47 : decode cX3_setDatum 47 = .ok (.iaload, 1) := by decide +kernel
theorem dX3_setDatum_48 : decode cX3_setDatum 48 = .ok (.istore_n 3, 1) := by decide +kernel
theorem dX3_setDatum_49 : decode cX3_setDatum 49 = .ok (.aload_n 0, 1) := by decide +kernel
theorem dX3_setDatum_50 : decode cX3_setDatum 50 = .ok (.getfield 10, 3) := by decide +kernel
theorem dX3_setDatum_53 : decode cX3_setDatum 53 = .ok (.getfield 75, 3) := by decide +kernel
theorem dX3_setDatum_56 : decode cX3_setDatum 56 = .ok (.iload_n 1, 1) := by decide +kernel
theorem dX3_setDatum_57 : decode cX3_setDatum 57 = .ok (.iload_n 2, 1) := by decide +kernel
theorem dX3_setDatum_58 : decode cX3_setDatum 58 = .ok (.iastore, 1) := by decide +kernel
theorem dX3_setDatum_59 : decode cX3_setDatum 59 = .ok (.iload_n 3, 1) := by decide +kernel
theorem dX3_setDatum_60 : decode cX3_setDatum 60 = .ok (.ireturn, 1) := by decide +kernel
set_option maxRecDepth 20000 in
theorem ggX3_join_X3_demandLosses : GoodIn wsX3_join wsX3_demandLosses := goodIn_ca (goodIn_r _ [12, 13, 14] (by decide +kernel) (by decide +kernel)) (goodIn_sub (fun _ h => List.mem_cons_of_mem _ (List.mem_append_right _ h)) (by decide +kernel))
set_option maxRecDepth 20000 in
theorem gX3_join_X3_demandLosses : GoodIn wsX3_join (va_wsS RX3 78 yX3_demandLosses wsX3_demandLosses) := goodIn_app (goodIn_of _ (by decide +kernel)) ggX3_join_X3_demandLosses
set_option maxRecDepth 20000 in
theorem ggX3_join_X3_demandWait : GoodIn wsX3_join wsX3_demandWait := goodIn_ca (goodIn_r _ [17, 13, 14] (by decide +kernel) (by decide +kernel)) (goodIn_sub (fun _ h => List.mem_cons_of_mem _ (List.mem_append_right _ h)) (by decide +kernel))
set_option maxRecDepth 20000 in
theorem gX3_join_X3_demandWait : GoodIn wsX3_join (va_wsS RX3 81 yX3_demandWait wsX3_demandWait) := goodIn_app (goodIn_of _ (by decide +kernel)) ggX3_join_X3_demandWait
theorem dX3_join_0 : decode cX3_join 0 = .ok (.iload_n 1, 1) := by decide +kernel
theorem dX3_join_1 : decode cX3_join 1 = .ok (.invokestatic 78, 3) := by decide +kernel
theorem dX3_join_4 : decode cX3_join 4 = .ok (.iload_n 2, 1) := by decide +kernel
theorem dX3_join_5 : decode cX3_join 5 = .ok (.invokestatic 81, 3) := by decide +kernel
theorem dX3_join_8 : decode cX3_join 8 = .ok (.aload_n 0, 1) := by decide +kernel
theorem dX3_join_9 : decode cX3_join 9 = .ok (.getfield 84, 3) := by decide +kernel
theorem dX3_join_12 : decode cX3_join 12 = .ok (.bipush 6, 2) := by decide +kernel
theorem dX3_join_14 : decode cX3_join 14 = .ok (.if_icmp .lt 13, 3) := by decide +kernel
theorem dX3_join_17 : decode cX3_join 17 = .ok (.new 70, 3) := by decide +kernel
theorem dX3_join_20 : decode cX3_join 20 = .ok (.dup, 1) := by decide +kernel
theorem dX3_join_21 : decode cX3_join 21 = .ok (.ldc 87, 2) := by decide +kernel
theorem dX3_join_23 : decode cX3_join 23 = .ok (.invokespecial 74, 3) := by decide +kernel
theorem dX3_join_26 : decode cX3_join 26 = .ok (.athrow, 1) := by decide +kernel
theorem dX3_join_27 : decode cX3_join 27 = .ok (.aload_n 0, 1) := by decide +kernel
theorem dX3_join_28 : decode cX3_join 28 = .ok (.getfield 84, 3) := by decide +kernel
theorem dX3_join_31 : decode cX3_join 31 = .ok (.istore_n 3, 1) := by decide +kernel
theorem dX3_join_32 : decode cX3_join 32 = .ok (.aload_n 0, 1) := by decide +kernel
theorem dX3_join_33 : decode cX3_join 33 = .ok (.getfield 16, 3) := by decide +kernel
theorem dX3_join_36 : decode cX3_join 36 = .ok (.iload_n 3, 1) := by decide +kernel
theorem dX3_join_37 : decode cX3_join 37 = .ok (.iload_n 1, 1) := by decide +kernel
theorem dX3_join_38 : decode cX3_join 38 = .ok (.iastore, 1) := by decide +kernel
theorem dX3_join_39 : decode cX3_join 39 = .ok (.aload_n 0, 1) := by decide +kernel
theorem dX3_join_40 : decode cX3_join 40 = .ok (.getfield 20, 3) := by decide +kernel
theorem dX3_join_43 : decode cX3_join 43 = .ok (.iload_n 3, 1) := by decide +kernel
theorem dX3_join_44 : decode cX3_join 44 = .ok (.iload_n 2, 1) := by decide +kernel
theorem dX3_join_45 : decode cX3_join 45 = .ok (.iastore, 1) := by decide +kernel
theorem dX3_join_46 : decode cX3_join 46 = .ok (.aload_n 0, 1) := by decide +kernel
theorem dX3_join_47 : decode cX3_join 47 = .ok (.getfield 23, 3) := by decide +kernel
theorem dX3_join_50 : decode cX3_join 50 = .ok (.iload_n 3, 1) := by decide +kernel
theorem dX3_join_51 : decode cX3_join 51 = .ok (.iconst 0, 1) := by decide +kernel
theorem dX3_join_52 : decode cX3_join 52 = .ok (.iastore, 1) := by decide +kernel
theorem dX3_join_53 : decode cX3_join 53 = .ok (.aload_n 0, 1) := by decide +kernel
theorem dX3_join_54 : decode cX3_join 54 = .ok (.getfield 26, 3) := by decide +kernel
theorem dX3_join_57 : decode cX3_join 57 = .ok (.iload_n 3, 1) := by decide +kernel
theorem dX3_join_58 : decode cX3_join 58 = .ok (.iconst 0, 1) := by decide +kernel
theorem dX3_join_59 : decode cX3_join 59 = .ok (.iastore, 1) := by decide +kernel
theorem dX3_join_60 : decode cX3_join 60 = .ok (.aload_n 0, 1) := by decide +kernel
theorem dX3_join_61 : decode cX3_join 61 = .ok (.getfield 29, 3) := by decide +kernel
theorem dX3_join_64 : decode cX3_join 64 = .ok (.iload_n 3, 1) := by decide +kernel
theorem dX3_join_65 : decode cX3_join 65 = .ok (.iconst 0, 1) := by decide +kernel
theorem dX3_join_66 : decode cX3_join 66 = .ok (.bastore, 1) := by decide +kernel
theorem dX3_join_67 : decode cX3_join 67 = .ok (.aload_n 0, 1) := by decide +kernel
theorem dX3_join_68 : decode cX3_join 68 = .ok (.dup, 1) := by decide +kernel
theorem dX3_join_69 : decode cX3_join 69 = .ok (.getfield 84, 3) := by decide +kernel
theorem dX3_join_72 : decode cX3_join 72 = .ok (.iconst 1, 1) := by decide +kernel
theorem dX3_join_73 : decode cX3_join 73 = .ok (.iadd, 1) := by decide +kernel
theorem dX3_join_74 : decode cX3_join 74 = .ok (.putfield 84, 3) := by decide +kernel
theorem dX3_join_77 : decode cX3_join 77 = .ok (.iload_n 3, 1) := by decide +kernel
theorem dX3_join_78 : decode cX3_join 78 = .ok (.ireturn, 1) := by decide +kernel
set_option maxRecDepth 20000 in
theorem ggX3_setLosses_X3_demandReceiver : GoodIn wsX3_setLosses wsX3_demandReceiver := goodIn_ca (goodIn_r _ [6, 7, 8, 9, 15, 16, 17, 18, 19, 20, 21, 22, 23, 24, 25, 26, 27] (by decide +kernel) (by decide +kernel)) (goodIn_sub (fun _ h => List.mem_cons_of_mem _ (List.mem_append_left _ (List.mem_append_right _ h))) (by decide +kernel))
set_option maxRecDepth 20000 in
theorem gX3_setLosses_X3_demandReceiver : GoodIn wsX3_setLosses (wsV RX3 89 RX3 yX3_demandReceiver wsX3_demandReceiver) := goodIn_app (goodIn_of _ (by decide +kernel)) ggX3_setLosses_X3_demandReceiver
set_option maxRecDepth 20000 in
theorem ggX3_setLosses_X3_demandLosses : GoodIn wsX3_setLosses wsX3_demandLosses := goodIn_ca (goodIn_r _ [12, 13, 14] (by decide +kernel) (by decide +kernel)) (goodIn_sub (fun _ h => List.mem_cons_of_mem _ (List.mem_append_right _ h)) (by decide +kernel))
set_option maxRecDepth 20000 in
theorem gX3_setLosses_X3_demandLosses : GoodIn wsX3_setLosses (va_wsS RX3 78 yX3_demandLosses wsX3_demandLosses) := goodIn_app (goodIn_of _ (by decide +kernel)) ggX3_setLosses_X3_demandLosses
theorem dX3_setLosses_0 : decode cX3_setLosses 0 = .ok (.aload_n 0, 1) := by decide +kernel
theorem dX3_setLosses_1 : decode cX3_setLosses 1 = .ok (.iload_n 1, 1) := by decide +kernel
theorem dX3_setLosses_2 : decode cX3_setLosses 2 = .ok (.invokevirtual 89, 3) := by decide +kernel
theorem dX3_setLosses_5 : decode cX3_setLosses 5 = .ok (.iload_n 2, 1) := by decide +kernel
theorem dX3_setLosses_6 : decode cX3_setLosses 6 = .ok (.invokestatic 78, 3) := by decide +kernel
theorem dX3_setLosses_9 : decode cX3_setLosses 9 = .ok (.aload_n 0, 1) := by decide +kernel
theorem dX3_setLosses_10 : decode cX3_setLosses 10 = .ok (.getfield 16, 3) := by decide +kernel
theorem dX3_setLosses_13 : decode cX3_setLosses 13 = .ok (.iload_n 1, 1) := by decide +kernel
theorem dX3_setLosses_14 : decode cX3_setLosses 14 = .ok (.iaload, 1) := by decide +kernel
theorem dX3_setLosses_15 : decode cX3_setLosses 15 = .ok (.istore_n 3, 1) := by decide +kernel
theorem dX3_setLosses_16 : decode cX3_setLosses 16 = .ok (.aload_n 0, 1) := by decide +kernel
theorem dX3_setLosses_17 : decode cX3_setLosses 17 = .ok (.getfield 16, 3) := by decide +kernel
theorem dX3_setLosses_20 : decode cX3_setLosses 20 = .ok (.iload_n 1, 1) := by decide +kernel
theorem dX3_setLosses_21 : decode cX3_setLosses 21 = .ok (.iload_n 2, 1) := by decide +kernel
theorem dX3_setLosses_22 : decode cX3_setLosses 22 = .ok (.iastore, 1) := by decide +kernel
theorem dX3_setLosses_23 : decode cX3_setLosses 23 = .ok (.iload_n 3, 1) := by decide +kernel
theorem dX3_setLosses_24 : decode cX3_setLosses 24 = .ok (.ireturn, 1) := by decide +kernel
set_option maxRecDepth 20000 in
theorem ggX3_setWait_X3_demandReceiver : GoodIn wsX3_setWait wsX3_demandReceiver := goodIn_ca (goodIn_r _ [6, 7, 8, 9, 15, 16, 17, 18, 19, 20, 21, 22, 23, 24, 25, 26, 27] (by decide +kernel) (by decide +kernel)) (goodIn_sub (fun _ h => List.mem_cons_of_mem _ (List.mem_append_left _ (List.mem_append_right _ h))) (by decide +kernel))
set_option maxRecDepth 20000 in
theorem gX3_setWait_X3_demandReceiver : GoodIn wsX3_setWait (wsV RX3 89 RX3 yX3_demandReceiver wsX3_demandReceiver) := goodIn_app (goodIn_of _ (by decide +kernel)) ggX3_setWait_X3_demandReceiver
set_option maxRecDepth 20000 in
theorem ggX3_setWait_X3_demandWait : GoodIn wsX3_setWait wsX3_demandWait := goodIn_ca (goodIn_r _ [12, 13, 14] (by decide +kernel) (by decide +kernel)) (goodIn_sub (fun _ h => List.mem_cons_of_mem _ (List.mem_append_right _ h)) (by decide +kernel))
set_option maxRecDepth 20000 in
theorem gX3_setWait_X3_demandWait : GoodIn wsX3_setWait (va_wsS RX3 81 yX3_demandWait wsX3_demandWait) := goodIn_app (goodIn_of _ (by decide +kernel)) ggX3_setWait_X3_demandWait
theorem dX3_setWait_0 : decode cX3_setWait 0 = .ok (.aload_n 0, 1) := by decide +kernel
theorem dX3_setWait_1 : decode cX3_setWait 1 = .ok (.iload_n 1, 1) := by decide +kernel
theorem dX3_setWait_2 : decode cX3_setWait 2 = .ok (.invokevirtual 89, 3) := by decide +kernel
theorem dX3_setWait_5 : decode cX3_setWait 5 = .ok (.iload_n 2, 1) := by decide +kernel
theorem dX3_setWait_6 : decode cX3_setWait 6 = .ok (.invokestatic 81, 3) := by decide +kernel
theorem dX3_setWait_9 : decode cX3_setWait 9 = .ok (.aload_n 0, 1) := by decide +kernel
theorem dX3_setWait_10 : decode cX3_setWait 10 = .ok (.getfield 20, 3) := by decide +kernel
theorem dX3_setWait_13 : decode cX3_setWait 13 = .ok (.iload_n 1, 1) := by decide +kernel
theorem dX3_setWait_14 : decode cX3_setWait 14 = .ok (.iaload, 1) := by decide +kernel
theorem dX3_setWait_15 : decode cX3_setWait 15 = .ok (.istore_n 3, 1) := by decide +kernel
theorem dX3_setWait_16 : decode cX3_setWait 16 = .ok (.aload_n 0, 1) := by decide +kernel
theorem dX3_setWait_17 : decode cX3_setWait 17 = .ok (.getfield 20, 3) := by decide +kernel
theorem dX3_setWait_20 : decode cX3_setWait 20 = .ok (.iload_n 1, 1) := by decide +kernel
theorem dX3_setWait_21 : decode cX3_setWait 21 = .ok (.iload_n 2, 1) := by decide +kernel
theorem dX3_setWait_22 : decode cX3_setWait 22 = .ok (.iastore, 1) := by decide +kernel
theorem dX3_setWait_23 : decode cX3_setWait 23 = .ok (.iload_n 3, 1) := by decide +kernel
theorem dX3_setWait_24 : decode cX3_setWait 24 = .ok (.ireturn, 1) := by decide +kernel
set_option maxRecDepth 20000 in
theorem ggX3_send_X3_sendPackets : GoodIn wsX3_send wsX3_sendPackets := goodIn_r _ [10, 11, 12, 13, 9, 14, 5, 15, 16, 17, 18, 39, 40, 41, 42, 43, 44, 45, 46, 47, 48, 49, 50, 51] (by decide +kernel) (by decide +kernel)
set_option maxRecDepth 20000 in
theorem gX3_send_X3_sendPackets : GoodIn wsX3_send (wsV RX3 96 RX3 yX3_sendPackets wsX3_sendPackets) := goodIn_app (goodIn_of _ (by decide +kernel)) ggX3_send_X3_sendPackets
set_option maxRecDepth 20000 in
theorem ggX3_send_X3_completeCount : GoodIn wsX3_send wsX3_completeCount := goodIn_r _ [22, 15, 16, 23, 24, 25, 9, 26, 27, 18, 28, 29, 30, 31, 32, 33, 34, 35, 36, 37, 38, 39, 40, 41, 42, 43, 44, 45, 46, 47, 48, 49, 50, 51, 52, 53, 54] (by decide +kernel) (by decide +kernel)
set_option maxRecDepth 20000 in
theorem gX3_send_X3_completeCount : GoodIn wsX3_send (wsV RX3 99 RX3 yX3_completeCount wsX3_completeCount) := goodIn_app (goodIn_of _ (by decide +kernel)) ggX3_send_X3_completeCount
theorem dX3_send_0 : decode cX3_send 0 = .ok (.iload_n 1, 1) := by decide +kernel
theorem dX3_send_1 : decode cX3_send 1 = .ok (.iconst 1, 1) := by decide +kernel
theorem dX3_send_2 : decode cX3_send 2 = .ok (.if_icmp .lt 9, 3) := by decide +kernel
theorem dX3_send_5 : decode cX3_send 5 = .ok (.iload_n 1, 1) := by decide +kernel
theorem dX3_send_6 : decode cX3_send 6 = .ok (.bipush 16, 2) := by decide +kernel
theorem dX3_send_8 : decode cX3_send 8 = .ok (.if_icmp .le 13, 3) := by decide +kernel
theorem dX3_send_11 : decode cX3_send 11 = .ok (.new 47, 3) := by decide +kernel
theorem dX3_send_14 : decode cX3_send 14 = .ok (.dup, 1) := by decide +kernel
theorem dX3_send_15 : decode cX3_send 15 = .ok (.ldc 92, 2) := by decide +kernel
theorem dX3_send_17 : decode cX3_send 17 = .ok (.invokespecial 51, 3) := by decide +kernel
theorem dX3_send_20 : decode cX3_send 20 = .ok (.athrow, 1) := by decide +kernel
theorem dX3_send_21 : decode cX3_send 21 = .ok (.aload_n 0, 1) := by decide +kernel
theorem dX3_send_22 : decode cX3_send 22 = .ok (.getfield 56, 3) := by decide +kernel
theorem dX3_send_25 : decode cX3_send 25 = .ok (.iload_n 1, 1) := by decide +kernel
theorem dX3_send_26 : decode cX3_send 26 = .ok (.iadd, 1) := by decide +kernel
theorem dX3_send_27 : decode cX3_send 27 = .ok (.sipush 10000, 3) := by decide +kernel
theorem dX3_send_30 : decode cX3_send 30 = .ok (.if_icmp .le 13, 3) := by decide +kernel
theorem dX3_send_33 : decode cX3_send 33 = .ok (.new 70, 3) := by decide +kernel
theorem dX3_send_36 : decode cX3_send 36 = .ok (.dup, 1) := by decide +kernel
theorem dX3_send_37 : decode cX3_send 37 = .ok (.ldc 94, 2) := by decide +kernel
theorem dX3_send_39 : decode cX3_send 39 = .ok (.invokespecial 74, 3) := by decide +kernel
theorem dX3_send_42 : decode cX3_send 42 = .ok (.athrow, 1) := by decide +kernel
theorem dX3_send_43 : decode cX3_send 43 = .ok (.aload_n 0, 1) := by decide +kernel
theorem dX3_send_44 : decode cX3_send 44 = .ok (.iload_n 1, 1) := by decide +kernel
theorem dX3_send_45 : decode cX3_send 45 = .ok (.invokevirtual 96, 3) := by decide +kernel
theorem dX3_send_48 : decode cX3_send 48 = .ok (.aload_n 0, 1) := by decide +kernel
theorem dX3_send_49 : decode cX3_send 49 = .ok (.invokevirtual 99, 3) := by decide +kernel
theorem dX3_send_52 : decode cX3_send 52 = .ok (.ireturn, 1) := by decide +kernel
set_option maxRecDepth 20000 in
theorem ggX3_round_X3_hearReports : GoodIn wsX3_round wsX3_hearReports := goodIn_r _ [8, 9, 10, 11, 7, 12, 13, 14, 15, 16, 17, 18, 19, 20, 21, 22, 23, 24, 25, 26, 27, 28, 29, 30, 31, 32, 33, 34, 35, 36, 37, 38, 54, 55, 56, 57, 58, 59, 60, 61, 62, 63, 64, 65, 66, 67, 68, 69] (by decide +kernel) (by decide +kernel)
set_option maxRecDepth 20000 in
theorem gX3_round_X3_hearReports : GoodIn wsX3_round (wsV RX3 105 RX3 yX3_hearReports wsX3_hearReports) := goodIn_app (goodIn_of _ (by decide +kernel)) ggX3_round_X3_hearReports
set_option maxRecDepth 20000 in
theorem ggX3_round_X3_sendPackets : GoodIn wsX3_round wsX3_sendPackets := goodIn_r _ [42, 43, 44, 45, 7, 46, 3, 13, 25, 47, 31, 54, 55, 56, 57, 58, 59, 60, 61, 62, 63, 64, 65, 66] (by decide +kernel) (by decide +kernel)
set_option maxRecDepth 20000 in
theorem gX3_round_X3_sendPackets : GoodIn wsX3_round (wsV RX3 96 RX3 yX3_sendPackets wsX3_sendPackets) := goodIn_app (goodIn_of _ (by decide +kernel)) ggX3_round_X3_sendPackets
set_option maxRecDepth 20000 in
theorem ggX3_round_X3_countBadRounds : GoodIn wsX3_round wsX3_countBadRounds := goodIn_r _ [51, 13, 52, 25, 53, 21, 22, 23, 7, 24, 26, 27, 28, 29, 30, 31, 16, 17, 18, 19, 32, 33, 34, 35, 36, 37, 38, 54, 55, 56, 57, 58, 59, 60, 61, 62, 63, 64, 65, 66, 67, 68, 69] (by decide +kernel) (by decide +kernel)
set_option maxRecDepth 20000 in
theorem gX3_round_X3_countBadRounds : GoodIn wsX3_round (wsV RX3 108 RX3 yX3_countBadRounds wsX3_countBadRounds) := goodIn_app (goodIn_of _ (by decide +kernel)) ggX3_round_X3_countBadRounds
theorem dX3_round_0 : decode cX3_round 0 = .ok (.aload_n 0, 1) := by decide +kernel
theorem dX3_round_1 : decode cX3_round 1 = .ok (.getfield 56, 3) := by decide +kernel
theorem dX3_round_4 : decode cX3_round 4 = .ok (.sipush 9992, 3) := by decide +kernel
theorem dX3_round_7 : decode cX3_round 7 = .ok (.if_icmp .le 13, 3) := by decide +kernel
theorem dX3_round_10 : decode cX3_round 10 = .ok (.new 70, 3) := by decide +kernel
theorem dX3_round_13 : decode cX3_round 13 = .ok (.dup, 1) := by decide +kernel
theorem dX3_round_14 : decode cX3_round 14 = .ok (.ldc 103, 2) := by decide +kernel
theorem dX3_round_16 : decode cX3_round 16 = .ok (.invokespecial 74, 3) := by decide +kernel
theorem dX3_round_19 : decode cX3_round 19 = .ok (.athrow, 1) := by decide +kernel
theorem dX3_round_20 : decode cX3_round 20 = .ok (.aload_n 0, 1) := by decide +kernel
theorem dX3_round_21 : decode cX3_round 21 = .ok (.invokevirtual 105, 3) := by decide +kernel
theorem dX3_round_24 : decode cX3_round 24 = .ok (.istore_n 1, 1) := by decide +kernel
theorem dX3_round_25 : decode cX3_round 25 = .ok (.aload_n 0, 1) := by decide +kernel
theorem dX3_round_26 : decode cX3_round 26 = .ok (.iload_n 1, 1) := by decide +kernel
theorem dX3_round_27 : decode cX3_round 27 = .ok (.invokevirtual 96, 3) := by decide +kernel
theorem dX3_round_30 : decode cX3_round 30 = .ok (.aload_n 0, 1) := by decide +kernel
theorem dX3_round_31 : decode cX3_round 31 = .ok (.invokevirtual 108, 3) := by decide +kernel
theorem dX3_round_34 : decode cX3_round 34 = .ok (.iload_n 1, 1) := by decide +kernel
theorem dX3_round_35 : decode cX3_round 35 = .ok (.ireturn, 1) := by decide +kernel
theorem dX3_sent_0 : decode cX3_sent 0 = .ok (.aload_n 0, 1) := by decide +kernel
theorem dX3_sent_1 : decode cX3_sent 1 = .ok (.getfield 56, 3) := by decide +kernel
theorem dX3_sent_4 : decode cX3_sent 4 = .ok (.ireturn, 1) := by decide +kernel
theorem dX3_receivers_0 : decode cX3_receivers 0 = .ok (.aload_n 0, 1) := by decide +kernel
theorem dX3_receivers_1 : decode cX3_receivers 1 = .ok (.getfield 84, 3) := by decide +kernel
theorem dX3_receivers_4 : decode cX3_receivers 4 = .ok (.ireturn, 1) := by decide +kernel
theorem dX3_reports_0 : decode cX3_reports 0 = .ok (.aload_n 0, 1) := by decide +kernel
theorem dX3_reports_1 : decode cX3_reports 1 = .ok (.getfield 111, 3) := by decide +kernel
theorem dX3_reports_4 : decode cX3_reports 4 = .ok (.ireturn, 1) := by decide +kernel
theorem dX3_keptBack_0 : decode cX3_keptBack 0 = .ok (.aload_n 0, 1) := by decide +kernel
theorem dX3_keptBack_1 : decode cX3_keptBack 1 = .ok (.getfield 114, 3) := by decide +kernel
theorem dX3_keptBack_4 : decode cX3_keptBack 4 = .ok (.ireturn, 1) := by decide +kernel
set_option maxRecDepth 20000 in
theorem ggX3_has_X3_demandReceiver : GoodIn wsX3_has wsX3_demandReceiver := goodIn_ca (goodIn_r _ [6, 7, 8, 9, 10, 11, 12, 13, 14, 15, 16, 17, 18, 19, 20, 21, 22] (by decide +kernel) (by decide +kernel)) (goodIn_sub (fun _ h => List.mem_cons_of_mem _ (List.mem_append_right _ h)) (by decide +kernel))
set_option maxRecDepth 20000 in
theorem gX3_has_X3_demandReceiver : GoodIn wsX3_has (wsV RX3 89 RX3 yX3_demandReceiver wsX3_demandReceiver) := goodIn_app (goodIn_of _ (by decide +kernel)) ggX3_has_X3_demandReceiver
theorem dX3_has_0 : decode cX3_has 0 = .ok (.aload_n 0, 1) := by decide +kernel
theorem dX3_has_1 : decode cX3_has 1 = .ok (.iload_n 1, 1) := by decide +kernel
theorem dX3_has_2 : decode cX3_has 2 = .ok (.invokevirtual 89, 3) := by decide +kernel
theorem dX3_has_5 : decode cX3_has 5 = .ok (.aload_n 0, 1) := by decide +kernel
theorem dX3_has_6 : decode cX3_has 6 = .ok (.getfield 23, 3) := by decide +kernel
theorem dX3_has_9 : decode cX3_has 9 = .ok (.iload_n 1, 1) := by decide +kernel
theorem dX3_has_10 : decode cX3_has 10 = .ok (.iaload, 1) := by decide +kernel
theorem dX3_has_11 : decode cX3_has 11 = .ok (.ireturn, 1) := by decide +kernel
set_option maxRecDepth 20000 in
theorem ggX3_need_X3_demandReceiver : GoodIn wsX3_need wsX3_demandReceiver := goodIn_ca (goodIn_r _ [5, 6, 7, 8, 26, 27, 28, 29, 30, 31, 32, 33, 34, 35, 36, 37, 38] (by decide +kernel) (by decide +kernel)) (goodIn_sub (fun _ h => List.mem_cons_of_mem _ (List.mem_append_right _ h)) (by decide +kernel))
set_option maxRecDepth 20000 in
theorem gX3_need_X3_demandReceiver : GoodIn wsX3_need (wsV RX3 89 RX3 yX3_demandReceiver wsX3_demandReceiver) := goodIn_app (goodIn_of _ (by decide +kernel)) ggX3_need_X3_demandReceiver
set_option maxRecDepth 20000 in
theorem ggX3_need_X3_needOf : GoodIn wsX3_need wsX3_needOf := goodIn_r _ [12, 13, 14, 15, 16, 17, 18, 19, 20, 21, 22, 23, 24, 25, 26, 27, 28, 29, 30, 31, 32, 33, 34, 35, 36, 37, 38, 39, 40, 41] (by decide +kernel) (by decide +kernel)
set_option maxRecDepth 20000 in
theorem gX3_need_X3_needOf : GoodIn wsX3_need (wsV RX3 117 RX3 yX3_needOf wsX3_needOf) := goodIn_app (goodIn_of _ (by decide +kernel)) ggX3_need_X3_needOf
theorem dX3_need_0 : decode cX3_need 0 = .ok (.aload_n 0, 1) := by decide +kernel
theorem dX3_need_1 : decode cX3_need 1 = .ok (.iload_n 1, 1) := by decide +kernel
theorem dX3_need_2 : decode cX3_need 2 = .ok (.invokevirtual 89, 3) := by decide +kernel
theorem dX3_need_5 : decode cX3_need 5 = .ok (.aload_n 0, 1) := by decide +kernel
theorem dX3_need_6 : decode cX3_need 6 = .ok (.iload_n 1, 1) := by decide +kernel
theorem dX3_need_7 : decode cX3_need 7 = .ok (.invokevirtual 117, 3) := by decide +kernel
theorem dX3_need_10 : decode cX3_need 10 = .ok (.ireturn, 1) := by decide +kernel
set_option maxRecDepth 20000 in
theorem ggX3_isDropped_X3_demandReceiver : GoodIn wsX3_isDropped wsX3_demandReceiver := goodIn_ca (goodIn_r _ [6, 7, 8, 9, 10, 11, 12, 13, 14, 15, 16, 17, 18, 19, 20, 21, 22] (by decide +kernel) (by decide +kernel)) (goodIn_sub (fun _ h => List.mem_cons_of_mem _ (List.mem_append_right _ h)) (by decide +kernel))
set_option maxRecDepth 20000 in
theorem gX3_isDropped_X3_demandReceiver : GoodIn wsX3_isDropped (wsV RX3 89 RX3 yX3_demandReceiver wsX3_demandReceiver) := goodIn_app (goodIn_of _ (by decide +kernel)) ggX3_isDropped_X3_demandReceiver
theorem dX3_isDropped_0 : decode cX3_isDropped 0 = .ok (.aload_n 0, 1) := by decide +kernel
theorem dX3_isDropped_1 : decode cX3_isDropped 1 = .ok (.iload_n 1, 1) := by decide +kernel
theorem dX3_isDropped_2 : decode cX3_isDropped 2 = .ok (.invokevirtual 89, 3) := by decide +kernel
theorem dX3_isDropped_5 : decode cX3_isDropped 5 = .ok (.aload_n 0, 1) := by decide +kernel
theorem dX3_isDropped_6 : decode cX3_isDropped 6 = .ok (.getfield 29, 3) := by decide +kernel
theorem dX3_isDropped_9 : decode cX3_isDropped 9 = .ok (.iload_n 1, 1) := by decide +kernel
theorem dX3_isDropped_10 : decode cX3_isDropped 10 = .ok (.baload, 1) := by decide +kernel
theorem dX3_isDropped_11 : decode cX3_isDropped 11 = .ok (.ireturn, 1) := by decide +kernel
set_option maxRecDepth 20000 in
theorem ggX3_badRounds_X3_demandReceiver : GoodIn wsX3_badRounds wsX3_demandReceiver := goodIn_ca (goodIn_r _ [6, 7, 8, 9, 10, 11, 12, 13, 14, 15, 16, 17, 18, 19, 20, 21, 22] (by decide +kernel) (by decide +kernel)) (goodIn_sub (fun _ h => List.mem_cons_of_mem _ (List.mem_append_right _ h)) (by decide +kernel))
set_option maxRecDepth 20000 in
theorem gX3_badRounds_X3_demandReceiver : GoodIn wsX3_badRounds (wsV RX3 89 RX3 yX3_demandReceiver wsX3_demandReceiver) := goodIn_app (goodIn_of _ (by decide +kernel)) ggX3_badRounds_X3_demandReceiver
theorem dX3_badRounds_0 : decode cX3_badRounds 0 = .ok (.aload_n 0, 1) := by decide +kernel
theorem dX3_badRounds_1 : decode cX3_badRounds 1 = .ok (.iload_n 1, 1) := by decide +kernel
theorem dX3_badRounds_2 : decode cX3_badRounds 2 = .ok (.invokevirtual 89, 3) := by decide +kernel
theorem dX3_badRounds_5 : decode cX3_badRounds 5 = .ok (.aload_n 0, 1) := by decide +kernel
theorem dX3_badRounds_6 : decode cX3_badRounds 6 = .ok (.getfield 26, 3) := by decide +kernel
theorem dX3_badRounds_9 : decode cX3_badRounds 9 = .ok (.iload_n 1, 1) := by decide +kernel
theorem dX3_badRounds_10 : decode cX3_badRounds 10 = .ok (.iaload, 1) := by decide +kernel
theorem dX3_badRounds_11 : decode cX3_badRounds 11 = .ok (.ireturn, 1) := by decide +kernel
set_option maxRecDepth 20000 in
theorem ggX3_times_X3_isFieldNumber : GoodIn wsX3_times wsX3_isFieldNumber := goodIn_r _ [6] (by decide +kernel) (by decide +kernel)
set_option maxRecDepth 20000 in
theorem gX3_times_X3_isFieldNumber : GoodIn wsX3_times (va_wsS RX3 64 yX3_isFieldNumber wsX3_isFieldNumber) := goodIn_app (goodIn_of _ (by decide +kernel)) ggX3_times_X3_isFieldNumber
set_option maxRecDepth 20000 in
theorem ggX3_times_X1_product : GoodIn wsX3_times wsX1_product := goodIn_r _ [9] (by decide +kernel) (by decide +kernel)
set_option maxRecDepth 20000 in
theorem gX3_times_X1_product_n123 : GoodIn wsX3_times (wsX1_product) := ggX3_times_X1_product
theorem dX3_times_0 : decode cX3_times 0 = .ok (.iload_n 1, 1) := by decide +kernel
theorem dX3_times_1 : decode cX3_times 1 = .ok (.invokestatic 64, 3) := by decide +kernel
theorem dX3_times_4 : decode cX3_times 4 = .ok (.ifCond .eq 10, 3) := by decide +kernel
theorem dX3_times_7 : decode cX3_times 7 = .ok (.iload_n 2, 1) := by decide +kernel
theorem dX3_times_8 : decode cX3_times 8 = .ok (.invokestatic 64, 3) := by decide +kernel
theorem dX3_times_11 : decode cX3_times 11 = .ok (.ifCond .ne 13, 3) := by decide +kernel
theorem dX3_times_14 : decode cX3_times 14 = .ok (.new 47, 3) := by decide +kernel
theorem dX3_times_17 : decode cX3_times 17 = .ok (.dup, 1) := by decide +kernel
theorem dX3_times_18 : decode cX3_times 18 = .ok (.ldc 121, 2) := by decide +kernel
theorem dX3_times_20 : decode cX3_times 20 = .ok (.invokespecial 51, 3) := by decide +kernel
theorem dX3_times_23 : decode cX3_times 23 = .ok (.athrow, 1) := by decide +kernel
theorem dX3_times_24 : decode cX3_times 24 = .ok (.iload_n 1, 1) := by decide +kernel
theorem dX3_times_25 : decode cX3_times 25 = .ok (.iload_n 2, 1) := by decide +kernel
theorem dX3_times_26 : decode cX3_times 26 = .ok (.invokestatic 123, 3) := by decide +kernel
theorem dX3_times_29 : decode cX3_times 29 = .ok (.ireturn, 1) := by decide +kernel
set_option maxRecDepth 20000 in
theorem ggX3_packet_X2_polynomialAt : GoodIn wsX3_packet wsX2_polynomialAt := goodIn_r _ [7, 8, 9, 10, 11, 12, 5, 13, 14, 15, 16, 17, 18, 19, 20, 34, 35, 36] (by decide +kernel) (by decide +kernel)
set_option maxRecDepth 20000 in
theorem gX3_packet_X2_polynomialAt_n134 : GoodIn wsX3_packet (wsX2_polynomialAt) := ggX3_packet_X2_polynomialAt
theorem dX3_packet_0 : decode cX3_packet 0 = .ok (.iload_n 1, 1) := by decide +kernel
theorem dX3_packet_1 : decode cX3_packet 1 = .ok (.ifCond .lt 9, 3) := by decide +kernel
theorem dX3_packet_4 : decode cX3_packet 4 = .ok (.iload_n 1, 1) := by decide +kernel
theorem dX3_packet_5 : decode cX3_packet 5 = .ok (.bipush 16, 2) := by decide +kernel
theorem dX3_packet_7 : decode cX3_packet 7 = .ok (.if_icmp .lt 13, 3) := by decide +kernel
theorem dX3_packet_10 : decode cX3_packet 10 = .ok (.new 129, 3) := by decide +kernel
theorem dX3_packet_13 : decode cX3_packet 13 = .ok (.dup, 1) := by decide +kernel
theorem dX3_packet_14 : decode cX3_packet 14 = .ok (.ldc 131, 2) := by decide +kernel
theorem dX3_packet_16 : decode cX3_packet 16 = .ok (.invokespecial 133, 3) := by decide +kernel
theorem dX3_packet_19 : decode cX3_packet 19 = .ok (.athrow, 1) := by decide +kernel
theorem dX3_packet_20 : decode cX3_packet 20 = .ok (.aload_n 0, 1) := by decide +kernel
theorem dX3_packet_21 : decode cX3_packet 21 = .ok (.getfield 10, 3) := by decide +kernel
theorem dX3_packet_24 : decode cX3_packet 24 = .ok (.iload_n 1, 1) := by decide +kernel
theorem dX3_packet_25 : decode cX3_packet 25 = .ok (.invokevirtual 134, 3) := by decide +kernel
theorem dX3_packet_28 : decode cX3_packet 28 = .ok (.ireturn, 1) := by decide +kernel
set_option maxRecDepth 20000 in
theorem ggX3_rebuilt_X3_demandRebuilding : GoodIn wsX3_rebuilt wsX3_demandRebuilding := goodIn_ca (goodIn_ca (goodIn_r _ [7, 8, 9, 10, 11, 12, 6, 13, 14, 15, 16, 17, 18, 19, 20, 21, 22, 23, 24, 25, 1, 26, 27, 28, 29, 30, 31, 32, 33, 34, 35, 36, 68, 69, 70, 71, 72, 73, 74, 75, 76, 77, 78, 79, 80, 81, 82, 83] (by decide +kernel) (by decide +kernel)) (goodIn_sub (fun _ h => List.mem_cons_of_mem _ (List.mem_append_left _ (List.mem_append_right _ h))) (by decide +kernel))) (goodIn_sub (fun _ h => List.mem_cons_of_mem _ (List.mem_append_right _ h)) (by decide +kernel))
set_option maxRecDepth 20000 in
theorem gX3_rebuilt_X3_demandRebuilding : GoodIn wsX3_rebuilt (wsV RX3 137 RX3 yX3_demandRebuilding wsX3_demandRebuilding) := goodIn_app (goodIn_of _ (by decide +kernel)) ggX3_rebuilt_X3_demandRebuilding
set_option maxRecDepth 20000 in
theorem ggX3_rebuilt_X3_chooseLowest : GoodIn wsX3_rebuilt wsX3_chooseLowest := goodIn_r _ [40, 2, 41, 42, 43, 44, 45, 46, 47, 48, 6, 49, 21, 50, 51, 52, 53, 54, 55, 56, 57, 58, 59, 60, 61, 62, 63, 64, 65, 66, 67, 68, 69, 70, 71, 72, 73, 74, 75, 76, 77, 78, 79, 80, 81, 82, 83] (by decide +kernel) (by decide +kernel)
set_option maxRecDepth 20000 in
theorem gX3_rebuilt_X3_chooseLowest : GoodIn wsX3_rebuilt (wsV RX3 140 RX3 yX3_chooseLowest wsX3_chooseLowest) := goodIn_app (goodIn_of _ (by decide +kernel)) ggX3_rebuilt_X3_chooseLowest
set_option maxRecDepth 20000 in
theorem ggX3_rebuilt_X2_polynomialAt : GoodIn wsX3_rebuilt wsX2_polynomialAt := goodIn_r _ [52, 45, 53, 54, 55, 56, 42, 57, 58, 59, 60, 61, 62, 63, 64, 81, 82, 83] (by decide +kernel) (by decide +kernel)
set_option maxRecDepth 20000 in
theorem gX3_rebuilt_X2_polynomialAt_n134 : GoodIn wsX3_rebuilt (wsX2_polynomialAt) := ggX3_rebuilt_X2_polynomialAt
theorem dX3_rebuilt_0 : decode cX3_rebuilt 0 = .ok (.aload_n 0, 1) := by decide +kernel
theorem dX3_rebuilt_1 : decode cX3_rebuilt 1 = .ok (.iload_n 1, 1) := by decide +kernel
theorem dX3_rebuilt_2 : decode cX3_rebuilt 2 = .ok (.iload_n 2, 1) := by decide +kernel
theorem dX3_rebuilt_3 : decode cX3_rebuilt 3 = .ok (.invokevirtual 137, 3) := by decide +kernel
theorem dX3_rebuilt_6 : decode cX3_rebuilt 6 = .ok (.aload_n 0, 1) := by decide +kernel
theorem dX3_rebuilt_7 : decode cX3_rebuilt 7 = .ok (.aload_n 0, 1) := by decide +kernel
theorem dX3_rebuilt_8 : decode cX3_rebuilt 8 = .ok (.getfield 23, 3) := by decide +kernel
theorem dX3_rebuilt_11 : decode cX3_rebuilt 11 = .ok (.iload_n 1, 1) := by decide +kernel
theorem dX3_rebuilt_12 : decode cX3_rebuilt 12 = .ok (.iaload, 1) := by decide +kernel
theorem dX3_rebuilt_13 : decode cX3_rebuilt 13 = .ok (.invokevirtual 140, 3) := by decide +kernel
theorem dX3_rebuilt_16 : decode cX3_rebuilt 16 = .ok (.aload_n 0, 1) := by decide +kernel
theorem dX3_rebuilt_17 : decode cX3_rebuilt 17 = .ok (.getfield 33, 3) := by decide +kernel
theorem dX3_rebuilt_20 : decode cX3_rebuilt 20 = .ok (.iload_n 2, 1) := by decide +kernel
theorem dX3_rebuilt_21 : decode cX3_rebuilt 21 = .ok (.invokevirtual 134, 3) := by decide +kernel
theorem dX3_rebuilt_24 : decode cX3_rebuilt 24 = .ok (.ireturn, 1) := by decide +kernel
set_option maxRecDepth 20000 in
theorem ggX3_rebuiltByElimination_X3_demandRebuilding : GoodIn wsX3_rebuiltByElimination wsX3_demandRebuilding := goodIn_ca (goodIn_ca (goodIn_r _ [8, 9, 10, 11, 12, 13, 7, 14, 15, 16, 17, 18, 19, 20, 21, 22, 23, 24, 25, 26, 1, 27, 28, 29, 30, 31, 32, 33, 34, 35, 36, 37, 89, 90, 91, 92, 93, 94, 95, 96, 97, 98, 99, 100, 101, 102, 103, 104] (by decide +kernel) (by decide +kernel)) (goodIn_sub (fun _ h => List.mem_cons_of_mem _ (List.mem_append_left _ (List.mem_append_right _ h))) (by decide +kernel))) (goodIn_sub (fun _ h => List.mem_cons_of_mem _ (List.mem_append_right _ h)) (by decide +kernel))
set_option maxRecDepth 20000 in
theorem gX3_rebuiltByElimination_X3_demandRebuilding : GoodIn wsX3_rebuiltByElimination (wsV RX3 137 RX3 yX3_demandRebuilding wsX3_demandRebuilding) := goodIn_app (goodIn_of _ (by decide +kernel)) ggX3_rebuiltByElimination_X3_demandRebuilding
set_option maxRecDepth 20000 in
theorem ggX3_rebuiltByElimination_X3_chooseHighest : GoodIn wsX3_rebuiltByElimination wsX3_chooseHighest := goodIn_r _ [41, 3, 42, 43, 44, 45, 46, 47, 48, 49, 7, 50, 22, 51, 52, 53, 54, 55, 56, 57, 58, 59, 60, 61, 62, 63, 64, 65, 66, 67, 68, 89, 90, 91, 92, 93, 94, 95, 96, 97, 98, 99, 100, 101, 102, 103, 104] (by decide +kernel) (by decide +kernel)
set_option maxRecDepth 20000 in
theorem gX3_rebuiltByElimination_X3_chooseHighest : GoodIn wsX3_rebuiltByElimination (wsV RX3 143 RX3 yX3_chooseHighest wsX3_chooseHighest) := goodIn_app (goodIn_of _ (by decide +kernel)) ggX3_rebuiltByElimination_X3_chooseHighest
set_option maxRecDepth 20000 in
theorem ggX3_rebuiltByElimination_X0_write : GoodIn wsX3_rebuiltByElimination wsX0_write := goodIn_r _ [72, 73, 74, 60, 61, 62, 102, 103, 104, 105, 106] (by decide +kernel) (by decide +kernel)
set_option maxRecDepth 20000 in
theorem gX3_rebuiltByElimination_X0_write_n146 : GoodIn wsX3_rebuiltByElimination (wsX0_write) := ggX3_rebuiltByElimination_X0_write
set_option maxRecDepth 20000 in
theorem ggX3_rebuiltByElimination_X0_solve : GoodIn wsX3_rebuiltByElimination wsX0_solve := goodIn_r _ [77, 73, 74, 63, 61, 64, 65, 60, 62, 78, 79, 80, 70, 81, 82, 83, 84, 85, 105, 106] (by decide +kernel) (by decide +kernel)
set_option maxRecDepth 20000 in
theorem gX3_rebuiltByElimination_X0_solve_n150 : GoodIn wsX3_rebuiltByElimination (wsX0_solve) := ggX3_rebuiltByElimination_X0_solve
set_option maxRecDepth 20000 in
theorem ggX3_rebuiltByElimination_X0_polynomialAt : GoodIn wsX3_rebuiltByElimination wsX0_polynomialAt := goodIn_r _ [88, 73, 74, 60, 61, 62, 105, 106] (by decide +kernel) (by decide +kernel)
set_option maxRecDepth 20000 in
theorem gX3_rebuiltByElimination_X0_polynomialAt_n153 : GoodIn wsX3_rebuiltByElimination (wsX0_polynomialAt) := ggX3_rebuiltByElimination_X0_polynomialAt
theorem dX3_rebuiltByElimination_0 : decode cX3_rebuiltByElimination 0 = .ok (.aload_n 0, 1) := by decide +kernel
theorem dX3_rebuiltByElimination_1 : decode cX3_rebuiltByElimination 1 = .ok (.iload_n 1, 1) := by decide +kernel
theorem dX3_rebuiltByElimination_2 : decode cX3_rebuiltByElimination 2 = .ok (.iload_n 2, 1) := by decide +kernel
theorem dX3_rebuiltByElimination_3 : decode cX3_rebuiltByElimination 3 = .ok (.invokevirtual 137, 3) := by decide +kernel
theorem dX3_rebuiltByElimination_6 : decode cX3_rebuiltByElimination 6 = .ok (.aload_n 0, 1) := by decide +kernel
theorem dX3_rebuiltByElimination_7 : decode cX3_rebuiltByElimination 7 = .ok (.aload_n 0, 1) := by decide +kernel
theorem dX3_rebuiltByElimination_8 : decode cX3_rebuiltByElimination 8 = .ok (.getfield 23, 3) := by decide +kernel
theorem dX3_rebuiltByElimination_11 : decode cX3_rebuiltByElimination 11 = .ok (.iload_n 1, 1) := by decide +kernel
theorem dX3_rebuiltByElimination_12 : decode cX3_rebuiltByElimination 12 = .ok (.iaload, 1) := by decide +kernel
theorem dX3_rebuiltByElimination_13 : decode cX3_rebuiltByElimination 13 = .ok (.invokevirtual 143, 3) := by decide +kernel
theorem dX3_rebuiltByElimination_16 : decode cX3_rebuiltByElimination 16 = .ok (.aload_n 0, 1) := by decide +kernel
theorem dX3_rebuiltByElimination_17 : decode cX3_rebuiltByElimination 17 = .ok (.getfield 39, 3) := by decide +kernel
theorem dX3_rebuiltByElimination_20 : decode cX3_rebuiltByElimination 20 = .ok (.aload_n 0, 1) := by decide +kernel
theorem dX3_rebuiltByElimination_21 : decode cX3_rebuiltByElimination 21 = .ok (.getfield 33, 3) := by decide +kernel
theorem dX3_rebuiltByElimination_24 : decode cX3_rebuiltByElimination 24 = .ok (.invokevirtual 146, 3) := by decide +kernel
theorem dX3_rebuiltByElimination_27 : decode cX3_rebuiltByElimination 27 = .ok (.aload_n 0, 1) := by decide +kernel
theorem dX3_rebuiltByElimination_28 : decode cX3_rebuiltByElimination 28 = .ok (.getfield 39, 3) := by decide +kernel
theorem dX3_rebuiltByElimination_31 : decode cX3_rebuiltByElimination 31 = .ok (.invokevirtual 150, 3) := by decide +kernel
theorem dX3_rebuiltByElimination_34 : decode cX3_rebuiltByElimination 34 = .ok (.aload_n 0, 1) := by decide +kernel
theorem dX3_rebuiltByElimination_35 : decode cX3_rebuiltByElimination 35 = .ok (.getfield 39, 3) := by decide +kernel
theorem dX3_rebuiltByElimination_38 : decode cX3_rebuiltByElimination 38 = .ok (.iload_n 2, 1) := by decide +kernel
theorem dX3_rebuiltByElimination_39 : decode cX3_rebuiltByElimination 39 = .ok (.invokevirtual 153, 3) := by decide +kernel
theorem dX3_rebuiltByElimination_42 : decode cX3_rebuiltByElimination 42 = .ok (.ireturn, 1) := by decide +kernel
theorem dX3_isFieldNumber_0 : decode cX3_isFieldNumber 0 = .ok (.iload_n 0, 1) := by decide +kernel
theorem dX3_isFieldNumber_1 : decode cX3_isFieldNumber 1 = .ok (.ifCond .lt 14, 3) := by decide +kernel
theorem dX3_isFieldNumber_4 : decode cX3_isFieldNumber 4 = .ok (.iload_n 0, 1) := by decide +kernel
theorem dX3_isFieldNumber_5 : decode cX3_isFieldNumber 5 = .ok (.sipush 255, 3) := by decide +kernel
theorem dX3_isFieldNumber_8 : decode cX3_isFieldNumber 8 = .ok (.if_icmp .gt 7, 3) := by decide +kernel
theorem dX3_isFieldNumber_11 : decode cX3_isFieldNumber 11 = .ok (.iconst 1, 1) := by decide +kernel
theorem dX3_isFieldNumber_12 : decode cX3_isFieldNumber 12 = .ok (.goto 4, 3) := by decide +kernel
theorem dX3_isFieldNumber_15 : decode cX3_isFieldNumber 15 = .ok (.iconst 0, 1) := by decide +kernel
theorem dX3_isFieldNumber_16 : decode cX3_isFieldNumber 16 = .ok (.ireturn, 1) := by decide +kernel
theorem dX3_demandLosses_0 : decode cX3_demandLosses 0 = .ok (.iload_n 0, 1) := by decide +kernel
theorem dX3_demandLosses_1 : decode cX3_demandLosses 1 = .ok (.ifCond .lt 10, 3) := by decide +kernel
theorem dX3_demandLosses_4 : decode cX3_demandLosses 4 = .ok (.iload_n 0, 1) := by decide +kernel
theorem dX3_demandLosses_5 : decode cX3_demandLosses 5 = .ok (.sipush 2047, 3) := by decide +kernel
theorem dX3_demandLosses_8 : decode cX3_demandLosses 8 = .ok (.if_icmp .le 13, 3) := by decide +kernel
theorem dX3_demandLosses_11 : decode cX3_demandLosses 11 = .ok (.new 47, 3) := by decide +kernel
theorem dX3_demandLosses_14 : decode cX3_demandLosses 14 = .ok (.dup, 1) := by decide +kernel
theorem dX3_demandLosses_15 : decode cX3_demandLosses 15 = .ok (.ldc 154, 2) := by decide +kernel
theorem dX3_demandLosses_17 : decode cX3_demandLosses 17 = .ok (.invokespecial 51, 3) := by decide +kernel
theorem dX3_demandLosses_20 : decode cX3_demandLosses 20 = .ok (.athrow, 1) := by decide +kernel
theorem dX3_demandLosses_21 : decode cX3_demandLosses 21 = .ok (.return_, 1) := by decide +kernel
theorem dX3_demandWait_0 : decode cX3_demandWait 0 = .ok (.iload_n 0, 1) := by decide +kernel
theorem dX3_demandWait_1 : decode cX3_demandWait 1 = .ok (.ifCond .lt 9, 3) := by decide +kernel
theorem dX3_demandWait_4 : decode cX3_demandWait 4 = .ok (.iload_n 0, 1) := by decide +kernel
theorem dX3_demandWait_5 : decode cX3_demandWait 5 = .ok (.bipush 20, 2) := by decide +kernel
theorem dX3_demandWait_7 : decode cX3_demandWait 7 = .ok (.if_icmp .le 13, 3) := by decide +kernel
theorem dX3_demandWait_10 : decode cX3_demandWait 10 = .ok (.new 47, 3) := by decide +kernel
theorem dX3_demandWait_13 : decode cX3_demandWait 13 = .ok (.dup, 1) := by decide +kernel
theorem dX3_demandWait_14 : decode cX3_demandWait 14 = .ok (.ldc 156, 2) := by decide +kernel
theorem dX3_demandWait_16 : decode cX3_demandWait 16 = .ok (.invokespecial 51, 3) := by decide +kernel
theorem dX3_demandWait_19 : decode cX3_demandWait 19 = .ok (.athrow, 1) := by decide +kernel
theorem dX3_demandWait_20 : decode cX3_demandWait 20 = .ok (.return_, 1) := by decide +kernel
theorem dX3_demandReceiver_0 : decode cX3_demandReceiver 0 = .ok (.iload_n 1, 1) := by decide +kernel
theorem dX3_demandReceiver_1 : decode cX3_demandReceiver 1 = .ok (.ifCond .lt 11, 3) := by decide +kernel
theorem dX3_demandReceiver_4 : decode cX3_demandReceiver 4 = .ok (.iload_n 1, 1) := by decide +kernel
theorem dX3_demandReceiver_5 : decode cX3_demandReceiver 5 = .ok (.aload_n 0, 1) := by decide +kernel
theorem dX3_demandReceiver_6 : decode cX3_demandReceiver 6 = .ok (.getfield 84, 3) := by decide +kernel
theorem dX3_demandReceiver_9 : decode cX3_demandReceiver 9 = .ok (.if_icmp .lt 13, 3) := by decide +kernel
theorem dX3_demandReceiver_12 : decode cX3_demandReceiver 12 = .ok (.new 129, 3) := by decide +kernel
theorem dX3_demandReceiver_15 : decode cX3_demandReceiver 15 = .ok (.dup, 1) := by decide +kernel
theorem dX3_demandReceiver_16 : decode cX3_demandReceiver 16 = .ok (.ldc 158, 2) := by decide +kernel
theorem dX3_demandReceiver_18 : decode cX3_demandReceiver 18 = .ok (.invokespecial 133, 3) := by decide +kernel
theorem dX3_demandReceiver_21 : decode cX3_demandReceiver 21 = .ok (.athrow, 1) := by decide +kernel
theorem dX3_demandReceiver_22 : decode cX3_demandReceiver 22 = .ok (.return_, 1) := by decide +kernel
theorem dX3_demandPlace_0 : decode cX3_demandPlace 0 = .ok (.iload_n 1, 1) := by decide +kernel
theorem dX3_demandPlace_1 : decode cX3_demandPlace 1 = .ok (.ifCond .lt 14, 3) := by decide +kernel
theorem dX3_demandPlace_4 : decode cX3_demandPlace 4 = .ok (.iload_n 1, 1) := by decide +kernel
theorem dX3_demandPlace_5 : decode cX3_demandPlace 5 = .ok (.aload_n 0, 1) := by decide +kernel
theorem dX3_demandPlace_6 : decode cX3_demandPlace 6 = .ok (.getfield 10, 3) := by decide +kernel
theorem dX3_demandPlace_9 : decode cX3_demandPlace 9 = .ok (.getfield 160, 3) := by decide +kernel
theorem dX3_demandPlace_12 : decode cX3_demandPlace 12 = .ok (.if_icmp .lt 13, 3) := by decide +kernel
theorem dX3_demandPlace_15 : decode cX3_demandPlace 15 = .ok (.new 129, 3) := by decide +kernel
theorem dX3_demandPlace_18 : decode cX3_demandPlace 18 = .ok (.dup, 1) := by decide +kernel
theorem dX3_demandPlace_19 : decode cX3_demandPlace 19 = .ok (.ldc 163, 2) := by decide +kernel
theorem dX3_demandPlace_21 : decode cX3_demandPlace 21 = .ok (.invokespecial 133, 3) := by decide +kernel
theorem dX3_demandPlace_24 : decode cX3_demandPlace 24 = .ok (.athrow, 1) := by decide +kernel
theorem dX3_demandPlace_25 : decode cX3_demandPlace 25 = .ok (.return_, 1) := by decide +kernel
set_option maxRecDepth 20000 in
theorem ggX3_demandRebuilding_X3_demandReceiver : GoodIn wsX3_demandRebuilding wsX3_demandReceiver := goodIn_ca (goodIn_r _ [7, 8, 9, 10, 32, 33, 34, 35, 36, 37, 38, 39, 40, 41, 42, 43, 44] (by decide +kernel) (by decide +kernel)) (goodIn_sub (fun _ h => List.mem_cons_of_mem _ (List.mem_append_right _ h)) (by decide +kernel))
set_option maxRecDepth 20000 in
theorem gX3_demandRebuilding_X3_demandReceiver : GoodIn wsX3_demandRebuilding (wsV RX3 89 RX3 yX3_demandReceiver wsX3_demandReceiver) := goodIn_app (goodIn_of _ (by decide +kernel)) ggX3_demandRebuilding_X3_demandReceiver
set_option maxRecDepth 20000 in
theorem ggX3_demandRebuilding_X3_demandPlace : GoodIn wsX3_demandRebuilding wsX3_demandPlace := goodIn_ca (goodIn_r _ [14, 8, 9, 15, 32, 33, 34, 35, 36, 37, 38, 39, 40, 41, 42, 43, 44, 45, 46, 47] (by decide +kernel) (by decide +kernel)) (goodIn_sub (fun _ h => List.mem_cons_of_mem _ (List.mem_append_right _ h)) (by decide +kernel))
set_option maxRecDepth 20000 in
theorem gX3_demandRebuilding_X3_demandPlace : GoodIn wsX3_demandRebuilding (wsV RX3 60 RX3 yX3_demandPlace wsX3_demandPlace) := goodIn_app (goodIn_of _ (by decide +kernel)) ggX3_demandRebuilding_X3_demandPlace
set_option maxRecDepth 20000 in
theorem ggX3_demandRebuilding_X3_needOf : GoodIn wsX3_demandRebuilding wsX3_needOf := goodIn_r _ [19, 15, 20, 21, 22, 23, 24, 25, 26, 27, 28, 29, 30, 31, 32, 33, 34, 35, 36, 37, 38, 39, 40, 41, 42, 43, 44, 45, 46, 47] (by decide +kernel) (by decide +kernel)
set_option maxRecDepth 20000 in
theorem gX3_demandRebuilding_X3_needOf : GoodIn wsX3_demandRebuilding (wsV RX3 117 RX3 yX3_needOf wsX3_needOf) := goodIn_app (goodIn_of _ (by decide +kernel)) ggX3_demandRebuilding_X3_needOf
theorem dX3_demandRebuilding_0 : decode cX3_demandRebuilding 0 = .ok (.aload_n 0, 1) := by decide +kernel
theorem dX3_demandRebuilding_1 : decode cX3_demandRebuilding 1 = .ok (.iload_n 1, 1) := by decide +kernel
theorem dX3_demandRebuilding_2 : decode cX3_demandRebuilding 2 = .ok (.invokevirtual 89, 3) := by decide +kernel
theorem dX3_demandRebuilding_5 : decode cX3_demandRebuilding 5 = .ok (.aload_n 0, 1) := by decide +kernel
theorem dX3_demandRebuilding_6 : decode cX3_demandRebuilding 6 = .ok (.iload_n 2, 1) := by decide +kernel
theorem dX3_demandRebuilding_7 : decode cX3_demandRebuilding 7 = .ok (.invokevirtual 60, 3) := by decide +kernel
theorem dX3_demandRebuilding_10 : decode cX3_demandRebuilding 10 = .ok (.aload_n 0, 1) := by decide +kernel
theorem dX3_demandRebuilding_11 : decode cX3_demandRebuilding 11 = .ok (.iload_n 1, 1) := by decide +kernel
theorem dX3_demandRebuilding_12 : decode cX3_demandRebuilding 12 = .ok (.invokevirtual 117, 3) := by decide +kernel
theorem dX3_demandRebuilding_15 : decode cX3_demandRebuilding 15 = .ok (.ifCond .le 13, 3) := by decide +kernel
theorem dX3_demandRebuilding_18 : decode cX3_demandRebuilding 18 = .ok (.new 70, 3) := by decide +kernel
theorem dX3_demandRebuilding_21 : decode cX3_demandRebuilding 21 = .ok (.dup, 1) := by decide +kernel
theorem dX3_demandRebuilding_22 : decode cX3_demandRebuilding 22 = .ok (.ldc 165, 2) := by decide +kernel
theorem dX3_demandRebuilding_24 : decode cX3_demandRebuilding 24 = .ok (.invokespecial 74, 3) := by decide +kernel
theorem dX3_demandRebuilding_27 : decode cX3_demandRebuilding 27 = .ok (.athrow, 1) := by decide +kernel
theorem dX3_demandRebuilding_28 : decode cX3_demandRebuilding 28 = .ok (.return_, 1) := by decide +kernel
set_option maxRecDepth 20000 in
theorem ggX3_startBlock_X2_clear : GoodIn wsX3_startBlock wsX2_clear := goodIn_r _ [10, 11, 30, 31, 32] (by decide +kernel) (by decide +kernel)
set_option maxRecDepth 20000 in
theorem gX3_startBlock_X2_clear_n167 : GoodIn wsX3_startBlock (wsX2_clear) := ggX3_startBlock_X2_clear
set_option maxRecDepth 20000 in
theorem ggX3_startBlock_X2_add : GoodIn wsX3_startBlock wsX2_add := goodIn_r _ [14, 11, 15, 16, 30, 31, 32] (by decide +kernel) (by decide +kernel)
set_option maxRecDepth 20000 in
theorem gX3_startBlock_X2_add_n170 : GoodIn wsX3_startBlock (wsX2_add) := ggX3_startBlock_X2_add
theorem dX3_startBlock_0 : decode cX3_startBlock 0 = .ok (.aload_n 0, 1) := by decide +kernel
theorem dX3_startBlock_1 : decode cX3_startBlock 1 = .ok (.getfield 10, 3) := by decide +kernel
theorem dX3_startBlock_4 : decode cX3_startBlock 4 = .ok (.invokevirtual 167, 3) := by decide +kernel
theorem dX3_startBlock_7 : decode cX3_startBlock 7 = .ok (.iconst 0, 1) := by decide +kernel
theorem dX3_startBlock_8 : decode cX3_startBlock 8 = .ok (.istore_n 3, 1) := by decide +kernel
theorem dX3_startBlock_9 : decode cX3_startBlock 9 = .ok (.iload_n 3, 1) := by decide +kernel
theorem dX3_startBlock_10 : decode cX3_startBlock 10 = .ok (.iload_n 1, 1) := by decide +kernel
theorem dX3_startBlock_11 : decode cX3_startBlock 11 = .ok (.if_icmp .ge 18, 3) := by decide +kernel
theorem dX3_startBlock_14 : decode cX3_startBlock 14 = .ok (.aload_n 0, 1) := by decide +kernel
theorem dX3_startBlock_15 : decode cX3_startBlock 15 = .ok (.getfield 10, 3) := by decide +kernel
theorem dX3_startBlock_18 : decode cX3_startBlock 18 = .ok (.iload_n 3, 1) := by decide +kernel
theorem dX3_startBlock_19 : decode cX3_startBlock 19 = .ok (.iconst 0, 1) := by decide +kernel
theorem dX3_startBlock_20 : decode cX3_startBlock 20 = .ok (.invokevirtual 170, 3) := by decide +kernel
theorem dX3_startBlock_23 : decode cX3_startBlock 23 = .ok (.iinc 3 1, 3) := by decide +kernel
theorem dX3_startBlock_26 : decode cX3_startBlock 26 = .ok (.goto (-17), 3) := by decide +kernel
theorem dX3_startBlock_29 : decode cX3_startBlock 29 = .ok (.aload_n 0, 1) := by decide +kernel
theorem dX3_startBlock_30 : decode cX3_startBlock 30 = .ok (.iload_n 2, 1) := by decide +kernel
theorem dX3_startBlock_31 : decode cX3_startBlock 31 = .ok (.putfield 173, 3) := by decide +kernel
theorem dX3_startBlock_34 : decode cX3_startBlock 34 = .ok (.aload_n 0, 1) := by decide +kernel
theorem dX3_startBlock_35 : decode cX3_startBlock 35 = .ok (.iconst 0, 1) := by decide +kernel
theorem dX3_startBlock_36 : decode cX3_startBlock 36 = .ok (.putfield 84, 3) := by decide +kernel
theorem dX3_startBlock_39 : decode cX3_startBlock 39 = .ok (.aload_n 0, 1) := by decide +kernel
theorem dX3_startBlock_40 : decode cX3_startBlock 40 = .ok (.iconst 0, 1) := by decide +kernel
theorem dX3_startBlock_41 : decode cX3_startBlock 41 = .ok (.putfield 56, 3) := by decide +kernel
theorem dX3_startBlock_44 : decode cX3_startBlock 44 = .ok (.aload_n 0, 1) := by decide +kernel
theorem dX3_startBlock_45 : decode cX3_startBlock 45 = .ok (.iconst 0, 1) := by decide +kernel
theorem dX3_startBlock_46 : decode cX3_startBlock 46 = .ok (.putfield 111, 3) := by decide +kernel
theorem dX3_startBlock_49 : decode cX3_startBlock 49 = .ok (.aload_n 0, 1) := by decide +kernel
theorem dX3_startBlock_50 : decode cX3_startBlock 50 = .ok (.iconst 0, 1) := by decide +kernel
theorem dX3_startBlock_51 : decode cX3_startBlock 51 = .ok (.putfield 114, 3) := by decide +kernel
theorem dX3_startBlock_54 : decode cX3_startBlock 54 = .ok (.return_, 1) := by decide +kernel
set_option maxRecDepth 20000 in
theorem ggX3_needOf_J6_bitCount_0f7a4 : GoodIn wsX3_needOf wsJ6_bitCount_0f7a4 := goodIn_r _ [10, 11, 12, 13] (by decide +kernel) (by decide +kernel)
set_option maxRecDepth 20000 in
theorem gX3_needOf_J6_bitCount_0f7a4 : GoodIn wsX3_needOf (va_wsS RX3 176 yJ6_bitCount_0f7a4 wsJ6_bitCount_0f7a4) := goodIn_app (goodIn_of _ (by decide +kernel)) ggX3_needOf_J6_bitCount_0f7a4
theorem dX3_needOf_0 : decode cX3_needOf 0 = .ok (.iconst 0, 1) := by decide +kernel
theorem dX3_needOf_1 : decode cX3_needOf 1 = .ok (.aload_n 0, 1) := by decide +kernel
theorem dX3_needOf_2 : decode cX3_needOf 2 = .ok (.getfield 10, 3) := by decide +kernel
theorem dX3_needOf_5 : decode cX3_needOf 5 = .ok (.getfield 160, 3) := by decide +kernel
theorem dX3_needOf_8 : decode cX3_needOf 8 = .ok (.aload_n 0, 1) := by decide +kernel
theorem dX3_needOf_9 : decode cX3_needOf 9 = .ok (.getfield 23, 3) := by decide +kernel
theorem dX3_needOf_12 : decode cX3_needOf 12 = .ok (.iload_n 1, 1) := by decide +kernel
theorem dX3_needOf_13 : decode cX3_needOf 13 = .ok (.iaload, 1) := by decide +kernel
theorem dX3_needOf_14 : decode cX3_needOf 14 = .ok (.invokestatic 176, 3) := by decide +kernel
theorem dX3_needOf_17 : decode cX3_needOf 17 = .ok (.isub, 1) := by decide +kernel
theorem dX3_needOf_18 : decode cX3_needOf 18 = .ok (.invokestatic 181, 3) := by decide +kernel
theorem dX3_needOf_21 : decode cX3_needOf 21 = .ok (.ireturn, 1) := by decide +kernel
set_option maxRecDepth 20000 in
theorem ggX3_isLiveAndLacks_X3_needOf : GoodIn wsX3_isLiveAndLacks wsX3_needOf := goodIn_r _ [6, 7, 8, 9, 10, 11, 12, 13, 14, 15, 16, 17, 18, 19, 20, 21, 22, 23, 24, 25, 26, 27, 28, 29, 30, 31, 32, 33, 34, 35] (by decide +kernel) (by decide +kernel)
set_option maxRecDepth 20000 in
theorem gX3_isLiveAndLacks_X3_needOf : GoodIn wsX3_isLiveAndLacks (wsV RX3 117 RX3 yX3_needOf wsX3_needOf) := goodIn_app (goodIn_of _ (by decide +kernel)) ggX3_isLiveAndLacks_X3_needOf
theorem dX3_isLiveAndLacks_0 : decode cX3_isLiveAndLacks 0 = .ok (.aload_n 0, 1) := by decide +kernel
theorem dX3_isLiveAndLacks_1 : decode cX3_isLiveAndLacks 1 = .ok (.getfield 29, 3) := by decide +kernel
theorem dX3_isLiveAndLacks_4 : decode cX3_isLiveAndLacks 4 = .ok (.iload_n 1, 1) := by decide +kernel
theorem dX3_isLiveAndLacks_5 : decode cX3_isLiveAndLacks 5 = .ok (.baload, 1) := by decide +kernel
theorem dX3_isLiveAndLacks_6 : decode cX3_isLiveAndLacks 6 = .ok (.ifCond .ne 15, 3) := by decide +kernel
theorem dX3_isLiveAndLacks_9 : decode cX3_isLiveAndLacks 9 = .ok (.aload_n 0, 1) := by decide +kernel
theorem dX3_isLiveAndLacks_10 : decode cX3_isLiveAndLacks 10 = .ok (.iload_n 1, 1) := by decide +kernel
theorem dX3_isLiveAndLacks_11 : decode cX3_isLiveAndLacks 11 = .ok (.invokevirtual 117, 3) := by decide +kernel
theorem dX3_isLiveAndLacks_14 : decode cX3_isLiveAndLacks 14 = .ok (.ifCond .le 7, 3) := by decide +kernel
theorem dX3_isLiveAndLacks_17 : decode cX3_isLiveAndLacks 17 = .ok (.iconst 1, 1) := by decide +kernel
theorem dX3_isLiveAndLacks_18 : decode cX3_isLiveAndLacks 18 = .ok (.goto 4, 3) := by decide +kernel
theorem dX3_isLiveAndLacks_21 : decode cX3_isLiveAndLacks 21 = .ok (.iconst 0, 1) := by decide +kernel
theorem dX3_isLiveAndLacks_22 : decode cX3_isLiveAndLacks 22 = .ok (.ireturn, 1) := by decide +kernel
set_option maxRecDepth 20000 in
theorem ggX3_completeCount_X3_needOf : GoodIn wsX3_completeCount wsX3_needOf := goodIn_r _ [7, 8, 9, 10, 11, 12, 13, 14, 15, 16, 17, 18, 19, 20, 21, 22, 23, 24, 25, 26, 27, 28, 29, 30, 31, 32, 33, 34, 35, 36] (by decide +kernel) (by decide +kernel)
set_option maxRecDepth 20000 in
theorem gX3_completeCount_X3_needOf : GoodIn wsX3_completeCount (wsV RX3 117 RX3 yX3_needOf wsX3_needOf) := goodIn_app (goodIn_of _ (by decide +kernel)) ggX3_completeCount_X3_needOf
theorem dX3_completeCount_0 : decode cX3_completeCount 0 = .ok (.iconst 0, 1) := by decide +kernel
theorem dX3_completeCount_1 : decode cX3_completeCount 1 = .ok (.istore_n 1, 1) := by decide +kernel
theorem dX3_completeCount_2 : decode cX3_completeCount 2 = .ok (.iconst 0, 1) := by decide +kernel
theorem dX3_completeCount_3 : decode cX3_completeCount 3 = .ok (.istore_n 2, 1) := by decide +kernel
theorem dX3_completeCount_4 : decode cX3_completeCount 4 = .ok (.iload_n 2, 1) := by decide +kernel
theorem dX3_completeCount_5 : decode cX3_completeCount 5 = .ok (.aload_n 0, 1) := by decide +kernel
theorem dX3_completeCount_6 : decode cX3_completeCount 6 = .ok (.getfield 84, 3) := by decide +kernel
theorem dX3_completeCount_9 : decode cX3_completeCount 9 = .ok (.if_icmp .ge 29, 3) := by decide +kernel
theorem dX3_completeCount_12 : decode cX3_completeCount 12 = .ok (.aload_n 0, 1) := by decide +kernel
theorem dX3_completeCount_13 : decode cX3_completeCount 13 = .ok (.getfield 29, 3) := by decide +kernel
theorem dX3_completeCount_16 : decode cX3_completeCount 16 = .ok (.iload_n 2, 1) := by decide +kernel
theorem dX3_completeCount_17 : decode cX3_completeCount 17 = .ok (.baload, 1) := by decide +kernel
theorem dX3_completeCount_18 : decode cX3_completeCount 18 = .ok (.ifCond .ne 14, 3) := by decide +kernel
theorem dX3_completeCount_21 : decode cX3_completeCount 21 = .ok (.aload_n 0, 1) := by decide +kernel
theorem dX3_completeCount_22 : decode cX3_completeCount 22 = .ok (.iload_n 2, 1) := by decide +kernel
theorem dX3_completeCount_23 : decode cX3_completeCount 23 = .ok (.invokevirtual 117, 3) := by decide +kernel
theorem dX3_completeCount_26 : decode cX3_completeCount 26 = .ok (.ifCond .ne 6, 3) := by decide +kernel
theorem dX3_completeCount_29 : decode cX3_completeCount 29 = .ok (.iinc 1 1, 3) := by decide +kernel
theorem dX3_completeCount_32 : decode cX3_completeCount 32 = .ok (.iinc 2 1, 3) := by decide +kernel
theorem dX3_completeCount_35 : decode cX3_completeCount 35 = .ok (.goto (-31), 3) := by decide +kernel
theorem dX3_completeCount_38 : decode cX3_completeCount 38 = .ok (.iload_n 1, 1) := by decide +kernel
theorem dX3_completeCount_39 : decode cX3_completeCount 39 = .ok (.ireturn, 1) := by decide +kernel
set_option maxRecDepth 20000 in
theorem ggX3_sendPackets_X3_sendNextPacket : GoodIn wsX3_sendPackets wsX3_sendNextPacket := goodIn_r _ [5, 6, 7, 8, 9, 10, 11, 12, 13, 14, 15, 16, 17, 18, 19, 20, 21, 22, 23] (by decide +kernel) (by decide +kernel)
set_option maxRecDepth 20000 in
theorem gX3_sendPackets_X3_sendNextPacket : GoodIn wsX3_sendPackets (wsV RX3 186 RX3 yX3_sendNextPacket wsX3_sendNextPacket) := goodIn_app (goodIn_of _ (by decide +kernel)) ggX3_sendPackets_X3_sendNextPacket
theorem dX3_sendPackets_0 : decode cX3_sendPackets 0 = .ok (.iconst 0, 1) := by decide +kernel
theorem dX3_sendPackets_1 : decode cX3_sendPackets 1 = .ok (.istore_n 2, 1) := by decide +kernel
theorem dX3_sendPackets_2 : decode cX3_sendPackets 2 = .ok (.iload_n 2, 1) := by decide +kernel
theorem dX3_sendPackets_3 : decode cX3_sendPackets 3 = .ok (.iload_n 1, 1) := by decide +kernel
theorem dX3_sendPackets_4 : decode cX3_sendPackets 4 = .ok (.if_icmp .ge 13, 3) := by decide +kernel
theorem dX3_sendPackets_7 : decode cX3_sendPackets 7 = .ok (.aload_n 0, 1) := by decide +kernel
theorem dX3_sendPackets_8 : decode cX3_sendPackets 8 = .ok (.invokevirtual 186, 3) := by decide +kernel
theorem dX3_sendPackets_11 : decode cX3_sendPackets 11 = .ok (.iinc 2 1, 3) := by decide +kernel
theorem dX3_sendPackets_14 : decode cX3_sendPackets 14 = .ok (.goto (-12), 3) := by decide +kernel
theorem dX3_sendPackets_17 : decode cX3_sendPackets 17 = .ok (.return_, 1) := by decide +kernel
theorem dX3_sendNextPacket_0 : decode cX3_sendNextPacket 0 = .ok (.iconst 1, 1) := by decide +kernel
theorem dX3_sendNextPacket_1 : decode cX3_sendNextPacket 1 = .ok (.aload_n 0, 1) := by decide +kernel
theorem dX3_sendNextPacket_2 : decode cX3_sendNextPacket 2 = .ok (.getfield 56, 3) := by decide +kernel
theorem dX3_sendNextPacket_5 : decode cX3_sendNextPacket 5 = .ok (.bipush 16, 2) := by decide +kernel
theorem dX3_sendNextPacket_7 : decode cX3_sendNextPacket 7 = .ok (.irem, 1) := by decide +kernel
theorem dX3_sendNextPacket_8 : decode cX3_sendNextPacket 8 = .ok (.ishl, 1) := by decide +kernel
theorem dX3_sendNextPacket_9 : decode cX3_sendNextPacket 9 = .ok (.istore_n 1, 1) := by decide +kernel
theorem dX3_sendNextPacket_10 : decode cX3_sendNextPacket 10 = .ok (.iconst 1, 1) := by decide +kernel
theorem dX3_sendNextPacket_11 : decode cX3_sendNextPacket 11 = .ok (.aload_n 0, 1) := by decide +kernel
theorem dX3_sendNextPacket_12 : decode cX3_sendNextPacket 12 = .ok (.getfield 56, 3) := by decide +kernel
theorem dX3_sendNextPacket_15 : decode cX3_sendNextPacket 15 = .ok (.bipush 11, 2) := by decide +kernel
theorem dX3_sendNextPacket_17 : decode cX3_sendNextPacket 17 = .ok (.irem, 1) := by decide +kernel
theorem dX3_sendNextPacket_18 : decode cX3_sendNextPacket 18 = .ok (.ishl, 1) := by decide +kernel
theorem dX3_sendNextPacket_19 : decode cX3_sendNextPacket 19 = .ok (.istore_n 2, 1) := by decide +kernel
theorem dX3_sendNextPacket_20 : decode cX3_sendNextPacket 20 = .ok (.iconst 0, 1) := by decide +kernel
theorem dX3_sendNextPacket_21 : decode cX3_sendNextPacket 21 = .ok (.istore_n 3, 1) := by decide +kernel
theorem dX3_sendNextPacket_22 : decode cX3_sendNextPacket 22 = .ok (.iload_n 3, 1) := by decide +kernel
theorem dX3_sendNextPacket_23 : decode cX3_sendNextPacket 23 = .ok (.aload_n 0, 1) := by decide +kernel
theorem dX3_sendNextPacket_24 : decode cX3_sendNextPacket 24 = .ok (.getfield 84, 3) := by decide +kernel
theorem dX3_sendNextPacket_27 : decode cX3_sendNextPacket 27 = .ok (.if_icmp .ge 39, 3) := by decide +kernel
theorem dX3_sendNextPacket_30 : decode cX3_sendNextPacket 30 = .ok (.aload_n 0, 1) := by decide +kernel
theorem dX3_sendNextPacket_31 : decode cX3_sendNextPacket 31 = .ok (.getfield 29, 3) := by decide +kernel
theorem dX3_sendNextPacket_34 : decode cX3_sendNextPacket 34 = .ok (.iload_n 3, 1) := by decide +kernel
theorem dX3_sendNextPacket_35 : decode cX3_sendNextPacket 35 = .ok (.baload, 1) := by decide +kernel
theorem dX3_sendNextPacket_36 : decode cX3_sendNextPacket 36 = .ok (.ifCond .ne 24, 3) := by decide +kernel
theorem dX3_sendNextPacket_39 : decode cX3_sendNextPacket 39 = .ok (.aload_n 0, 1) := by decide +kernel
theorem dX3_sendNextPacket_40 : decode cX3_sendNextPacket 40 = .ok (.getfield 16, 3) := by decide +kernel
theorem dX3_sendNextPacket_43 : decode cX3_sendNextPacket 43 = .ok (.iload_n 3, 1) := by decide +kernel
theorem dX3_sendNextPacket_44 : decode cX3_sendNextPacket 44 = .ok (.iaload, 1) := by decide +kernel
theorem dX3_sendNextPacket_45 : decode cX3_sendNextPacket 45 = .ok (.iload_n 2, 1) := by decide +kernel
theorem dX3_sendNextPacket_46 : decode cX3_sendNextPacket 46 = .ok (.iand, 1) := by decide +kernel
theorem dX3_sendNextPacket_47 : decode cX3_sendNextPacket 47 = .ok (.ifCond .ne 13, 3) := by decide +kernel
theorem dX3_sendNextPacket_50 : decode cX3_sendNextPacket 50 = .ok (.aload_n 0, 1) := by decide +kernel
theorem dX3_sendNextPacket_51 : decode cX3_sendNextPacket 51 = .ok (.getfield 23, 3) := by decide +kernel
theorem dX3_sendNextPacket_54 : decode cX3_sendNextPacket 54 = .ok (.iload_n 3, 1) := by decide +kernel
theorem dX3_sendNextPacket_55 : decode cX3_sendNextPacket 55 = .ok (.dup2, 1) := by decide +kernel
theorem dX3_sendNextPacket_56 : decode cX3_sendNextPacket 56 = .ok (.iaload, 1) := by decide +kernel
theorem dX3_sendNextPacket_57 : decode cX3_sendNextPacket 57 = .ok (.iload_n 1, 1) := by decide +kernel
theorem dX3_sendNextPacket_58 : decode cX3_sendNextPacket 58 = .ok (.ior, 1) := by decide +kernel
theorem dX3_sendNextPacket_59 : decode cX3_sendNextPacket 59 = .ok (.iastore, 1) := by decide +kernel
theorem dX3_sendNextPacket_60 : decode cX3_sendNextPacket 60 = .ok (.iinc 3 1, 3) := by decide +kernel
theorem dX3_sendNextPacket_63 : decode cX3_sendNextPacket 63 = .ok (.goto (-41), 3) := by decide +kernel
theorem dX3_sendNextPacket_66 : decode cX3_sendNextPacket 66 = .ok (.aload_n 0, 1) := by decide +kernel
theorem dX3_sendNextPacket_67 : decode cX3_sendNextPacket 67 = .ok (.dup, 1) := by decide +kernel
theorem dX3_sendNextPacket_68 : decode cX3_sendNextPacket 68 = .ok (.getfield 56, 3) := by decide +kernel
theorem dX3_sendNextPacket_71 : decode cX3_sendNextPacket 71 = .ok (.iconst 1, 1) := by decide +kernel
theorem dX3_sendNextPacket_72 : decode cX3_sendNextPacket 72 = .ok (.iadd, 1) := by decide +kernel
theorem dX3_sendNextPacket_73 : decode cX3_sendNextPacket 73 = .ok (.putfield 56, 3) := by decide +kernel
theorem dX3_sendNextPacket_76 : decode cX3_sendNextPacket 76 = .ok (.return_, 1) := by decide +kernel
set_option maxRecDepth 20000 in
theorem ggX3_hearReports_X3_hearReportsAt : GoodIn wsX3_hearReports wsX3_hearReportsAt := goodIn_r _ [5, 6, 7, 8, 9, 10, 11, 12, 13, 14, 15, 16, 4, 17, 18, 19, 20, 21, 22, 23, 24, 25, 26, 27, 28, 29, 30, 31, 32, 33, 34, 35, 36, 37, 38, 39, 40, 41, 42, 43, 44, 45, 46, 47] (by decide +kernel) (by decide +kernel)
set_option maxRecDepth 20000 in
theorem gX3_hearReports_X3_hearReportsAt : GoodIn wsX3_hearReports (wsV RX3 189 RX3 yX3_hearReportsAt wsX3_hearReportsAt) := goodIn_app (goodIn_of _ (by decide +kernel)) ggX3_hearReports_X3_hearReportsAt
theorem dX3_hearReports_0 : decode cX3_hearReports 0 = .ok (.iconst 0, 1) := by decide +kernel
theorem dX3_hearReports_1 : decode cX3_hearReports 1 = .ok (.istore_n 1, 1) := by decide +kernel
theorem dX3_hearReports_2 : decode cX3_hearReports 2 = .ok (.iconst 0, 1) := by decide +kernel
theorem dX3_hearReports_3 : decode cX3_hearReports 3 = .ok (.istore_n 2, 1) := by decide +kernel
theorem dX3_hearReports_4 : decode cX3_hearReports 4 = .ok (.iload_n 2, 1) := by decide +kernel
theorem dX3_hearReports_5 : decode cX3_hearReports 5 = .ok (.bipush 20, 2) := by decide +kernel
theorem dX3_hearReports_7 : decode cX3_hearReports 7 = .ok (.if_icmp .gt 16, 3) := by decide +kernel
theorem dX3_hearReports_10 : decode cX3_hearReports 10 = .ok (.aload_n 0, 1) := by decide +kernel
theorem dX3_hearReports_11 : decode cX3_hearReports 11 = .ok (.iload_n 2, 1) := by decide +kernel
theorem dX3_hearReports_12 : decode cX3_hearReports 12 = .ok (.iload_n 1, 1) := by decide +kernel
theorem dX3_hearReports_13 : decode cX3_hearReports 13 = .ok (.invokevirtual 189, 3) := by decide +kernel
theorem dX3_hearReports_16 : decode cX3_hearReports 16 = .ok (.istore_n 1, 1) := by decide +kernel
theorem dX3_hearReports_17 : decode cX3_hearReports 17 = .ok (.iinc 2 1, 3) := by decide +kernel
theorem dX3_hearReports_20 : decode cX3_hearReports 20 = .ok (.goto (-16), 3) := by decide +kernel
theorem dX3_hearReports_23 : decode cX3_hearReports 23 = .ok (.iload_n 1, 1) := by decide +kernel
theorem dX3_hearReports_24 : decode cX3_hearReports 24 = .ok (.ireturn, 1) := by decide +kernel
set_option maxRecDepth 20000 in
theorem ggX3_hearReportsAt_X3_isLiveAndLacks : GoodIn wsX3_hearReportsAt wsX3_isLiveAndLacks := goodIn_r _ [13, 14, 15, 16, 17, 12, 18, 19, 20, 4, 5, 6, 7, 21, 22, 23, 24, 25, 26, 27, 28, 29, 30, 31, 32, 33, 34, 35, 36, 37, 38, 39, 40, 41, 42, 43] (by decide +kernel) (by decide +kernel)
set_option maxRecDepth 20000 in
theorem gX3_hearReportsAt_X3_isLiveAndLacks : GoodIn wsX3_hearReportsAt (wsV RX3 192 RX3 yX3_isLiveAndLacks wsX3_isLiveAndLacks) := goodIn_app (goodIn_of _ (by decide +kernel)) ggX3_hearReportsAt_X3_isLiveAndLacks
set_option maxRecDepth 20000 in
theorem ggX3_hearReportsAt_X3_needOf : GoodIn wsX3_hearReportsAt wsX3_needOf := goodIn_r _ [18, 19, 20, 4, 5, 6, 7, 21, 22, 23, 24, 25, 26, 27, 28, 29, 30, 31, 32, 33, 34, 35, 36, 37, 38, 39, 40, 41, 42, 43] (by decide +kernel) (by decide +kernel)
set_option maxRecDepth 20000 in
theorem gX3_hearReportsAt_X3_needOf : GoodIn wsX3_hearReportsAt (wsV RX3 117 RX3 yX3_needOf wsX3_needOf) := goodIn_app (goodIn_of _ (by decide +kernel)) ggX3_hearReportsAt_X3_needOf
theorem dX3_hearReportsAt_0 : decode cX3_hearReportsAt 0 = .ok (.iload_n 2, 1) := by decide +kernel
theorem dX3_hearReportsAt_1 : decode cX3_hearReportsAt 1 = .ok (.istore_n 3, 1) := by decide +kernel
theorem dX3_hearReportsAt_2 : decode cX3_hearReportsAt 2 = .ok (.iconst 0, 1) := by decide +kernel
theorem dX3_hearReportsAt_3 : decode cX3_hearReportsAt 3 = .ok (.istore 4, 2) := by decide +kernel
theorem dX3_hearReportsAt_5 : decode cX3_hearReportsAt 5 = .ok (.iload 4, 2) := by decide +kernel
theorem dX3_hearReportsAt_7 : decode cX3_hearReportsAt 7 = .ok (.aload_n 0, 1) := by decide +kernel
theorem dX3_hearReportsAt_8 : decode cX3_hearReportsAt 8 = .ok (.getfield 84, 3) := by decide +kernel
theorem dX3_hearReportsAt_11 : decode cX3_hearReportsAt 11 = .ok (.if_icmp .ge 73, 3) := by decide +kernel
theorem dX3_hearReportsAt_14 : decode cX3_hearReportsAt 14 = .ok (.aload_n 0, 1) := by decide +kernel
theorem dX3_hearReportsAt_15 : decode cX3_hearReportsAt 15 = .ok (.getfield 20, 3) := by decide +kernel
theorem dX3_hearReportsAt_18 : decode cX3_hearReportsAt 18 = .ok (.iload 4, 2) := by decide +kernel
theorem dX3_hearReportsAt_20 : decode cX3_hearReportsAt 20 = .ok (.iaload, 1) := by decide +kernel
theorem dX3_hearReportsAt_21 : decode cX3_hearReportsAt 21 = .ok (.iload_n 1, 1) := by decide +kernel
theorem dX3_hearReportsAt_22 : decode cX3_hearReportsAt 22 = .ok (.if_icmp .ne 56, 3) := by decide +kernel
theorem dX3_hearReportsAt_25 : decode cX3_hearReportsAt 25 = .ok (.aload_n 0, 1) := by decide +kernel
theorem dX3_hearReportsAt_26 : decode cX3_hearReportsAt 26 = .ok (.iload 4, 2) := by decide +kernel
theorem dX3_hearReportsAt_28 : decode cX3_hearReportsAt 28 = .ok (.invokevirtual 192, 3) := by decide +kernel
theorem dX3_hearReportsAt_31 : decode cX3_hearReportsAt 31 = .ok (.ifCond .eq 47, 3) := by decide +kernel
theorem dX3_hearReportsAt_34 : decode cX3_hearReportsAt 34 = .ok (.aload_n 0, 1) := by decide +kernel
theorem dX3_hearReportsAt_35 : decode cX3_hearReportsAt 35 = .ok (.iload 4, 2) := by decide +kernel
theorem dX3_hearReportsAt_37 : decode cX3_hearReportsAt 37 = .ok (.invokevirtual 117, 3) := by decide +kernel
theorem dX3_hearReportsAt_40 : decode cX3_hearReportsAt 40 = .ok (.istore 5, 2) := by decide +kernel
theorem dX3_hearReportsAt_42 : decode cX3_hearReportsAt 42 = .ok (.iload 5, 2) := by decide +kernel
theorem dX3_hearReportsAt_44 : decode cX3_hearReportsAt 44 = .ok (.iload_n 2, 1) := by decide +kernel
theorem dX3_hearReportsAt_45 : decode cX3_hearReportsAt 45 = .ok (.if_icmp .le 23, 3) := by decide +kernel
theorem dX3_hearReportsAt_48 : decode cX3_hearReportsAt 48 = .ok (.aload_n 0, 1) := by decide +kernel
theorem dX3_hearReportsAt_49 : decode cX3_hearReportsAt 49 = .ok (.dup, 1) := by decide +kernel
theorem dX3_hearReportsAt_50 : decode cX3_hearReportsAt 50 = .ok (.getfield 111, 3) := by decide +kernel
theorem dX3_hearReportsAt_53 : decode cX3_hearReportsAt 53 = .ok (.iconst 1, 1) := by decide +kernel
theorem dX3_hearReportsAt_54 : decode cX3_hearReportsAt 54 = .ok (.iadd, 1) := by decide +kernel
theorem dX3_hearReportsAt_55 : decode cX3_hearReportsAt 55 = .ok (.putfield 111, 3) := by decide +kernel
theorem dX3_hearReportsAt_58 : decode cX3_hearReportsAt 58 = .ok (.iload_n 3, 1) := by decide +kernel
theorem dX3_hearReportsAt_59 : decode cX3_hearReportsAt 59 = .ok (.iload 5, 2) := by decide +kernel
theorem dX3_hearReportsAt_61 : decode cX3_hearReportsAt 61 = .ok (.invokestatic 181, 3) := by decide +kernel
theorem dX3_hearReportsAt_64 : decode cX3_hearReportsAt 64 = .ok (.istore_n 3, 1) := by decide +kernel
theorem dX3_hearReportsAt_65 : decode cX3_hearReportsAt 65 = .ok (.goto 13, 3) := by decide +kernel
theorem dX3_hearReportsAt_68 : decode cX3_hearReportsAt 68 = .ok (.aload_n 0, 1) := by decide +kernel
theorem dX3_hearReportsAt_69 : decode cX3_hearReportsAt 69 = .ok (.dup, 1) := by decide +kernel
theorem dX3_hearReportsAt_70 : decode cX3_hearReportsAt 70 = .ok (.getfield 114, 3) := by decide +kernel
theorem dX3_hearReportsAt_73 : decode cX3_hearReportsAt 73 = .ok (.iconst 1, 1) := by decide +kernel
theorem dX3_hearReportsAt_74 : decode cX3_hearReportsAt 74 = .ok (.iadd, 1) := by decide +kernel
theorem dX3_hearReportsAt_75 : decode cX3_hearReportsAt 75 = .ok (.putfield 114, 3) := by decide +kernel
theorem dX3_hearReportsAt_78 : decode cX3_hearReportsAt 78 = .ok (.iinc 4 1, 3) := by decide +kernel
theorem dX3_hearReportsAt_81 : decode cX3_hearReportsAt 81 = .ok (.goto (-76), 3) := by decide +kernel
theorem dX3_hearReportsAt_84 : decode cX3_hearReportsAt 84 = .ok (.iload_n 3, 1) := by decide +kernel
theorem dX3_hearReportsAt_85 : decode cX3_hearReportsAt 85 = .ok (.ireturn, 1) := by decide +kernel
set_option maxRecDepth 20000 in
theorem ggX3_countBadRounds_X3_isLiveAndLacks : GoodIn wsX3_countBadRounds wsX3_isLiveAndLacks := goodIn_r _ [9, 3, 10, 11, 12, 8, 13, 14, 15, 16, 17, 18, 19, 20, 21, 22, 23, 24, 25, 26, 27, 28, 29, 30, 31, 32, 33, 34, 35, 36, 37, 38, 39, 40, 41, 42] (by decide +kernel) (by decide +kernel)
set_option maxRecDepth 20000 in
theorem gX3_countBadRounds_X3_isLiveAndLacks : GoodIn wsX3_countBadRounds (wsV RX3 192 RX3 yX3_isLiveAndLacks wsX3_isLiveAndLacks) := goodIn_app (goodIn_of _ (by decide +kernel)) ggX3_countBadRounds_X3_isLiveAndLacks
theorem dX3_countBadRounds_0 : decode cX3_countBadRounds 0 = .ok (.iconst 0, 1) := by decide +kernel
theorem dX3_countBadRounds_1 : decode cX3_countBadRounds 1 = .ok (.istore_n 1, 1) := by decide +kernel
theorem dX3_countBadRounds_2 : decode cX3_countBadRounds 2 = .ok (.iload_n 1, 1) := by decide +kernel
theorem dX3_countBadRounds_3 : decode cX3_countBadRounds 3 = .ok (.aload_n 0, 1) := by decide +kernel
theorem dX3_countBadRounds_4 : decode cX3_countBadRounds 4 = .ok (.getfield 84, 3) := by decide +kernel
theorem dX3_countBadRounds_7 : decode cX3_countBadRounds 7 = .ok (.if_icmp .ge 51, 3) := by decide +kernel
theorem dX3_countBadRounds_10 : decode cX3_countBadRounds 10 = .ok (.aload_n 0, 1) := by decide +kernel
theorem dX3_countBadRounds_11 : decode cX3_countBadRounds 11 = .ok (.iload_n 1, 1) := by decide +kernel
theorem dX3_countBadRounds_12 : decode cX3_countBadRounds 12 = .ok (.invokevirtual 192, 3) := by decide +kernel
theorem dX3_countBadRounds_15 : decode cX3_countBadRounds 15 = .ok (.ifCond .eq 37, 3) := by decide +kernel
theorem dX3_countBadRounds_18 : decode cX3_countBadRounds 18 = .ok (.aload_n 0, 1) := by decide +kernel
theorem dX3_countBadRounds_19 : decode cX3_countBadRounds 19 = .ok (.getfield 26, 3) := by decide +kernel
theorem dX3_countBadRounds_22 : decode cX3_countBadRounds 22 = .ok (.iload_n 1, 1) := by decide +kernel
theorem dX3_countBadRounds_23 : decode cX3_countBadRounds 23 = .ok (.dup2, 1) := by decide +kernel
theorem dX3_countBadRounds_24 : decode cX3_countBadRounds 24 = .ok (.iaload, 1) := by decide +kernel
theorem dX3_countBadRounds_25 : decode cX3_countBadRounds 25 = .ok (.iconst 1, 1) := by decide +kernel
theorem dX3_countBadRounds_26 : decode cX3_countBadRounds 26 = .ok (.iadd, 1) := by decide +kernel
theorem dX3_countBadRounds_27 : decode cX3_countBadRounds 27 = .ok (.iastore, 1) := by decide +kernel
theorem dX3_countBadRounds_28 : decode cX3_countBadRounds 28 = .ok (.aload_n 0, 1) := by decide +kernel
theorem dX3_countBadRounds_29 : decode cX3_countBadRounds 29 = .ok (.getfield 29, 3) := by decide +kernel
theorem dX3_countBadRounds_32 : decode cX3_countBadRounds 32 = .ok (.iload_n 1, 1) := by decide +kernel
theorem dX3_countBadRounds_33 : decode cX3_countBadRounds 33 = .ok (.aload_n 0, 1) := by decide +kernel
theorem dX3_countBadRounds_34 : decode cX3_countBadRounds 34 = .ok (.getfield 26, 3) := by decide +kernel
theorem dX3_countBadRounds_37 : decode cX3_countBadRounds 37 = .ok (.iload_n 1, 1) := by decide +kernel
theorem dX3_countBadRounds_38 : decode cX3_countBadRounds 38 = .ok (.iaload, 1) := by decide +kernel
theorem dX3_countBadRounds_39 : decode cX3_countBadRounds 39 = .ok (.aload_n 0, 1) := by decide +kernel
theorem dX3_countBadRounds_40 : decode cX3_countBadRounds 40 = .ok (.getfield 173, 3) := by decide +kernel
theorem dX3_countBadRounds_43 : decode cX3_countBadRounds 43 = .ok (.if_icmp .lt 7, 3) := by decide +kernel
theorem dX3_countBadRounds_46 : decode cX3_countBadRounds 46 = .ok (.iconst 1, 1) := by decide +kernel
theorem dX3_countBadRounds_47 : decode cX3_countBadRounds 47 = .ok (.goto 4, 3) := by decide +kernel
theorem dX3_countBadRounds_50 : decode cX3_countBadRounds 50 = .ok (.iconst 0, 1) := by decide +kernel
theorem dX3_countBadRounds_51 : decode cX3_countBadRounds 51 = .ok (.bastore, 1) := by decide +kernel
theorem dX3_countBadRounds_52 : decode cX3_countBadRounds 52 = .ok (.iinc 1 1, 3) := by decide +kernel
theorem dX3_countBadRounds_55 : decode cX3_countBadRounds 55 = .ok (.goto (-53), 3) := by decide +kernel
theorem dX3_countBadRounds_58 : decode cX3_countBadRounds 58 = .ok (.return_, 1) := by decide +kernel
set_option maxRecDepth 20000 in
theorem ggX3_chooseLowest_X2_clear : GoodIn wsX3_chooseLowest wsX2_clear := goodIn_r _ [5, 6, 44, 45, 46] (by decide +kernel) (by decide +kernel)
set_option maxRecDepth 20000 in
theorem gX3_chooseLowest_X2_clear_n167 : GoodIn wsX3_chooseLowest (wsX2_clear) := ggX3_chooseLowest_X2_clear
set_option maxRecDepth 20000 in
theorem ggX3_chooseLowest_X3_chooseIfWanted : GoodIn wsX3_chooseLowest wsX3_chooseIfWanted := goodIn_r _ [11, 1, 12, 13, 3, 14, 15, 6, 16, 17, 18, 19, 20, 21, 22, 23, 24, 25, 26, 27, 28, 29, 30, 31, 32, 33, 34, 35, 36, 37, 38, 39, 40, 41, 42, 43, 44, 45, 46] (by decide +kernel) (by decide +kernel)
set_option maxRecDepth 20000 in
theorem gX3_chooseLowest_X3_chooseIfWanted : GoodIn wsX3_chooseLowest (wsV RX3 195 RX3 yX3_chooseIfWanted wsX3_chooseIfWanted) := goodIn_app (goodIn_of _ (by decide +kernel)) ggX3_chooseLowest_X3_chooseIfWanted
theorem dX3_chooseLowest_0 : decode cX3_chooseLowest 0 = .ok (.aload_n 0, 1) := by decide +kernel
theorem dX3_chooseLowest_1 : decode cX3_chooseLowest 1 = .ok (.getfield 33, 3) := by decide +kernel
theorem dX3_chooseLowest_4 : decode cX3_chooseLowest 4 = .ok (.invokevirtual 167, 3) := by decide +kernel
theorem dX3_chooseLowest_7 : decode cX3_chooseLowest 7 = .ok (.iconst 0, 1) := by decide +kernel
theorem dX3_chooseLowest_8 : decode cX3_chooseLowest 8 = .ok (.istore_n 2, 1) := by decide +kernel
theorem dX3_chooseLowest_9 : decode cX3_chooseLowest 9 = .ok (.iload_n 2, 1) := by decide +kernel
theorem dX3_chooseLowest_10 : decode cX3_chooseLowest 10 = .ok (.bipush 16, 2) := by decide +kernel
theorem dX3_chooseLowest_12 : decode cX3_chooseLowest 12 = .ok (.if_icmp .ge 15, 3) := by decide +kernel
theorem dX3_chooseLowest_15 : decode cX3_chooseLowest 15 = .ok (.aload_n 0, 1) := by decide +kernel
theorem dX3_chooseLowest_16 : decode cX3_chooseLowest 16 = .ok (.iload_n 1, 1) := by decide +kernel
theorem dX3_chooseLowest_17 : decode cX3_chooseLowest 17 = .ok (.iload_n 2, 1) := by decide +kernel
theorem dX3_chooseLowest_18 : decode cX3_chooseLowest 18 = .ok (.invokevirtual 195, 3) := by decide +kernel
theorem dX3_chooseLowest_21 : decode cX3_chooseLowest 21 = .ok (.iinc 2 1, 3) := by decide +kernel
theorem dX3_chooseLowest_24 : decode cX3_chooseLowest 24 = .ok (.goto (-15), 3) := by decide +kernel
theorem dX3_chooseLowest_27 : decode cX3_chooseLowest 27 = .ok (.return_, 1) := by decide +kernel
set_option maxRecDepth 20000 in
theorem ggX3_chooseHighest_X2_clear : GoodIn wsX3_chooseHighest wsX2_clear := goodIn_r _ [5, 6, 44, 45, 46] (by decide +kernel) (by decide +kernel)
set_option maxRecDepth 20000 in
theorem gX3_chooseHighest_X2_clear_n167 : GoodIn wsX3_chooseHighest (wsX2_clear) := ggX3_chooseHighest_X2_clear
set_option maxRecDepth 20000 in
theorem ggX3_chooseHighest_X3_chooseIfWanted : GoodIn wsX3_chooseHighest wsX3_chooseIfWanted := goodIn_r _ [11, 1, 12, 13, 3, 14, 15, 6, 16, 17, 18, 19, 20, 21, 22, 23, 24, 25, 26, 27, 28, 29, 30, 31, 32, 33, 34, 35, 36, 37, 38, 39, 40, 41, 42, 43, 44, 45, 46] (by decide +kernel) (by decide +kernel)
set_option maxRecDepth 20000 in
theorem gX3_chooseHighest_X3_chooseIfWanted : GoodIn wsX3_chooseHighest (wsV RX3 195 RX3 yX3_chooseIfWanted wsX3_chooseIfWanted) := goodIn_app (goodIn_of _ (by decide +kernel)) ggX3_chooseHighest_X3_chooseIfWanted
theorem dX3_chooseHighest_0 : decode cX3_chooseHighest 0 = .ok (.aload_n 0, 1) := by decide +kernel
theorem dX3_chooseHighest_1 : decode cX3_chooseHighest 1 = .ok (.getfield 33, 3) := by decide +kernel
theorem dX3_chooseHighest_4 : decode cX3_chooseHighest 4 = .ok (.invokevirtual 167, 3) := by decide +kernel
theorem dX3_chooseHighest_7 : decode cX3_chooseHighest 7 = .ok (.bipush 15, 2) := by decide +kernel
theorem dX3_chooseHighest_9 : decode cX3_chooseHighest 9 = .ok (.istore_n 2, 1) := by decide +kernel
theorem dX3_chooseHighest_10 : decode cX3_chooseHighest 10 = .ok (.iload_n 2, 1) := by decide +kernel
theorem dX3_chooseHighest_11 : decode cX3_chooseHighest 11 = .ok (.ifCond .lt 15, 3) := by decide +kernel
theorem dX3_chooseHighest_14 : decode cX3_chooseHighest 14 = .ok (.aload_n 0, 1) := by decide +kernel
theorem dX3_chooseHighest_15 : decode cX3_chooseHighest 15 = .ok (.iload_n 1, 1) := by decide +kernel
theorem dX3_chooseHighest_16 : decode cX3_chooseHighest 16 = .ok (.iload_n 2, 1) := by decide +kernel
theorem dX3_chooseHighest_17 : decode cX3_chooseHighest 17 = .ok (.invokevirtual 195, 3) := by decide +kernel
theorem dX3_chooseHighest_20 : decode cX3_chooseHighest 20 = .ok (.iinc 2 (-1), 3) := by decide +kernel
theorem dX3_chooseHighest_23 : decode cX3_chooseHighest 23 = .ok (.goto (-13), 3) := by decide +kernel
theorem dX3_chooseHighest_26 : decode cX3_chooseHighest 26 = .ok (.return_, 1) := by decide +kernel
set_option maxRecDepth 20000 in
theorem ggX3_chooseIfWanted_X2_polynomialAt : GoodIn wsX3_chooseIfWanted wsX2_polynomialAt := goodIn_r _ [6, 7, 8, 9, 10, 11, 4, 12, 13, 14, 15, 16, 17, 18, 19, 36, 37, 38] (by decide +kernel) (by decide +kernel)
set_option maxRecDepth 20000 in
theorem gX3_chooseIfWanted_X2_polynomialAt_n134 : GoodIn wsX3_chooseIfWanted (wsX2_polynomialAt) := ggX3_chooseIfWanted_X2_polynomialAt
set_option maxRecDepth 20000 in
theorem ggX3_chooseIfWanted_X2_add : GoodIn wsX3_chooseIfWanted wsX2_add := goodIn_r _ [22, 7, 13, 8, 36, 37, 38] (by decide +kernel) (by decide +kernel)
set_option maxRecDepth 20000 in
theorem gX3_chooseIfWanted_X2_add_n170 : GoodIn wsX3_chooseIfWanted (wsX2_add) := ggX3_chooseIfWanted_X2_add
theorem dX3_chooseIfWanted_0 : decode cX3_chooseIfWanted 0 = .ok (.iload_n 1, 1) := by decide +kernel
theorem dX3_chooseIfWanted_1 : decode cX3_chooseIfWanted 1 = .ok (.iload_n 2, 1) := by decide +kernel
theorem dX3_chooseIfWanted_2 : decode cX3_chooseIfWanted 2 = .ok (.ishr, 1) := by decide +kernel
theorem dX3_chooseIfWanted_3 : decode cX3_chooseIfWanted 3 = .ok (.iconst 1, 1) := by decide +kernel
theorem dX3_chooseIfWanted_4 : decode cX3_chooseIfWanted 4 = .ok (.iand, 1) := by decide +kernel
theorem dX3_chooseIfWanted_5 : decode cX3_chooseIfWanted 5 = .ok (.ifCond .eq 7, 3) := by decide +kernel
theorem dX3_chooseIfWanted_8 : decode cX3_chooseIfWanted 8 = .ok (.iconst 1, 1) := by decide +kernel
theorem dX3_chooseIfWanted_9 : decode cX3_chooseIfWanted 9 = .ok (.goto 4, 3) := by decide +kernel
theorem dX3_chooseIfWanted_12 : decode cX3_chooseIfWanted 12 = .ok (.iconst 0, 1) := by decide +kernel
theorem dX3_chooseIfWanted_13 : decode cX3_chooseIfWanted 13 = .ok (.istore_n 3, 1) := by decide +kernel
theorem dX3_chooseIfWanted_14 : decode cX3_chooseIfWanted 14 = .ok (.iload_n 3, 1) := by decide +kernel
theorem dX3_chooseIfWanted_15 : decode cX3_chooseIfWanted 15 = .ok (.ifCond .eq 36, 3) := by decide +kernel
theorem dX3_chooseIfWanted_18 : decode cX3_chooseIfWanted 18 = .ok (.aload_n 0, 1) := by decide +kernel
theorem dX3_chooseIfWanted_19 : decode cX3_chooseIfWanted 19 = .ok (.getfield 33, 3) := by decide +kernel
theorem dX3_chooseIfWanted_22 : decode cX3_chooseIfWanted 22 = .ok (.getfield 160, 3) := by decide +kernel
theorem dX3_chooseIfWanted_25 : decode cX3_chooseIfWanted 25 = .ok (.aload_n 0, 1) := by decide +kernel
theorem dX3_chooseIfWanted_26 : decode cX3_chooseIfWanted 26 = .ok (.getfield 10, 3) := by decide +kernel
theorem dX3_chooseIfWanted_29 : decode cX3_chooseIfWanted 29 = .ok (.getfield 160, 3) := by decide +kernel
theorem dX3_chooseIfWanted_32 : decode cX3_chooseIfWanted 32 = .ok (.if_icmp .ge 19, 3) := by decide +kernel
theorem dX3_chooseIfWanted_35 : decode cX3_chooseIfWanted 35 = .ok (.aload_n 0, 1) := by decide +kernel
theorem dX3_chooseIfWanted_36 : decode cX3_chooseIfWanted 36 = .ok (.getfield 33, 3) := by decide +kernel
theorem dX3_chooseIfWanted_39 : decode cX3_chooseIfWanted 39 = .ok (.iload_n 2, 1) := by decide +kernel
theorem dX3_chooseIfWanted_40 : decode cX3_chooseIfWanted 40 = .ok (.aload_n 0, 1) := by decide +kernel
theorem dX3_chooseIfWanted_41 : decode cX3_chooseIfWanted 41 = .ok (.getfield 10, 3) := by decide +kernel
theorem dX3_chooseIfWanted_44 : decode cX3_chooseIfWanted 44 = .ok (.iload_n 2, 1) := by decide +kernel
theorem dX3_chooseIfWanted_45 : decode cX3_chooseIfWanted 45 = .ok (.invokevirtual 134, 3) := by decide +kernel
theorem dX3_chooseIfWanted_48 : decode cX3_chooseIfWanted 48 = .ok (.invokevirtual 170, 3) := by decide +kernel
theorem dX3_chooseIfWanted_51 : decode cX3_chooseIfWanted 51 = .ok (.return_, 1) := by decide +kernel
