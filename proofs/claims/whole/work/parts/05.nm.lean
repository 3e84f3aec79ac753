theorem dX4_init_0 : decode cX4_init 0 = .ok (.aload_n 0, 1) := by decide +kernel
theorem dX4_init_1 : decode cX4_init 1 = .ok (.invokespecial 1, 3) := by decide +kernel
theorem dX4_init_4 : decode cX4_init 4 = .ok (.aload_n 0, 1) := by decide +kernel
theorem dX4_init_5 : decode cX4_init 5 = .ok (.bipush 8, 2) := by decide +kernel
theorem dX4_init_7 : decode cX4_init 7 = .ok (.newarray .int, 2) := by decide +kernel
theorem dX4_init_9 : decode cX4_init 9 = .ok (.putfield 7, 3) := by decide +kernel
theorem dX4_init_12 : decode cX4_init 12 = .ok (.aload_n 0, 1) := by decide +kernel
theorem dX4_init_13 : decode cX4_init 13 = .ok (.bipush 6, 2) := by decide +kernel
theorem dX4_init_15 : decode cX4_init 15 = .ok (.newarray .int, 2) := by decide +kernel
theorem dX4_init_17 : decode cX4_init 17 = .ok (.putfield 13, 3) := by decide +kernel
theorem dX4_init_20 : decode cX4_init 20 = .ok (.aload_n 0, 1) := by decide +kernel
theorem dX4_init_21 : decode cX4_init 21 = .ok (.bipush 6, 2) := by decide +kernel
theorem dX4_init_23 : decode cX4_init 23 = .ok (.newarray .int, 2) := by decide +kernel
theorem dX4_init_25 : decode cX4_init 25 = .ok (.putfield 16, 3) := by decide +kernel
theorem dX4_init_28 : decode cX4_init 28 = .ok (.aload_n 0, 1) := by decide +kernel
theorem dX4_init_29 : decode cX4_init 29 = .ok (.bipush 6, 2) := by decide +kernel
theorem dX4_init_31 : decode cX4_init 31 = .ok (.newarray .int, 2) := by decide +kernel
theorem dX4_init_33 : decode cX4_init 33 = .ok (.putfield 19, 3) := by decide +kernel
theorem dX4_init_36 : decode cX4_init 36 = .ok (.aload_n 0, 1) := by decide +kernel
theorem dX4_init_37 : decode cX4_init 37 = .ok (.bipush 6, 2) := by decide +kernel
theorem dX4_init_39 : decode cX4_init 39 = .ok (.newarray .int, 2) := by decide +kernel
theorem dX4_init_41 : decode cX4_init 41 = .ok (.putfield 22, 3) := by decide +kernel
theorem dX4_init_44 : decode cX4_init 44 = .ok (.aload_n 0, 1) := by decide +kernel
theorem dX4_init_45 : decode cX4_init 45 = .ok (.bipush 6, 2) := by decide +kernel
theorem dX4_init_47 : decode cX4_init 47 = .ok (.newarray .boolean, 2) := by decide +kernel
theorem dX4_init_49 : decode cX4_init 49 = .ok (.putfield 25, 3) := by decide +kernel
theorem dX4_init_52 : decode cX4_init 52 = .ok (.aload_n 0, 1) := by decide +kernel
theorem dX4_init_53 : decode cX4_init 53 = .ok (.bipush 6, 2) := by decide +kernel
theorem dX4_init_55 : decode cX4_init 55 = .ok (.newarray .int, 2) := by decide +kernel
theorem dX4_init_57 : decode cX4_init 57 = .ok (.putfield 29, 3) := by decide +kernel
theorem dX4_init_60 : decode cX4_init 60 = .ok (.aload_n 0, 1) := by decide +kernel
theorem dX4_init_61 : decode cX4_init 61 = .ok (.iconst 4, 1) := by decide +kernel
theorem dX4_init_62 : decode cX4_init 62 = .ok (.putfield 32, 3) := by decide +kernel
theorem dX4_init_65 : decode cX4_init 65 = .ok (.aload_n 0, 1) := by decide +kernel
theorem dX4_init_66 : decode cX4_init 66 = .ok (.iconst 3, 1) := by decide +kernel
theorem dX4_init_67 : decode cX4_init 67 = .ok (.putfield 36, 3) := by decide +kernel
theorem dX4_init_70 : decode cX4_init 70 = .ok (.return_, 1) := by decide +kernel
theorem dX4_thrown_0 : decode cX4_thrown 0 = .ok (.aload_n 0, 1) := by decide +kernel
theorem dX4_thrown_1 : decode cX4_thrown 1 = .ok (.getfield 39, 3) := by decide +kernel
theorem dX4_thrown_4 : decode cX4_thrown 4 = .ok (.ireturn, 1) := by decide +kernel
theorem dX4_in_0 : decode cX4_in 0 = .ok (.iload_n 0, 1) := by decide +kernel
theorem dX4_in_1 : decode cX4_in 1 = .ok (.iload_n 1, 1) := by decide +kernel
theorem dX4_in_2 : decode cX4_in 2 = .ok (.if_icmp .lt 12, 3) := by decide +kernel
theorem dX4_in_5 : decode cX4_in 5 = .ok (.iload_n 0, 1) := by decide +kernel
theorem dX4_in_6 : decode cX4_in 6 = .ok (.iload_n 2, 1) := by decide +kernel
theorem dX4_in_7 : decode cX4_in 7 = .ok (.if_icmp .gt 7, 3) := by decide +kernel
theorem dX4_in_10 : decode cX4_in 10 = .ok (.iconst 1, 1) := by decide +kernel
theorem dX4_in_11 : decode cX4_in 11 = .ok (.goto 4, 3) := by decide +kernel
theorem dX4_in_14 : decode cX4_in 14 = .ok (.iconst 0, 1) := by decide +kernel
theorem dX4_in_15 : decode cX4_in 15 = .ok (.ireturn, 1) := by decide +kernel
set_option maxRecDepth 20000 in
theorem ggX4_isReceiver_X4_in : GoodIn wsX4_isReceiver wsX4_in := goodIn_r _ [5] (by decide +kernel) (by decide +kernel)
set_option maxRecDepth 20000 in
theorem gX4_isReceiver_X4_in : GoodIn wsX4_isReceiver (va_wsS RX4 45 yX4_in wsX4_in) := goodIn_app (goodIn_of _ (by decide +kernel)) ggX4_isReceiver_X4_in
theorem dX4_isReceiver_0 : decode cX4_isReceiver 0 = .ok (.iload_n 1, 1) := by decide +kernel
theorem dX4_isReceiver_1 : decode cX4_isReceiver 1 = .ok (.iconst 0, 1) := by decide +kernel
theorem dX4_isReceiver_2 : decode cX4_isReceiver 2 = .ok (.aload_n 0, 1) := by decide +kernel
theorem dX4_isReceiver_3 : decode cX4_isReceiver 3 = .ok (.getfield 42, 3) := by decide +kernel
theorem dX4_isReceiver_6 : decode cX4_isReceiver 6 = .ok (.iconst 1, 1) := by decide +kernel
theorem dX4_isReceiver_7 : decode cX4_isReceiver 7 = .ok (.isub, 1) := by decide +kernel
theorem dX4_isReceiver_8 : decode cX4_isReceiver 8 = .ok (.invokestatic 45, 3) := by decide +kernel
theorem dX4_isReceiver_11 : decode cX4_isReceiver 11 = .ok (.ireturn, 1) := by decide +kernel
set_option maxRecDepth 20000 in
theorem ggX4_begin_X4_in : GoodIn wsX4_begin wsX4_in := goodIn_r _ [12] (by decide +kernel) (by decide +kernel)
set_option maxRecDepth 20000 in
theorem gX4_begin_X4_in : GoodIn wsX4_begin (va_wsS RX4 45 yX4_in wsX4_in) := goodIn_app (goodIn_of _ (by decide +kernel)) ggX4_begin_X4_in
theorem dX4_begin_0 : decode cX4_begin 0 = .ok (.aload_n 0, 1) := by decide +kernel
theorem dX4_begin_1 : decode cX4_begin 1 = .ok (.iload_n 1, 1) := by decide +kernel
theorem dX4_begin_2 : decode cX4_begin 2 = .ok (.iconst 1, 1) := by decide +kernel
theorem dX4_begin_3 : decode cX4_begin 3 = .ok (.bipush 8, 2) := by decide +kernel
theorem dX4_begin_5 : decode cX4_begin 5 = .ok (.invokestatic 45, 3) := by decide +kernel
theorem dX4_begin_8 : decode cX4_begin 8 = .ok (.ifCond .eq 13, 3) := by decide +kernel
theorem dX4_begin_11 : decode cX4_begin 11 = .ok (.iload_n 2, 1) := by decide +kernel
theorem dX4_begin_12 : decode cX4_begin 12 = .ok (.iconst 1, 1) := by decide +kernel
theorem dX4_begin_13 : decode cX4_begin 13 = .ok (.bipush 20, 2) := by decide +kernel
theorem dX4_begin_15 : decode cX4_begin 15 = .ok (.invokestatic 45, 3) := by decide +kernel
theorem dX4_begin_18 : decode cX4_begin 18 = .ok (.ifCond .ne 7, 3) := by decide +kernel
theorem dX4_begin_21 : decode cX4_begin 21 = .ok (.iconst 1, 1) := by decide +kernel
theorem dX4_begin_22 : decode cX4_begin 22 = .ok (.goto 4, 3) := by decide +kernel
theorem dX4_begin_25 : decode cX4_begin 25 = .ok (.iconst 0, 1) := by decide +kernel
theorem dX4_begin_26 : decode cX4_begin 26 = .ok (.putfield 39, 3) := by decide +kernel
theorem dX4_begin_29 : decode cX4_begin 29 = .ok (.aload_n 0, 1) := by decide +kernel
theorem dX4_begin_30 : decode cX4_begin 30 = .ok (.getfield 39, 3) := by decide +kernel
theorem dX4_begin_33 : decode cX4_begin 33 = .ok (.ifCond .le 5, 3) := by decide +kernel
theorem dX4_begin_36 : decode cX4_begin 36 = .ok (.iconst 0, 1) := by decide +kernel
theorem dX4_begin_37 : decode cX4_begin 37 = .ok (.ireturn, 1) := by decide +kernel
theorem dX4_begin_38 : decode cX4_begin 38 = .ok (.aload_n 0, 1) := by decide +kernel
theorem dX4_begin_39 : decode cX4_begin 39 = .ok (.getfield 49, 3) := by decide +kernel
theorem dX4_begin_42 : decode cX4_begin 42 = .ok (.istore_n 3, 1) := by decide +kernel
theorem dX4_begin_43 : decode cX4_begin 43 = .ok (.aload_n 0, 1) := by decide +kernel
theorem dX4_begin_44 : decode cX4_begin 44 = .ok (.iload_n 1, 1) := by decide +kernel
theorem dX4_begin_45 : decode cX4_begin 45 = .ok (.putfield 32, 3) := by decide +kernel
theorem dX4_begin_48 : decode cX4_begin 48 = .ok (.aload_n 0, 1) := by decide +kernel
theorem dX4_begin_49 : decode cX4_begin 49 = .ok (.iload_n 2, 1) := by decide +kernel
theorem dX4_begin_50 : decode cX4_begin 50 = .ok (.putfield 36, 3) := by decide +kernel
theorem dX4_begin_53 : decode cX4_begin 53 = .ok (.iconst 0, 1) := by decide +kernel
theorem dX4_begin_54 : decode cX4_begin 54 = .ok (.istore 4, 2) := by decide +kernel
theorem dX4_begin_56 : decode cX4_begin 56 = .ok (.iload 4, 2) := by decide +kernel
theorem dX4_begin_58 : decode cX4_begin 58 = .ok (.bipush 8, 2) := by decide +kernel
theorem dX4_begin_60 : decode cX4_begin 60 = .ok (.if_icmp .ge 17, 3) := by decide +kernel
theorem dX4_begin_63 : decode cX4_begin 63 = .ok (.aload_n 0, 1) := by decide +kernel
theorem dX4_begin_64 : decode cX4_begin 64 = .ok (.getfield 7, 3) := by decide +kernel
theorem dX4_begin_67 : decode cX4_begin 67 = .ok (.iload 4, 2) := by decide +kernel
theorem dX4_begin_69 : decode cX4_begin 69 = .ok (.iconst 0, 1) := by decide +kernel
theorem dX4_begin_70 : decode cX4_begin 70 = .ok (.iastore, 1) := by decide +kernel
theorem dX4_begin_71 : decode cX4_begin 71 = .ok (.iinc 4 1, 3) := by decide +kernel
theorem dX4_begin_74 : decode cX4_begin 74 = .ok (.goto (-18), 3) := by decide +kernel
theorem dX4_begin_77 : decode cX4_begin 77 = .ok (.aload_n 0, 1) := by decide +kernel
theorem dX4_begin_78 : decode cX4_begin 78 = .ok (.iconst 0, 1) := by decide +kernel
theorem dX4_begin_79 : decode cX4_begin 79 = .ok (.putfield 49, 3) := by decide +kernel
theorem dX4_begin_82 : decode cX4_begin 82 = .ok (.aload_n 0, 1) := by decide +kernel
theorem dX4_begin_83 : decode cX4_begin 83 = .ok (.iconst 0, 1) := by decide +kernel
theorem dX4_begin_84 : decode cX4_begin 84 = .ok (.putfield 42, 3) := by decide +kernel
theorem dX4_begin_87 : decode cX4_begin 87 = .ok (.aload_n 0, 1) := by decide +kernel
theorem dX4_begin_88 : decode cX4_begin 88 = .ok (.iconst 0, 1) := by decide +kernel
theorem dX4_begin_89 : decode cX4_begin 89 = .ok (.putfield 52, 3) := by decide +kernel
theorem dX4_begin_92 : decode cX4_begin 92 = .ok (.aload_n 0, 1) := by decide +kernel
theorem dX4_begin_93 : decode cX4_begin 93 = .ok (.iconst 0, 1) := by decide +kernel
theorem dX4_begin_94 : decode cX4_begin 94 = .ok (.putfield 55, 3) := by decide +kernel
theorem dX4_begin_97 : decode cX4_begin 97 = .ok (.iload_n 3, 1) := by decide +kernel
theorem dX4_begin_98 : decode cX4_begin 98 = .ok (.ireturn, 1) := by decide +kernel
set_option maxRecDepth 20000 in
theorem ggX4_setDatum_X4_in : GoodIn wsX4_setDatum wsX4_in := goodIn_r _ [8] (by decide +kernel) (by decide +kernel)
set_option maxRecDepth 20000 in
theorem gX4_setDatum_X4_in : GoodIn wsX4_setDatum (va_wsS RX4 45 yX4_in wsX4_in) := goodIn_app (goodIn_of _ (by decide +kernel)) ggX4_setDatum_X4_in
theorem dX4_setDatum_0 : decode cX4_setDatum 0 = .ok (.aload_n 0, 1) := by decide +kernel
theorem dX4_setDatum_1 : decode cX4_setDatum 1 = .ok (.iload_n 1, 1) := by decide +kernel
theorem dX4_setDatum_2 : decode cX4_setDatum 2 = .ok (.iconst 0, 1) := by decide +kernel
theorem dX4_setDatum_3 : decode cX4_setDatum 3 = .ok (.aload_n 0, 1) := by decide +kernel
theorem dX4_setDatum_4 : decode cX4_setDatum 4 = .ok (.getfield 32, 3) := by decide +kernel
theorem dX4_setDatum_7 : decode cX4_setDatum 7 = .ok (.iconst 1, 1) := by decide +kernel
theorem dX4_setDatum_8 : decode cX4_setDatum 8 = .ok (.isub, 1) := by decide +kernel
theorem dX4_setDatum_9 : decode cX4_setDatum 9 = .ok (.invokestatic 45, 3) := by decide +kernel
theorem dX4_setDatum_12 : decode cX4_setDatum 12 = .ok (.ifCond .ne 7, 3) := by decide +kernel
theorem dX4_setDatum_15 : decode cX4_setDatum 15 = .ok (.iconst 1, 1) := by decide +kernel
theorem dX4_setDatum_16 : decode cX4_setDatum 16 = .ok (.goto 30, 3) := by decide +kernel
theorem dX4_setDatum_19 : decode cX4_setDatum 19 = .ok (.iload_n 2, 1) := by decide +kernel
theorem dX4_setDatum_20 : decode cX4_setDatum 20 = .ok (.iconst 0, 1) := by decide +kernel
theorem dX4_setDatum_21 : decode cX4_setDatum 21 = .ok (.sipush 255, 3) := by decide +kernel
theorem dX4_setDatum_24 : decode cX4_setDatum 24 = .ok (.invokestatic 45, 3) := by decide +kernel
theorem dX4_setDatum_27 : decode cX4_setDatum 27 = .ok (.ifCond .ne 7, 3) := by decide +kernel
theorem dX4_setDatum_30 : decode cX4_setDatum 30 = .ok (.iconst 2, 1) := by decide +kernel
theorem dX4_setDatum_31 : decode cX4_setDatum 31 = .ok (.goto 15, 3) := by decide +kernel
theorem dX4_setDatum_34 : decode cX4_setDatum 34 = .ok (.aload_n 0, 1) := by decide +kernel
theorem dX4_setDatum_35 : decode cX4_setDatum 35 = .ok (.getfield 49, 3) := by decide +kernel
theorem dX4_setDatum_38 : decode cX4_setDatum 38 = .ok (.ifCond .le 7, 3) := by decide +kernel
theorem dX4_setDatum_41 : decode cX4_setDatum 41 = .ok (.iconst 3, 1) := by decide +kernel
theorem dX4_setDatum_42 : decode cX4_setDatum 42 = .ok (.goto 4, 3) := by decide +kernel
theorem dX4_setDatum_45 : decode cX4_setDatum 45 = .ok (.iconst 0, 1) := by decide +kernel
theorem dX4_setDatum_46 : decode cX4_setDatum 46 = .ok (.putfield 39, 3) := by decide +kernel
theorem dX4_setDatum_49 : decode cX4_setDatum 49 = .ok (.aload_n 0, 1) := by decide +kernel
theorem dX4_setDatum_50 : decode cX4_setDatum 50 = .ok (.getfield 39, 3) := by decide +kernel
theorem dX4_setDatum_53 : decode cX4_setDatum 53 = .ok (.ifCond .le 5, 3) := by decide +kernel
theorem dX4_setDatum_56 : decode cX4_setDatum 56 = .ok (.iconst 0, 1) := by decide +kernel
theorem dX4_setDatum_57 : decode cX4_setDatum 57 = .ok (.ireturn, 1) := by decide +kernel
theorem dX4_setDatum_58 : decode cX4_setDatum 58 = .ok (.aload_n 0, 1) := by decide +kernel
theorem dX4_setDatum_59 : decode cX4_setDatum 59 = .ok (.getfield 7, 3) := by decide +kernel
theorem dX4_setDatum_62 : decode cX4_setDatum 62 = .ok (.iload_n 1, 1) := by decide +kernel
theorem dX4_setDatum_63 : decode cX4_setDatum 63 = .ok (.iaload, 1) := by decide +kernel
theorem dX4_setDatum_64 : decode cX4_setDatum 64 = .ok (.istore_n 3, 1) := by decide +kernel
theorem dX4_setDatum_65 : decode cX4_setDatum 65 = .ok (.aload_n 0, 1) := by decide +kernel
theorem dX4_setDatum_66 : decode cX4_setDatum 66 = .ok (.getfield 7, 3) := by decide +kernel
theorem dX4_setDatum_69 : decode cX4_setDatum 69 = .ok (.iload_n 1, 1) := by decide +kernel
theorem dX4_setDatum_70 : decode cX4_setDatum 70 = .ok (.iload_n 2, 1) := by decide +kernel
theorem dX4_setDatum_71 : decode cX4_setDatum 71 = .ok (.iastore, 1) := by decide +kernel
theorem dX4_setDatum_72 : decode cX4_setDatum 72 = .ok (.iload_n 3, 1) := by decide +kernel
theorem dX4_setDatum_73 : decode cX4_setDatum 73 = .ok (.ireturn, 1) := by decide +kernel
set_option maxRecDepth 20000 in
theorem ggX4_join_X4_in : GoodIn wsX4_join wsX4_in := goodIn_r _ [11] (by decide +kernel) (by decide +kernel)
set_option maxRecDepth 20000 in
theorem gX4_join_X4_in : GoodIn wsX4_join (va_wsS RX4 45 yX4_in wsX4_in) := goodIn_app (goodIn_of _ (by decide +kernel)) ggX4_join_X4_in
theorem dX4_join_0 : decode cX4_join 0 = .ok (.aload_n 0, 1) := by decide +kernel
theorem dX4_join_1 : decode cX4_join 1 = .ok (.iload_n 1, 1) := by decide +kernel
theorem dX4_join_2 : decode cX4_join 2 = .ok (.iconst 0, 1) := by decide +kernel
theorem dX4_join_3 : decode cX4_join 3 = .ok (.sipush 2047, 3) := by decide +kernel
theorem dX4_join_6 : decode cX4_join 6 = .ok (.invokestatic 45, 3) := by decide +kernel
theorem dX4_join_9 : decode cX4_join 9 = .ok (.ifCond .eq 13, 3) := by decide +kernel
theorem dX4_join_12 : decode cX4_join 12 = .ok (.iload_n 2, 1) := by decide +kernel
theorem dX4_join_13 : decode cX4_join 13 = .ok (.iconst 0, 1) := by decide +kernel
theorem dX4_join_14 : decode cX4_join 14 = .ok (.bipush 20, 2) := by decide +kernel
theorem dX4_join_16 : decode cX4_join 16 = .ok (.invokestatic 45, 3) := by decide +kernel
theorem dX4_join_19 : decode cX4_join 19 = .ok (.ifCond .ne 7, 3) := by decide +kernel
theorem dX4_join_22 : decode cX4_join 22 = .ok (.iconst 1, 1) := by decide +kernel
theorem dX4_join_23 : decode cX4_join 23 = .ok (.goto 17, 3) := by decide +kernel
theorem dX4_join_26 : decode cX4_join 26 = .ok (.aload_n 0, 1) := by decide +kernel
theorem dX4_join_27 : decode cX4_join 27 = .ok (.getfield 42, 3) := by decide +kernel
theorem dX4_join_30 : decode cX4_join 30 = .ok (.bipush 6, 2) := by decide +kernel
theorem dX4_join_32 : decode cX4_join 32 = .ok (.if_icmp .ne 7, 3) := by decide +kernel
theorem dX4_join_35 : decode cX4_join 35 = .ok (.iconst 2, 1) := by decide +kernel
theorem dX4_join_36 : decode cX4_join 36 = .ok (.goto 4, 3) := by decide +kernel
theorem dX4_join_39 : decode cX4_join 39 = .ok (.iconst 0, 1) := by decide +kernel
theorem dX4_join_40 : decode cX4_join 40 = .ok (.putfield 39, 3) := by decide +kernel
theorem dX4_join_43 : decode cX4_join 43 = .ok (.aload_n 0, 1) := by decide +kernel
theorem dX4_join_44 : decode cX4_join 44 = .ok (.getfield 39, 3) := by decide +kernel
theorem dX4_join_47 : decode cX4_join 47 = .ok (.ifCond .le 5, 3) := by decide +kernel
theorem dX4_join_50 : decode cX4_join 50 = .ok (.iconst 0, 1) := by decide +kernel
theorem dX4_join_51 : decode cX4_join 51 = .ok (.ireturn, 1) := by decide +kernel
theorem dX4_join_52 : decode cX4_join 52 = .ok (.aload_n 0, 1) := by decide +kernel
theorem dX4_join_53 : decode cX4_join 53 = .ok (.getfield 13, 3) := by decide +kernel
theorem dX4_join_56 : decode cX4_join 56 = .ok (.aload_n 0, 1) := by decide +kernel
theorem dX4_join_57 : decode cX4_join 57 = .ok (.getfield 42, 3) := by decide +kernel
theorem dX4_join_60 : decode cX4_join 60 = .ok (.iload_n 1, 1) := by decide +kernel
theorem dX4_join_61 : decode cX4_join 61 = .ok (.iastore, 1) := by decide +kernel
theorem dX4_join_62 : decode cX4_join 62 = .ok (.aload_n 0, 1) := by decide +kernel
theorem dX4_join_63 : decode cX4_join 63 = .ok (.getfield 16, 3) := by decide +kernel
theorem dX4_join_66 : decode cX4_join 66 = .ok (.aload_n 0, 1) := by decide +kernel
theorem dX4_join_67 : decode cX4_join 67 = .ok (.getfield 42, 3) := by decide +kernel
theorem dX4_join_70 : decode cX4_join 70 = .ok (.iload_n 2, 1) := by decide +kernel
theorem dX4_join_71 : decode cX4_join 71 = .ok (.iastore, 1) := by decide +kernel
theorem dX4_join_72 : decode cX4_join 72 = .ok (.aload_n 0, 1) := by decide +kernel
theorem dX4_join_73 : decode cX4_join 73 = .ok (.getfield 19, 3) := by decide +kernel
theorem dX4_join_76 : decode cX4_join 76 = .ok (.aload_n 0, 1) := by decide +kernel
theorem dX4_join_77 : decode cX4_join 77 = .ok (.getfield 42, 3) := by decide +kernel
theorem dX4_join_80 : decode cX4_join 80 = .ok (.iconst 0, 1) := by decide +kernel
theorem dX4_join_81 : decode cX4_join 81 = .ok (.iastore, 1) := by decide +kernel
theorem dX4_join_82 : decode cX4_join 82 = .ok (.aload_n 0, 1) := by decide +kernel
theorem dX4_join_83 : decode cX4_join 83 = .ok (.getfield 22, 3) := by decide +kernel
theorem dX4_join_86 : decode cX4_join 86 = .ok (.aload_n 0, 1) := by decide +kernel
theorem dX4_join_87 : decode cX4_join 87 = .ok (.getfield 42, 3) := by decide +kernel
theorem dX4_join_90 : decode cX4_join 90 = .ok (.iconst 0, 1) := by decide +kernel
theorem dX4_join_91 : decode cX4_join 91 = .ok (.iastore, 1) := by decide +kernel
theorem dX4_join_92 : decode cX4_join 92 = .ok (.aload_n 0, 1) := by decide +kernel
theorem dX4_join_93 : decode cX4_join 93 = .ok (.getfield 25, 3) := by decide +kernel
theorem dX4_join_96 : decode cX4_join 96 = .ok (.aload_n 0, 1) := by decide +kernel
theorem dX4_join_97 : decode cX4_join 97 = .ok (.getfield 42, 3) := by decide +kernel
theorem dX4_join_100 : decode cX4_join 100 = .ok (.iconst 0, 1) := by decide +kernel
theorem dX4_join_101 : decode cX4_join 101 = .ok (.bastore, 1) := by decide +kernel
theorem dX4_join_102 : decode cX4_join 102 = .ok (.aload_n 0, 1) := by decide +kernel
theorem dX4_join_103 : decode cX4_join 103 = .ok (.dup, 1) := by decide +kernel
theorem dX4_join_104 : decode cX4_join 104 = .ok (.getfield 42, 3) := by decide +kernel
theorem dX4_join_107 : decode cX4_join 107 = .ok (.iconst 1, 1) := by decide +kernel
theorem dX4_join_108 : decode cX4_join 108 = .ok (.iadd, 1) := by decide +kernel
theorem dX4_join_109 : decode cX4_join 109 = .ok (.putfield 42, 3) := by decide +kernel
theorem dX4_join_112 : decode cX4_join 112 = .ok (.aload_n 0, 1) := by decide +kernel
theorem dX4_join_113 : decode cX4_join 113 = .ok (.getfield 42, 3) := by decide +kernel
theorem dX4_join_116 : decode cX4_join 116 = .ok (.iconst 1, 1) := by decide +kernel
theorem dX4_join_117 : decode cX4_join 117 = .ok (.isub, 1) := by decide +kernel
theorem dX4_join_118 : decode cX4_join 118 = .ok (.ireturn, 1) := by decide +kernel
set_option maxRecDepth 20000 in
theorem ggX4_setLosses_X4_isReceiver : GoodIn wsX4_setLosses wsX4_isReceiver := goodIn_r _ [7, 8, 9, 10, 6, 11, 12, 13, 14, 15, 16, 17, 18, 19, 20, 21, 22, 23, 24, 25] (by decide +kernel) (by decide +kernel)
set_option maxRecDepth 20000 in
theorem gX4_setLosses_X4_isReceiver : GoodIn wsX4_setLosses (wsV RX4 58 RX4 yX4_isReceiver wsX4_isReceiver) := goodIn_app (goodIn_of _ (by decide +kernel)) ggX4_setLosses_X4_isReceiver
set_option maxRecDepth 20000 in
theorem ggX4_setLosses_X4_in : GoodIn wsX4_setLosses wsX4_in := goodIn_r _ [11] (by decide +kernel) (by decide +kernel)
set_option maxRecDepth 20000 in
theorem gX4_setLosses_X4_in : GoodIn wsX4_setLosses (va_wsS RX4 45 yX4_in wsX4_in) := goodIn_app (goodIn_of _ (by decide +kernel)) ggX4_setLosses_X4_in
theorem dX4_setLosses_0 : decode cX4_setLosses 0 = .ok (.aload_n 0, 1) := by decide +kernel
theorem dX4_setLosses_1 : decode cX4_setLosses 1 = .ok (.aload_n 0, 1) := by decide +kernel
theorem dX4_setLosses_2 : decode cX4_setLosses 2 = .ok (.iload_n 1, 1) := by decide +kernel
theorem dX4_setLosses_3 : decode cX4_setLosses 3 = .ok (.invokevirtual 58, 3) := by decide +kernel
theorem dX4_setLosses_6 : decode cX4_setLosses 6 = .ok (.ifCond .ne 7, 3) := by decide +kernel
theorem dX4_setLosses_9 : decode cX4_setLosses 9 = .ok (.iconst 1, 1) := by decide +kernel
theorem dX4_setLosses_10 : decode cX4_setLosses 10 = .ok (.goto 19, 3) := by decide +kernel
theorem dX4_setLosses_13 : decode cX4_setLosses 13 = .ok (.iload_n 2, 1) := by decide +kernel
theorem dX4_setLosses_14 : decode cX4_setLosses 14 = .ok (.iconst 0, 1) := by decide +kernel
theorem dX4_setLosses_15 : decode cX4_setLosses 15 = .ok (.sipush 2047, 3) := by decide +kernel
theorem dX4_setLosses_18 : decode cX4_setLosses 18 = .ok (.invokestatic 45, 3) := by decide +kernel
theorem dX4_setLosses_21 : decode cX4_setLosses 21 = .ok (.ifCond .ne 7, 3) := by decide +kernel
theorem dX4_setLosses_24 : decode cX4_setLosses 24 = .ok (.iconst 2, 1) := by decide +kernel
theorem dX4_setLosses_25 : decode cX4_setLosses 25 = .ok (.goto 4, 3) := by decide +kernel
theorem dX4_setLosses_28 : decode cX4_setLosses 28 = .ok (.iconst 0, 1) := by decide +kernel
theorem dX4_setLosses_29 : decode cX4_setLosses 29 = .ok (.putfield 39, 3) := by decide +kernel
theorem dX4_setLosses_32 : decode cX4_setLosses 32 = .ok (.aload_n 0, 1) := by decide +kernel
theorem dX4_setLosses_33 : decode cX4_setLosses 33 = .ok (.getfield 39, 3) := by decide +kernel
theorem dX4_setLosses_36 : decode cX4_setLosses 36 = .ok (.ifCond .le 5, 3) := by decide +kernel
theorem dX4_setLosses_39 : decode cX4_setLosses 39 = .ok (.iconst 0, 1) := by decide +kernel
theorem dX4_setLosses_40 : decode cX4_setLosses 40 = .ok (.ireturn, 1) := by decide +kernel
theorem dX4_setLosses_41 : decode cX4_setLosses 41 = .ok (.aload_n 0, 1) := by decide +kernel
theorem dX4_setLosses_42 : decode cX4_setLosses 42 = .ok (.getfield 13, 3) := by decide +kernel
theorem dX4_setLosses_45 : decode cX4_setLosses 45 = .ok (.iload_n 1, 1) := by decide +kernel
theorem dX4_setLosses_46 : decode cX4_setLosses 46 = .ok (.iaload, 1) := by decide +kernel
theorem dX4_setLosses_47 : decode cX4_setLosses 47 = .ok (.istore_n 3, 1) := by decide +kernel
theorem dX4_setLosses_48 : decode cX4_setLosses 48 = .ok (.aload_n 0, 1) := by decide +kernel
theorem dX4_setLosses_49 : decode cX4_setLosses 49 = .ok (.getfield 13, 3) := by decide +kernel
theorem dX4_setLosses_52 : decode cX4_setLosses 52 = .ok (.iload_n 1, 1) := by decide +kernel
theorem dX4_setLosses_53 : decode cX4_setLosses 53 = .ok (.iload_n 2, 1) := by decide +kernel
theorem dX4_setLosses_54 : decode cX4_setLosses 54 = .ok (.iastore, 1) := by decide +kernel
theorem dX4_setLosses_55 : decode cX4_setLosses 55 = .ok (.iload_n 3, 1) := by decide +kernel
theorem dX4_setLosses_56 : decode cX4_setLosses 56 = .ok (.ireturn, 1) := by decide +kernel
set_option maxRecDepth 20000 in
theorem ggX4_setWait_X4_isReceiver : GoodIn wsX4_setWait wsX4_isReceiver := goodIn_r _ [7, 8, 9, 10, 6, 11, 12, 13, 14, 15, 16, 17, 18, 19, 20, 21, 22, 23, 24, 25] (by decide +kernel) (by decide +kernel)
set_option maxRecDepth 20000 in
theorem gX4_setWait_X4_isReceiver : GoodIn wsX4_setWait (wsV RX4 58 RX4 yX4_isReceiver wsX4_isReceiver) := goodIn_app (goodIn_of _ (by decide +kernel)) ggX4_setWait_X4_isReceiver
set_option maxRecDepth 20000 in
theorem ggX4_setWait_X4_in : GoodIn wsX4_setWait wsX4_in := goodIn_r _ [11] (by decide +kernel) (by decide +kernel)
set_option maxRecDepth 20000 in
theorem gX4_setWait_X4_in : GoodIn wsX4_setWait (va_wsS RX4 45 yX4_in wsX4_in) := goodIn_app (goodIn_of _ (by decide +kernel)) ggX4_setWait_X4_in
theorem dX4_setWait_0 : decode cX4_setWait 0 = .ok (.aload_n 0, 1) := by decide +kernel
theorem dX4_setWait_1 : decode cX4_setWait 1 = .ok (.aload_n 0, 1) := by decide +kernel
theorem dX4_setWait_2 : decode cX4_setWait 2 = .ok (.iload_n 1, 1) := by decide +kernel
theorem dX4_setWait_3 : decode cX4_setWait 3 = .ok (.invokevirtual 58, 3) := by decide +kernel
theorem dX4_setWait_6 : decode cX4_setWait 6 = .ok (.ifCond .ne 7, 3) := by decide +kernel
theorem dX4_setWait_9 : decode cX4_setWait 9 = .ok (.iconst 1, 1) := by decide +kernel
theorem dX4_setWait_10 : decode cX4_setWait 10 = .ok (.goto 18, 3) := by decide +kernel
theorem dX4_setWait_13 : decode cX4_setWait 13 = .ok (.iload_n 2, 1) := by decide +kernel
theorem dX4_setWait_14 : decode cX4_setWait 14 = .ok (.iconst 0, 1) := by decide +kernel
theorem dX4_setWait_15 : decode cX4_setWait 15 = .ok (.bipush 20, 2) := by decide +kernel
theorem dX4_setWait_17 : decode cX4_setWait 17 = .ok (.invokestatic 45, 3) := by decide +kernel
theorem dX4_setWait_20 : decode cX4_setWait 20 = .ok (.ifCond .ne 7, 3) := by decide +kernel
theorem dX4_setWait_23 : decode cX4_setWait 23 = .ok (.iconst 2, 1) := by decide +kernel
theorem dX4_setWait_24 : decode cX4_setWait 24 = .ok (.goto 4, 3) := by decide +kernel
theorem dX4_setWait_27 : decode cX4_setWait 27 = .ok (.iconst 0, 1) := by decide +kernel
theorem dX4_setWait_28 : decode cX4_setWait 28 = .ok (.putfield 39, 3) := by decide +kernel
theorem dX4_setWait_31 : decode cX4_setWait 31 = .ok (.aload_n 0, 1) := by decide +kernel
theorem dX4_setWait_32 : decode cX4_setWait 32 = .ok (.getfield 39, 3) := by decide +kernel
theorem dX4_setWait_35 : decode cX4_setWait 35 = .ok (.ifCond .le 5, 3) := by decide +kernel
theorem dX4_setWait_38 : decode cX4_setWait 38 = .ok (.iconst 0, 1) := by decide +kernel
theorem dX4_setWait_39 : decode cX4_setWait 39 = .ok (.ireturn, 1) := by decide +kernel
theorem dX4_setWait_40 : decode cX4_setWait 40 = .ok (.aload_n 0, 1) := by decide +kernel
theorem dX4_setWait_41 : decode cX4_setWait 41 = .ok (.getfield 16, 3) := by decide +kernel
theorem dX4_setWait_44 : decode cX4_setWait 44 = .ok (.iload_n 1, 1) := by decide +kernel
theorem dX4_setWait_45 : decode cX4_setWait 45 = .ok (.iaload, 1) := by decide +kernel
theorem dX4_setWait_46 : decode cX4_setWait 46 = .ok (.istore_n 3, 1) := by decide +kernel
theorem dX4_setWait_47 : decode cX4_setWait 47 = .ok (.aload_n 0, 1) := by decide +kernel
theorem dX4_setWait_48 : decode cX4_setWait 48 = .ok (.getfield 16, 3) := by decide +kernel
theorem dX4_setWait_51 : decode cX4_setWait 51 = .ok (.iload_n 1, 1) := by decide +kernel
theorem dX4_setWait_52 : decode cX4_setWait 52 = .ok (.iload_n 2, 1) := by decide +kernel
theorem dX4_setWait_53 : decode cX4_setWait 53 = .ok (.iastore, 1) := by decide +kernel
theorem dX4_setWait_54 : decode cX4_setWait 54 = .ok (.iload_n 3, 1) := by decide +kernel
theorem dX4_setWait_55 : decode cX4_setWait 55 = .ok (.ireturn, 1) := by decide +kernel
theorem dX4_needOf_0 : decode cX4_needOf 0 = .ok (.aload_n 0, 1) := by decide +kernel
theorem dX4_needOf_1 : decode cX4_needOf 1 = .ok (.getfield 32, 3) := by decide +kernel
theorem dX4_needOf_4 : decode cX4_needOf 4 = .ok (.istore_n 2, 1) := by decide +kernel
theorem dX4_needOf_5 : decode cX4_needOf 5 = .ok (.iconst 0, 1) := by decide +kernel
theorem dX4_needOf_6 : decode cX4_needOf 6 = .ok (.istore_n 3, 1) := by decide +kernel
theorem dX4_needOf_7 : decode cX4_needOf 7 = .ok (.iload_n 3, 1) := by decide +kernel
theorem dX4_needOf_8 : decode cX4_needOf 8 = .ok (.bipush 16, 2) := by decide +kernel
theorem dX4_needOf_10 : decode cX4_needOf 10 = .ok (.if_icmp .ge 22, 3) := by decide +kernel
theorem dX4_needOf_13 : decode cX4_needOf 13 = .ok (.iload_n 2, 1) := by decide +kernel
theorem dX4_needOf_14 : decode cX4_needOf 14 = .ok (.aload_n 0, 1) := by decide +kernel
theorem dX4_needOf_15 : decode cX4_needOf 15 = .ok (.getfield 19, 3) := by decide +kernel
theorem dX4_needOf_18 : decode cX4_needOf 18 = .ok (.iload_n 1, 1) := by decide +kernel
theorem dX4_needOf_19 : decode cX4_needOf 19 = .ok (.iaload, 1) := by decide +kernel
theorem dX4_needOf_20 : decode cX4_needOf 20 = .ok (.iload_n 3, 1) := by decide +kernel
theorem dX4_needOf_21 : decode cX4_needOf 21 = .ok (.ishr, 1) := by decide +kernel
theorem dX4_needOf_22 : decode cX4_needOf 22 = .ok (.iconst 1, 1) := by decide +kernel
theorem dX4_needOf_23 : decode cX4_needOf 23 = .ok (.iand, 1) := by decide +kernel
theorem dX4_needOf_24 : decode cX4_needOf 24 = .ok (.isub, 1) := by decide +kernel
theorem dX4_needOf_25 : decode cX4_needOf 25 = .ok (.istore_n 2, 1) := by decide +kernel
theorem dX4_needOf_26 : decode cX4_needOf 26 = .ok (.iinc 3 1, 3) := by decide +kernel
theorem dX4_needOf_29 : decode cX4_needOf 29 = .ok (.goto (-22), 3) := by decide +kernel
theorem dX4_needOf_32 : decode cX4_needOf 32 = .ok (.iload_n 2, 1) := by decide +kernel
theorem dX4_needOf_33 : decode cX4_needOf 33 = .ok (.ifCond .ge 7, 3) := by decide +kernel
theorem dX4_needOf_36 : decode cX4_needOf 36 = .ok (.iconst 0, 1) := by decide +kernel
theorem dX4_needOf_37 : decode cX4_needOf 37 = .ok (.goto 4, 3) := by decide +kernel
theorem dX4_needOf_40 : decode cX4_needOf 40 = .ok (.iload_n 2, 1) := by decide +kernel
theorem dX4_needOf_41 : decode cX4_needOf 41 = .ok (.ireturn, 1) := by decide +kernel
theorem dX4_sendOne_0 : decode cX4_sendOne 0 = .ok (.aload_n 0, 1) := by decide +kernel
theorem dX4_sendOne_1 : decode cX4_sendOne 1 = .ok (.getfield 49, 3) := by decide +kernel
theorem dX4_sendOne_4 : decode cX4_sendOne 4 = .ok (.bipush 16, 2) := by decide +kernel
theorem dX4_sendOne_6 : decode cX4_sendOne 6 = .ok (.irem, 1) := by decide +kernel
theorem dX4_sendOne_7 : decode cX4_sendOne 7 = .ok (.istore_n 1, 1) := by decide +kernel
theorem dX4_sendOne_8 : decode cX4_sendOne 8 = .ok (.iconst 0, 1) := by decide +kernel
theorem dX4_sendOne_9 : decode cX4_sendOne 9 = .ok (.istore_n 2, 1) := by decide +kernel
theorem dX4_sendOne_10 : decode cX4_sendOne 10 = .ok (.iload_n 2, 1) := by decide +kernel
theorem dX4_sendOne_11 : decode cX4_sendOne 11 = .ok (.aload_n 0, 1) := by decide +kernel
theorem dX4_sendOne_12 : decode cX4_sendOne 12 = .ok (.getfield 42, 3) := by decide +kernel
theorem dX4_sendOne_15 : decode cX4_sendOne 15 = .ok (.if_icmp .ge 64, 3) := by decide +kernel
theorem dX4_sendOne_18 : decode cX4_sendOne 18 = .ok (.aload_n 0, 1) := by decide +kernel
theorem dX4_sendOne_19 : decode cX4_sendOne 19 = .ok (.getfield 13, 3) := by decide +kernel
theorem dX4_sendOne_22 : decode cX4_sendOne 22 = .ok (.iload_n 2, 1) := by decide +kernel
theorem dX4_sendOne_23 : decode cX4_sendOne 23 = .ok (.iaload, 1) := by decide +kernel
theorem dX4_sendOne_24 : decode cX4_sendOne 24 = .ok (.aload_n 0, 1) := by decide +kernel
theorem dX4_sendOne_25 : decode cX4_sendOne 25 = .ok (.getfield 49, 3) := by decide +kernel
theorem dX4_sendOne_28 : decode cX4_sendOne 28 = .ok (.bipush 11, 2) := by decide +kernel
theorem dX4_sendOne_30 : decode cX4_sendOne 30 = .ok (.irem, 1) := by decide +kernel
theorem dX4_sendOne_31 : decode cX4_sendOne 31 = .ok (.ishr, 1) := by decide +kernel
theorem dX4_sendOne_32 : decode cX4_sendOne 32 = .ok (.iconst 1, 1) := by decide +kernel
theorem dX4_sendOne_33 : decode cX4_sendOne 33 = .ok (.iand, 1) := by decide +kernel
theorem dX4_sendOne_34 : decode cX4_sendOne 34 = .ok (.iconst 1, 1) := by decide +kernel
theorem dX4_sendOne_35 : decode cX4_sendOne 35 = .ok (.if_icmp .ne 7, 3) := by decide +kernel
theorem dX4_sendOne_38 : decode cX4_sendOne 38 = .ok (.iconst 1, 1) := by decide +kernel
theorem dX4_sendOne_39 : decode cX4_sendOne 39 = .ok (.goto 4, 3) := by decide +kernel
theorem dX4_sendOne_42 : decode cX4_sendOne 42 = .ok (.iconst 0, 1) := by decide +kernel
theorem dX4_sendOne_43 : decode cX4_sendOne 43 = .ok (.istore_n 3, 1) := by decide +kernel
theorem dX4_sendOne_44 : decode cX4_sendOne 44 = .ok (.aload_n 0, 1) := by decide +kernel
theorem dX4_sendOne_45 : decode cX4_sendOne 45 = .ok (.getfield 19, 3) := by decide +kernel
theorem dX4_sendOne_48 : decode cX4_sendOne 48 = .ok (.iload_n 2, 1) := by decide +kernel
theorem dX4_sendOne_49 : decode cX4_sendOne 49 = .ok (.dup2, 1) := by decide +kernel
theorem dX4_sendOne_50 : decode cX4_sendOne 50 = .ok (.iaload, 1) := by decide +kernel
theorem dX4_sendOne_51 : decode cX4_sendOne 51 = .ok (.aload_n 0, 1) := by decide +kernel
theorem dX4_sendOne_52 : decode cX4_sendOne 52 = .ok (.getfield 25, 3) := by decide +kernel
theorem dX4_sendOne_55 : decode cX4_sendOne 55 = .ok (.iload_n 2, 1) := by decide +kernel
theorem dX4_sendOne_56 : decode cX4_sendOne 56 = .ok (.baload, 1) := by decide +kernel
theorem dX4_sendOne_57 : decode cX4_sendOne 57 = .ok (.ifCond .ne 7, 3) := by decide +kernel
theorem dX4_sendOne_60 : decode cX4_sendOne 60 = .ok (.iload_n 3, 1) := by decide +kernel
theorem dX4_sendOne_61 : decode cX4_sendOne 61 = .ok (.ifCond .eq 7, 3) := by decide +kernel
theorem dX4_sendOne_64 : decode cX4_sendOne 64 = .ok (.iconst 0, 1) := by decide +kernel
theorem dX4_sendOne_65 : decode cX4_sendOne 65 = .ok (.goto 6, 3) := by decide +kernel
theorem dX4_sendOne_68 : decode cX4_sendOne 68 = .ok (.iconst 1, 1) := by decide +kernel
theorem dX4_sendOne_69 : decode cX4_sendOne 69 = .ok (.iload_n 1, 1) := by decide +kernel
theorem dX4_sendOne_70 : decode cX4_sendOne 70 = .ok (.ishl, 1) := by decide +kernel
theorem dX4_sendOne_71 : decode cX4_sendOne 71 = .ok (.ior, 1) := by decide +kernel
theorem dX4_sendOne_72 : decode cX4_sendOne 72 = .ok (.iastore, 1) := by decide +kernel
theorem dX4_sendOne_73 : decode cX4_sendOne 73 = .ok (.iinc 2 1, 3) := by decide +kernel
theorem dX4_sendOne_76 : decode cX4_sendOne 76 = .ok (.goto (-66), 3) := by decide +kernel
theorem dX4_sendOne_79 : decode cX4_sendOne 79 = .ok (.aload_n 0, 1) := by decide +kernel
theorem dX4_sendOne_80 : decode cX4_sendOne 80 = .ok (.dup, 1) := by decide +kernel
theorem dX4_sendOne_81 : decode cX4_sendOne 81 = .ok (.getfield 49, 3) := by decide +kernel
theorem dX4_sendOne_84 : decode cX4_sendOne 84 = .ok (.iconst 1, 1) := by decide +kernel
theorem dX4_sendOne_85 : decode cX4_sendOne 85 = .ok (.iadd, 1) := by decide +kernel
theorem dX4_sendOne_86 : decode cX4_sendOne 86 = .ok (.putfield 49, 3) := by decide +kernel
theorem dX4_sendOne_89 : decode cX4_sendOne 89 = .ok (.return_, 1) := by decide +kernel
set_option maxRecDepth 20000 in
theorem ggX4_send_X4_in : GoodIn wsX4_send wsX4_in := goodIn_r _ [8] (by decide +kernel) (by decide +kernel)
set_option maxRecDepth 20000 in
theorem gX4_send_X4_in : GoodIn wsX4_send (va_wsS RX4 45 yX4_in wsX4_in) := goodIn_app (goodIn_of _ (by decide +kernel)) ggX4_send_X4_in
set_option maxRecDepth 20000 in
theorem ggX4_send_X4_sendOne : GoodIn wsX4_send wsX4_sendOne := goodIn_r _ [12, 1, 3, 13, 14, 4, 20, 21, 22, 23, 24, 25, 26, 27, 28, 29, 30, 31, 32, 33] (by decide +kernel) (by decide +kernel)
set_option maxRecDepth 20000 in
theorem gX4_send_X4_sendOne : GoodIn wsX4_send (wsV RX4 62 RX4 yX4_sendOne wsX4_sendOne) := goodIn_app (goodIn_of _ (by decide +kernel)) ggX4_send_X4_sendOne
set_option maxRecDepth 20000 in
theorem ggX4_send_X4_needOf : GoodIn wsX4_send wsX4_needOf := goodIn_r _ [18, 19, 14, 20, 21, 22, 23, 24, 25, 26, 27, 28, 29, 30, 31, 32, 33] (by decide +kernel) (by decide +kernel)
set_option maxRecDepth 20000 in
theorem gX4_send_X4_needOf : GoodIn wsX4_send (wsV RX4 65 RX4 yX4_needOf wsX4_needOf) := goodIn_app (goodIn_of _ (by decide +kernel)) ggX4_send_X4_needOf
theorem dX4_send_0 : decode cX4_send 0 = .ok (.aload_n 0, 1) := by decide +kernel
theorem dX4_send_1 : decode cX4_send 1 = .ok (.iload_n 1, 1) := by decide +kernel
theorem dX4_send_2 : decode cX4_send 2 = .ok (.iconst 1, 1) := by decide +kernel
theorem dX4_send_3 : decode cX4_send 3 = .ok (.bipush 16, 2) := by decide +kernel
theorem dX4_send_5 : decode cX4_send 5 = .ok (.invokestatic 45, 3) := by decide +kernel
theorem dX4_send_8 : decode cX4_send 8 = .ok (.ifCond .ne 7, 3) := by decide +kernel
theorem dX4_send_11 : decode cX4_send 11 = .ok (.iconst 1, 1) := by decide +kernel
theorem dX4_send_12 : decode cX4_send 12 = .ok (.goto 20, 3) := by decide +kernel
theorem dX4_send_15 : decode cX4_send 15 = .ok (.aload_n 0, 1) := by decide +kernel
theorem dX4_send_16 : decode cX4_send 16 = .ok (.getfield 49, 3) := by decide +kernel
theorem dX4_send_19 : decode cX4_send 19 = .ok (.iload_n 1, 1) := by decide +kernel
theorem dX4_send_20 : decode cX4_send 20 = .ok (.iadd, 1) := by decide +kernel
theorem dX4_send_21 : decode cX4_send 21 = .ok (.sipush 10000, 3) := by decide +kernel
theorem dX4_send_24 : decode cX4_send 24 = .ok (.if_icmp .le 7, 3) := by decide +kernel
theorem dX4_send_27 : decode cX4_send 27 = .ok (.iconst 2, 1) := by decide +kernel
theorem dX4_send_28 : decode cX4_send 28 = .ok (.goto 4, 3) := by decide +kernel
theorem dX4_send_31 : decode cX4_send 31 = .ok (.iconst 0, 1) := by decide +kernel
theorem dX4_send_32 : decode cX4_send 32 = .ok (.putfield 39, 3) := by decide +kernel
theorem dX4_send_35 : decode cX4_send 35 = .ok (.iconst 0, 1) := by decide +kernel
theorem dX4_send_36 : decode cX4_send 36 = .ok (.istore_n 2, 1) := by decide +kernel
theorem dX4_send_37 : decode cX4_send 37 = .ok (.iconst 0, 1) := by decide +kernel
theorem dX4_send_38 : decode cX4_send 38 = .ok (.istore_n 3, 1) := by decide +kernel
theorem dX4_send_39 : decode cX4_send 39 = .ok (.iload_n 3, 1) := by decide +kernel
theorem dX4_send_40 : decode cX4_send 40 = .ok (.iload_n 1, 1) := by decide +kernel
theorem dX4_send_41 : decode cX4_send 41 = .ok (.if_icmp .ge 20, 3) := by decide +kernel
theorem dX4_send_44 : decode cX4_send 44 = .ok (.aload_n 0, 1) := by decide +kernel
theorem dX4_send_45 : decode cX4_send 45 = .ok (.getfield 39, 3) := by decide +kernel
theorem dX4_send_48 : decode cX4_send 48 = .ok (.ifCond .ne 13, 3) := by decide +kernel
theorem dX4_send_51 : decode cX4_send 51 = .ok (.aload_n 0, 1) := by decide +kernel
theorem dX4_send_52 : decode cX4_send 52 = .ok (.invokevirtual 62, 3) := by decide +kernel
theorem dX4_send_55 : decode cX4_send 55 = .ok (.iinc 3 1, 3) := by decide +kernel
theorem dX4_send_58 : decode cX4_send 58 = .ok (.goto (-19), 3) := by decide +kernel
theorem dX4_send_61 : decode cX4_send 61 = .ok (.iconst 0, 1) := by decide +kernel
theorem dX4_send_62 : decode cX4_send 62 = .ok (.istore_n 3, 1) := by decide +kernel
theorem dX4_send_63 : decode cX4_send 63 = .ok (.iload_n 3, 1) := by decide +kernel
theorem dX4_send_64 : decode cX4_send 64 = .ok (.aload_n 0, 1) := by decide +kernel
theorem dX4_send_65 : decode cX4_send 65 = .ok (.getfield 42, 3) := by decide +kernel
theorem dX4_send_68 : decode cX4_send 68 = .ok (.if_icmp .ge 41, 3) := by decide +kernel
theorem dX4_send_71 : decode cX4_send 71 = .ok (.aload_n 0, 1) := by decide +kernel
theorem dX4_send_72 : decode cX4_send 72 = .ok (.getfield 39, 3) := by decide +kernel
theorem dX4_send_75 : decode cX4_send 75 = .ok (.ifCond .ne 34, 3) := by decide +kernel
theorem dX4_send_78 : decode cX4_send 78 = .ok (.iload_n 2, 1) := by decide +kernel
theorem dX4_send_79 : decode cX4_send 79 = .ok (.aload_n 0, 1) := by decide +kernel
theorem dX4_send_80 : decode cX4_send 80 = .ok (.getfield 25, 3) := by decide +kernel
theorem dX4_send_83 : decode cX4_send 83 = .ok (.iload_n 3, 1) := by decide +kernel
theorem dX4_send_84 : decode cX4_send 84 = .ok (.baload, 1) := by decide +kernel
theorem dX4_send_85 : decode cX4_send 85 = .ok (.ifCond .ne 15, 3) := by decide +kernel
theorem dX4_send_88 : decode cX4_send 88 = .ok (.aload_n 0, 1) := by decide +kernel
theorem dX4_send_89 : decode cX4_send 89 = .ok (.iload_n 3, 1) := by decide +kernel
theorem dX4_send_90 : decode cX4_send 90 = .ok (.invokevirtual 65, 3) := by decide +kernel
theorem dX4_send_93 : decode cX4_send 93 = .ok (.ifCond .ne 7, 3) := by decide +kernel
theorem dX4_send_96 : decode cX4_send 96 = .ok (.iconst 1, 1) := by decide +kernel
theorem dX4_send_97 : decode cX4_send 97 = .ok (.goto 4, 3) := by decide +kernel
theorem dX4_send_100 : decode cX4_send 100 = .ok (.iconst 0, 1) := by decide +kernel
theorem dX4_send_101 : decode cX4_send 101 = .ok (.iadd, 1) := by decide +kernel
theorem dX4_send_102 : decode cX4_send 102 = .ok (.istore_n 2, 1) := by decide +kernel
theorem dX4_send_103 : decode cX4_send 103 = .ok (.iinc 3 1, 3) := by decide +kernel
theorem dX4_send_106 : decode cX4_send 106 = .ok (.goto (-43), 3) := by decide +kernel
theorem dX4_send_109 : decode cX4_send 109 = .ok (.iload_n 2, 1) := by decide +kernel
theorem dX4_send_110 : decode cX4_send 110 = .ok (.ireturn, 1) := by decide +kernel
set_option maxRecDepth 20000 in
theorem ggX4_layNeeds_X4_needOf : GoodIn wsX4_layNeeds wsX4_needOf := goodIn_r _ [8, 9, 10, 11, 12, 13, 14, 15, 16, 17, 18, 19, 20, 21, 22, 23, 24] (by decide +kernel) (by decide +kernel)
set_option maxRecDepth 20000 in
theorem gX4_layNeeds_X4_needOf : GoodIn wsX4_layNeeds (wsV RX4 65 RX4 yX4_needOf wsX4_needOf) := goodIn_app (goodIn_of _ (by decide +kernel)) ggX4_layNeeds_X4_needOf
theorem dX4_layNeeds_0 : decode cX4_layNeeds 0 = .ok (.iconst 0, 1) := by decide +kernel
theorem dX4_layNeeds_1 : decode cX4_layNeeds 1 = .ok (.istore_n 1, 1) := by decide +kernel
theorem dX4_layNeeds_2 : decode cX4_layNeeds 2 = .ok (.iload_n 1, 1) := by decide +kernel
theorem dX4_layNeeds_3 : decode cX4_layNeeds 3 = .ok (.aload_n 0, 1) := by decide +kernel
theorem dX4_layNeeds_4 : decode cX4_layNeeds 4 = .ok (.getfield 42, 3) := by decide +kernel
theorem dX4_layNeeds_7 : decode cX4_layNeeds 7 = .ok (.if_icmp .ge 33, 3) := by decide +kernel
theorem dX4_layNeeds_10 : decode cX4_layNeeds 10 = .ok (.aload_n 0, 1) := by decide +kernel
theorem dX4_layNeeds_11 : decode cX4_layNeeds 11 = .ok (.getfield 29, 3) := by decide +kernel
theorem dX4_layNeeds_14 : decode cX4_layNeeds 14 = .ok (.iload_n 1, 1) := by decide +kernel
theorem dX4_layNeeds_15 : decode cX4_layNeeds 15 = .ok (.aload_n 0, 1) := by decide +kernel
theorem dX4_layNeeds_16 : decode cX4_layNeeds 16 = .ok (.getfield 25, 3) := by decide +kernel
theorem dX4_layNeeds_19 : decode cX4_layNeeds 19 = .ok (.iload_n 1, 1) := by decide +kernel
theorem dX4_layNeeds_20 : decode cX4_layNeeds 20 = .ok (.baload, 1) := by decide +kernel
theorem dX4_layNeeds_21 : decode cX4_layNeeds 21 = .ok (.ifCond .eq 7, 3) := by decide +kernel
theorem dX4_layNeeds_24 : decode cX4_layNeeds 24 = .ok (.iconst 0, 1) := by decide +kernel
theorem dX4_layNeeds_25 : decode cX4_layNeeds 25 = .ok (.goto 8, 3) := by decide +kernel
theorem dX4_layNeeds_28 : decode cX4_layNeeds 28 = .ok (.aload_n 0, 1) := by decide +kernel
theorem dX4_layNeeds_29 : decode cX4_layNeeds 29 = .ok (.iload_n 1, 1) := by decide +kernel
theorem dX4_layNeeds_30 : decode cX4_layNeeds 30 = .ok (.invokevirtual 65, 3) := by decide +kernel
theorem dX4_layNeeds_33 : decode cX4_layNeeds 33 = .ok (.iastore, 1) := by decide +kernel
theorem dX4_layNeeds_34 : decode cX4_layNeeds 34 = .ok (.iinc 1 1, 3) := by decide +kernel
theorem dX4_layNeeds_37 : decode cX4_layNeeds 37 = .ok (.goto (-35), 3) := by decide +kernel
theorem dX4_layNeeds_40 : decode cX4_layNeeds 40 = .ok (.return_, 1) := by decide +kernel
theorem dX4_report_0 : decode cX4_report 0 = .ok (.iload_n 2, 1) := by decide +kernel
theorem dX4_report_1 : decode cX4_report 1 = .ok (.istore_n 3, 1) := by decide +kernel
theorem dX4_report_2 : decode cX4_report 2 = .ok (.iconst 0, 1) := by decide +kernel
theorem dX4_report_3 : decode cX4_report 3 = .ok (.istore 4, 2) := by decide +kernel
theorem dX4_report_5 : decode cX4_report 5 = .ok (.iload 4, 2) := by decide +kernel
theorem dX4_report_7 : decode cX4_report 7 = .ok (.aload_n 0, 1) := by decide +kernel
theorem dX4_report_8 : decode cX4_report 8 = .ok (.getfield 42, 3) := by decide +kernel
theorem dX4_report_11 : decode cX4_report 11 = .ok (.if_icmp .ge 109, 3) := by decide +kernel
theorem dX4_report_14 : decode cX4_report 14 = .ok (.aload_n 0, 1) := by decide +kernel
theorem dX4_report_15 : decode cX4_report 15 = .ok (.getfield 16, 3) := by decide +kernel
theorem dX4_report_18 : decode cX4_report 18 = .ok (.iload 4, 2) := by decide +kernel
theorem dX4_report_20 : decode cX4_report 20 = .ok (.iaload, 1) := by decide +kernel
theorem dX4_report_21 : decode cX4_report 21 = .ok (.iload_n 1, 1) := by decide +kernel
theorem dX4_report_22 : decode cX4_report 22 = .ok (.if_icmp .ne 92, 3) := by decide +kernel
theorem dX4_report_25 : decode cX4_report 25 = .ok (.aload_n 0, 1) := by decide +kernel
theorem dX4_report_26 : decode cX4_report 26 = .ok (.getfield 29, 3) := by decide +kernel
theorem dX4_report_29 : decode cX4_report 29 = .ok (.iload 4, 2) := by decide +kernel
theorem dX4_report_31 : decode cX4_report 31 = .ok (.iaload, 1) := by decide +kernel
theorem dX4_report_32 : decode cX4_report 32 = .ok (.ifCond .le 82, 3) := by decide +kernel
theorem dX4_report_35 : decode cX4_report 35 = .ok (.iload_n 2, 1) := by decide +kernel
theorem dX4_report_36 : decode cX4_report 36 = .ok (.aload_n 0, 1) := by decide +kernel
theorem dX4_report_37 : decode cX4_report 37 = .ok (.getfield 29, 3) := by decide +kernel
theorem dX4_report_40 : decode cX4_report 40 = .ok (.iload 4, 2) := by decide +kernel
theorem dX4_report_42 : decode cX4_report 42 = .ok (.iaload, 1) := by decide +kernel
theorem dX4_report_43 : decode cX4_report 43 = .ok (.if_icmp .lt 7, 3) := by decide +kernel
theorem dX4_report_46 : decode cX4_report 46 = .ok (.iconst 1, 1) := by decide +kernel
theorem dX4_report_47 : decode cX4_report 47 = .ok (.goto 4, 3) := by decide +kernel
theorem dX4_report_50 : decode cX4_report 50 = .ok (.iconst 0, 1) := by decide +kernel
theorem dX4_report_51 : decode cX4_report 51 = .ok (.istore 5, 2) := by decide +kernel
theorem dX4_report_53 : decode cX4_report 53 = .ok (.aload_n 0, 1) := by decide +kernel
theorem dX4_report_54 : decode cX4_report 54 = .ok (.dup, 1) := by decide +kernel
theorem dX4_report_55 : decode cX4_report 55 = .ok (.getfield 52, 3) := by decide +kernel
theorem dX4_report_58 : decode cX4_report 58 = .ok (.iload 5, 2) := by decide +kernel
theorem dX4_report_60 : decode cX4_report 60 = .ok (.ifCond .eq 7, 3) := by decide +kernel
theorem dX4_report_63 : decode cX4_report 63 = .ok (.iconst 0, 1) := by decide +kernel
theorem dX4_report_64 : decode cX4_report 64 = .ok (.goto 4, 3) := by decide +kernel
theorem dX4_report_67 : decode cX4_report 67 = .ok (.iconst 1, 1) := by decide +kernel
theorem dX4_report_68 : decode cX4_report 68 = .ok (.iadd, 1) := by decide +kernel
theorem dX4_report_69 : decode cX4_report 69 = .ok (.putfield 52, 3) := by decide +kernel
theorem dX4_report_72 : decode cX4_report 72 = .ok (.aload_n 0, 1) := by decide +kernel
theorem dX4_report_73 : decode cX4_report 73 = .ok (.dup, 1) := by decide +kernel
theorem dX4_report_74 : decode cX4_report 74 = .ok (.getfield 55, 3) := by decide +kernel
theorem dX4_report_77 : decode cX4_report 77 = .ok (.iload 5, 2) := by decide +kernel
theorem dX4_report_79 : decode cX4_report 79 = .ok (.ifCond .eq 7, 3) := by decide +kernel
theorem dX4_report_82 : decode cX4_report 82 = .ok (.iconst 1, 1) := by decide +kernel
theorem dX4_report_83 : decode cX4_report 83 = .ok (.goto 4, 3) := by decide +kernel
theorem dX4_report_86 : decode cX4_report 86 = .ok (.iconst 0, 1) := by decide +kernel
theorem dX4_report_87 : decode cX4_report 87 = .ok (.iadd, 1) := by decide +kernel
theorem dX4_report_88 : decode cX4_report 88 = .ok (.putfield 55, 3) := by decide +kernel
theorem dX4_report_91 : decode cX4_report 91 = .ok (.aload_n 0, 1) := by decide +kernel
theorem dX4_report_92 : decode cX4_report 92 = .ok (.getfield 29, 3) := by decide +kernel
theorem dX4_report_95 : decode cX4_report 95 = .ok (.iload 4, 2) := by decide +kernel
theorem dX4_report_97 : decode cX4_report 97 = .ok (.iaload, 1) := by decide +kernel
theorem dX4_report_98 : decode cX4_report 98 = .ok (.iload_n 3, 1) := by decide +kernel
theorem dX4_report_99 : decode cX4_report 99 = .ok (.if_icmp .le 13, 3) := by decide +kernel
theorem dX4_report_102 : decode cX4_report 102 = .ok (.aload_n 0, 1) := by decide +kernel
theorem dX4_report_103 : decode cX4_report 103 = .ok (.getfield 29, 3) := by decide +kernel
theorem dX4_report_106 : decode cX4_report 106 = .ok (.iload 4, 2) := by decide +kernel
theorem dX4_report_108 : decode cX4_report 108 = .ok (.iaload, 1) := by decide +kernel
theorem dX4_report_109 : decode cX4_report 109 = .ok (.goto 4, 3) := by decide +kernel
theorem dX4_report_112 : decode cX4_report 112 = .ok (.iload_n 3, 1) := by decide +kernel
theorem dX4_report_113 : decode cX4_report 113 = .ok (.istore_n 3, 1) := by decide +kernel
theorem dX4_report_114 : decode cX4_report 114 = .ok (.iinc 4 1, 3) := by decide +kernel
theorem dX4_report_117 : decode cX4_report 117 = .ok (.goto (-112), 3) := by decide +kernel
theorem dX4_report_120 : decode cX4_report 120 = .ok (.iload_n 3, 1) := by decide +kernel
theorem dX4_report_121 : decode cX4_report 121 = .ok (.ireturn, 1) := by decide +kernel
set_option maxRecDepth 20000 in
theorem ggX4_round_X4_layNeeds : GoodIn wsX4_round wsX4_layNeeds := goodIn_r _ [12, 3, 4, 6, 13, 14, 15, 11, 16, 17, 18, 31, 32, 33, 34, 35, 36, 37, 38, 39, 40, 41, 42, 43, 44] (by decide +kernel) (by decide +kernel)
set_option maxRecDepth 20000 in
theorem gX4_round_X4_layNeeds : GoodIn wsX4_round (wsV RX4 69 RX4 yX4_layNeeds wsX4_layNeeds) := goodIn_app (goodIn_of _ (by decide +kernel)) ggX4_round_X4_layNeeds
set_option maxRecDepth 20000 in
theorem ggX4_round_X4_report : GoodIn wsX4_round wsX4_report := goodIn_r _ [22, 3, 23, 4, 24, 25, 31, 32, 33, 34, 35, 36, 37, 38, 39, 40, 41, 42, 43, 44] (by decide +kernel) (by decide +kernel)
set_option maxRecDepth 20000 in
theorem gX4_round_X4_report : GoodIn wsX4_round (wsV RX4 72 RX4 yX4_report wsX4_report) := goodIn_app (goodIn_of _ (by decide +kernel)) ggX4_round_X4_report
set_option maxRecDepth 20000 in
theorem ggX4_round_X4_sendOne : GoodIn wsX4_round wsX4_sendOne := goodIn_r _ [29, 1, 3, 30, 18, 6, 31, 32, 33, 34, 35, 36, 37, 38, 39, 40, 41, 42, 43, 44] (by decide +kernel) (by decide +kernel)
set_option maxRecDepth 20000 in
theorem gX4_round_X4_sendOne : GoodIn wsX4_round (wsV RX4 62 RX4 yX4_sendOne wsX4_sendOne) := goodIn_app (goodIn_of _ (by decide +kernel)) ggX4_round_X4_sendOne
set_option maxRecDepth 20000 in
theorem ggX4_round_X4_needOf : GoodIn wsX4_round wsX4_needOf := goodIn_r _ [16, 17, 18, 31, 32, 33, 34, 35, 36, 37, 38, 39, 40, 41, 42, 43, 44] (by decide +kernel) (by decide +kernel)
set_option maxRecDepth 20000 in
theorem gX4_round_X4_needOf : GoodIn wsX4_round (wsV RX4 65 RX4 yX4_needOf wsX4_needOf) := goodIn_app (goodIn_of _ (by decide +kernel)) ggX4_round_X4_needOf
theorem dX4_round_0 : decode cX4_round 0 = .ok (.aload_n 0, 1) := by decide +kernel
theorem dX4_round_1 : decode cX4_round 1 = .ok (.aload_n 0, 1) := by decide +kernel
theorem dX4_round_2 : decode cX4_round 2 = .ok (.getfield 49, 3) := by decide +kernel
theorem dX4_round_5 : decode cX4_round 5 = .ok (.sipush 9992, 3) := by decide +kernel
theorem dX4_round_8 : decode cX4_round 8 = .ok (.if_icmp .le 7, 3) := by decide +kernel
theorem dX4_round_11 : decode cX4_round 11 = .ok (.iconst 1, 1) := by decide +kernel
theorem dX4_round_12 : decode cX4_round 12 = .ok (.goto 4, 3) := by decide +kernel
theorem dX4_round_15 : decode cX4_round 15 = .ok (.iconst 0, 1) := by decide +kernel
theorem dX4_round_16 : decode cX4_round 16 = .ok (.putfield 39, 3) := by decide +kernel
theorem dX4_round_19 : decode cX4_round 19 = .ok (.aload_n 0, 1) := by decide +kernel
theorem dX4_round_20 : decode cX4_round 20 = .ok (.getfield 39, 3) := by decide +kernel
theorem dX4_round_23 : decode cX4_round 23 = .ok (.ifCond .le 5, 3) := by decide +kernel
theorem dX4_round_26 : decode cX4_round 26 = .ok (.iconst 0, 1) := by decide +kernel
theorem dX4_round_27 : decode cX4_round 27 = .ok (.ireturn, 1) := by decide +kernel
theorem dX4_round_28 : decode cX4_round 28 = .ok (.aload_n 0, 1) := by decide +kernel
theorem dX4_round_29 : decode cX4_round 29 = .ok (.invokevirtual 69, 3) := by decide +kernel
theorem dX4_round_32 : decode cX4_round 32 = .ok (.iconst 0, 1) := by decide +kernel
theorem dX4_round_33 : decode cX4_round 33 = .ok (.istore_n 1, 1) := by decide +kernel
theorem dX4_round_34 : decode cX4_round 34 = .ok (.iconst 0, 1) := by decide +kernel
theorem dX4_round_35 : decode cX4_round 35 = .ok (.istore_n 2, 1) := by decide +kernel
theorem dX4_round_36 : decode cX4_round 36 = .ok (.iload_n 2, 1) := by decide +kernel
theorem dX4_round_37 : decode cX4_round 37 = .ok (.bipush 20, 2) := by decide +kernel
theorem dX4_round_39 : decode cX4_round 39 = .ok (.if_icmp .gt 16, 3) := by decide +kernel
theorem dX4_round_42 : decode cX4_round 42 = .ok (.aload_n 0, 1) := by decide +kernel
theorem dX4_round_43 : decode cX4_round 43 = .ok (.iload_n 2, 1) := by decide +kernel
theorem dX4_round_44 : decode cX4_round 44 = .ok (.iload_n 1, 1) := by decide +kernel
theorem dX4_round_45 : decode cX4_round 45 = .ok (.invokevirtual 72, 3) := by decide +kernel
theorem dX4_round_48 : decode cX4_round 48 = .ok (.istore_n 1, 1) := by decide +kernel
theorem dX4_round_49 : decode cX4_round 49 = .ok (.iinc 2 1, 3) := by decide +kernel
theorem dX4_round_52 : decode cX4_round 52 = .ok (.goto (-16), 3) := by decide +kernel
theorem dX4_round_55 : decode cX4_round 55 = .ok (.iconst 0, 1) := by decide +kernel
theorem dX4_round_56 : decode cX4_round 56 = .ok (.istore_n 2, 1) := by decide +kernel
theorem dX4_round_57 : decode cX4_round 57 = .ok (.iload_n 2, 1) := by decide +kernel
theorem dX4_round_58 : decode cX4_round 58 = .ok (.iload_n 1, 1) := by decide +kernel
theorem dX4_round_59 : decode cX4_round 59 = .ok (.if_icmp .ge 13, 3) := by decide +kernel
theorem dX4_round_62 : decode cX4_round 62 = .ok (.aload_n 0, 1) := by decide +kernel
theorem dX4_round_63 : decode cX4_round 63 = .ok (.invokevirtual 62, 3) := by decide +kernel
theorem dX4_round_66 : decode cX4_round 66 = .ok (.iinc 2 1, 3) := by decide +kernel
theorem dX4_round_69 : decode cX4_round 69 = .ok (.goto (-12), 3) := by decide +kernel
theorem dX4_round_72 : decode cX4_round 72 = .ok (.iconst 0, 1) := by decide +kernel
theorem dX4_round_73 : decode cX4_round 73 = .ok (.istore_n 2, 1) := by decide +kernel
theorem dX4_round_74 : decode cX4_round 74 = .ok (.iload_n 2, 1) := by decide +kernel
theorem dX4_round_75 : decode cX4_round 75 = .ok (.aload_n 0, 1) := by decide +kernel
theorem dX4_round_76 : decode cX4_round 76 = .ok (.getfield 42, 3) := by decide +kernel
theorem dX4_round_79 : decode cX4_round 79 = .ok (.if_icmp .ge 60, 3) := by decide +kernel
theorem dX4_round_82 : decode cX4_round 82 = .ok (.aload_n 0, 1) := by decide +kernel
theorem dX4_round_83 : decode cX4_round 83 = .ok (.getfield 29, 3) := by decide +kernel
theorem dX4_round_86 : decode cX4_round 86 = .ok (.iload_n 2, 1) := by decide +kernel
theorem dX4_round_87 : decode cX4_round 87 = .ok (.iaload, 1) := by decide +kernel
theorem dX4_round_88 : decode cX4_round 88 = .ok (.ifCond .le 45, 3) := by decide +kernel
theorem dX4_round_91 : decode cX4_round 91 = .ok (.aload_n 0, 1) := by decide +kernel
theorem dX4_round_92 : decode cX4_round 92 = .ok (.iload_n 2, 1) := by decide +kernel
theorem dX4_round_93 : decode cX4_round 93 = .ok (.invokevirtual 65, 3) := by decide +kernel
theorem dX4_round_96 : decode cX4_round 96 = .ok (.ifCond .le 37, 3) := by decide +kernel
theorem dX4_round_99 : decode cX4_round 99 = .ok (.aload_n 0, 1) := by decide +kernel
theorem dX4_round_100 : decode cX4_round 100 = .ok (.getfield 22, 3) := by decide +kernel
theorem dX4_round_103 : decode cX4_round 103 = .ok (.iload_n 2, 1) := by decide +kernel
theorem dX4_round_104 : decode cX4_round 104 = .ok (.dup2, 1) := by decide +kernel
theorem dX4_round_105 : decode cX4_round 105 = .ok (.iaload, 1) := by decide +kernel
theorem dX4_round_106 : decode cX4_round 106 = .ok (.iconst 1, 1) := by decide +kernel
theorem dX4_round_107 : decode cX4_round 107 = .ok (.iadd, 1) := by decide +kernel
theorem dX4_round_108 : decode cX4_round 108 = .ok (.iastore, 1) := by decide +kernel
theorem dX4_round_109 : decode cX4_round 109 = .ok (.aload_n 0, 1) := by decide +kernel
theorem dX4_round_110 : decode cX4_round 110 = .ok (.getfield 25, 3) := by decide +kernel
theorem dX4_round_113 : decode cX4_round 113 = .ok (.iload_n 2, 1) := by decide +kernel
theorem dX4_round_114 : decode cX4_round 114 = .ok (.aload_n 0, 1) := by decide +kernel
theorem dX4_round_115 : decode cX4_round 115 = .ok (.getfield 22, 3) := by decide +kernel
theorem dX4_round_118 : decode cX4_round 118 = .ok (.iload_n 2, 1) := by decide +kernel
theorem dX4_round_119 : decode cX4_round 119 = .ok (.iaload, 1) := by decide +kernel
theorem dX4_round_120 : decode cX4_round 120 = .ok (.aload_n 0, 1) := by decide +kernel
theorem dX4_round_121 : decode cX4_round 121 = .ok (.getfield 36, 3) := by decide +kernel
theorem dX4_round_124 : decode cX4_round 124 = .ok (.if_icmp .ne 7, 3) := by decide +kernel
theorem dX4_round_127 : decode cX4_round 127 = .ok (.iconst 1, 1) := by decide +kernel
theorem dX4_round_128 : decode cX4_round 128 = .ok (.goto 4, 3) := by decide +kernel
theorem dX4_round_131 : decode cX4_round 131 = .ok (.iconst 0, 1) := by decide +kernel
theorem dX4_round_132 : decode cX4_round 132 = .ok (.bastore, 1) := by decide +kernel
theorem dX4_round_133 : decode cX4_round 133 = .ok (.iinc 2 1, 3) := by decide +kernel
theorem dX4_round_136 : decode cX4_round 136 = .ok (.goto (-62), 3) := by decide +kernel
theorem dX4_round_139 : decode cX4_round 139 = .ok (.iload_n 1, 1) := by decide +kernel
theorem dX4_round_140 : decode cX4_round 140 = .ok (.ireturn, 1) := by decide +kernel
theorem dX4_sent_0 : decode cX4_sent 0 = .ok (.aload_n 0, 1) := by decide +kernel
theorem dX4_sent_1 : decode cX4_sent 1 = .ok (.iconst 0, 1) := by decide +kernel
theorem dX4_sent_2 : decode cX4_sent 2 = .ok (.putfield 39, 3) := by decide +kernel
theorem dX4_sent_5 : decode cX4_sent 5 = .ok (.aload_n 0, 1) := by decide +kernel
theorem dX4_sent_6 : decode cX4_sent 6 = .ok (.getfield 49, 3) := by decide +kernel
theorem dX4_sent_9 : decode cX4_sent 9 = .ok (.ireturn, 1) := by decide +kernel
theorem dX4_receivers_0 : decode cX4_receivers 0 = .ok (.aload_n 0, 1) := by decide +kernel
theorem dX4_receivers_1 : decode cX4_receivers 1 = .ok (.iconst 0, 1) := by decide +kernel
theorem dX4_receivers_2 : decode cX4_receivers 2 = .ok (.putfield 39, 3) := by decide +kernel
theorem dX4_receivers_5 : decode cX4_receivers 5 = .ok (.aload_n 0, 1) := by decide +kernel
theorem dX4_receivers_6 : decode cX4_receivers 6 = .ok (.getfield 42, 3) := by decide +kernel
theorem dX4_receivers_9 : decode cX4_receivers 9 = .ok (.ireturn, 1) := by decide +kernel
theorem dX4_reports_0 : decode cX4_reports 0 = .ok (.aload_n 0, 1) := by decide +kernel
theorem dX4_reports_1 : decode cX4_reports 1 = .ok (.iconst 0, 1) := by decide +kernel
theorem dX4_reports_2 : decode cX4_reports 2 = .ok (.putfield 39, 3) := by decide +kernel
theorem dX4_reports_5 : decode cX4_reports 5 = .ok (.aload_n 0, 1) := by decide +kernel
theorem dX4_reports_6 : decode cX4_reports 6 = .ok (.getfield 52, 3) := by decide +kernel
theorem dX4_reports_9 : decode cX4_reports 9 = .ok (.ireturn, 1) := by decide +kernel
theorem dX4_keptBack_0 : decode cX4_keptBack 0 = .ok (.aload_n 0, 1) := by decide +kernel
theorem dX4_keptBack_1 : decode cX4_keptBack 1 = .ok (.iconst 0, 1) := by decide +kernel
theorem dX4_keptBack_2 : decode cX4_keptBack 2 = .ok (.putfield 39, 3) := by decide +kernel
theorem dX4_keptBack_5 : decode cX4_keptBack 5 = .ok (.aload_n 0, 1) := by decide +kernel
theorem dX4_keptBack_6 : decode cX4_keptBack 6 = .ok (.getfield 55, 3) := by decide +kernel
theorem dX4_keptBack_9 : decode cX4_keptBack 9 = .ok (.ireturn, 1) := by decide +kernel
set_option maxRecDepth 20000 in
theorem ggX4_asksFor_X4_isReceiver : GoodIn wsX4_asksFor wsX4_isReceiver := goodIn_r _ [6, 7, 8, 9, 5, 10, 11, 12, 13, 14, 15, 16, 17, 18, 19, 20, 21, 22, 23, 24] (by decide +kernel) (by decide +kernel)
set_option maxRecDepth 20000 in
theorem gX4_asksFor_X4_isReceiver : GoodIn wsX4_asksFor (wsV RX4 58 RX4 yX4_isReceiver wsX4_isReceiver) := goodIn_app (goodIn_of _ (by decide +kernel)) ggX4_asksFor_X4_isReceiver
theorem dX4_asksFor_0 : decode cX4_asksFor 0 = .ok (.aload_n 0, 1) := by decide +kernel
theorem dX4_asksFor_1 : decode cX4_asksFor 1 = .ok (.aload_n 0, 1) := by decide +kernel
theorem dX4_asksFor_2 : decode cX4_asksFor 2 = .ok (.iload_n 1, 1) := by decide +kernel
theorem dX4_asksFor_3 : decode cX4_asksFor 3 = .ok (.invokevirtual 58, 3) := by decide +kernel
theorem dX4_asksFor_6 : decode cX4_asksFor 6 = .ok (.ifCond .eq 7, 3) := by decide +kernel
theorem dX4_asksFor_9 : decode cX4_asksFor 9 = .ok (.iconst 0, 1) := by decide +kernel
theorem dX4_asksFor_10 : decode cX4_asksFor 10 = .ok (.goto 4, 3) := by decide +kernel
theorem dX4_asksFor_13 : decode cX4_asksFor 13 = .ok (.iconst 1, 1) := by decide +kernel
theorem dX4_asksFor_14 : decode cX4_asksFor 14 = .ok (.putfield 39, 3) := by decide +kernel
theorem dX4_asksFor_17 : decode cX4_asksFor 17 = .ok (.aload_n 0, 1) := by decide +kernel
theorem dX4_asksFor_18 : decode cX4_asksFor 18 = .ok (.getfield 39, 3) := by decide +kernel
theorem dX4_asksFor_21 : decode cX4_asksFor 21 = .ok (.ifCond .ne 7, 3) := by decide +kernel
theorem dX4_asksFor_24 : decode cX4_asksFor 24 = .ok (.iconst 1, 1) := by decide +kernel
theorem dX4_asksFor_25 : decode cX4_asksFor 25 = .ok (.goto 4, 3) := by decide +kernel
theorem dX4_asksFor_28 : decode cX4_asksFor 28 = .ok (.iconst 0, 1) := by decide +kernel
theorem dX4_asksFor_29 : decode cX4_asksFor 29 = .ok (.ireturn, 1) := by decide +kernel
set_option maxRecDepth 20000 in
theorem ggX4_has_X4_asksFor : GoodIn wsX4_has wsX4_asksFor := goodIn_r _ [6, 7, 8, 9, 10, 5, 11, 12, 13, 14, 15, 16, 17, 18, 19, 20, 21, 22, 23, 24, 25, 26, 27, 28, 29] (by decide +kernel) (by decide +kernel)
set_option maxRecDepth 20000 in
theorem gX4_has_X4_asksFor : GoodIn wsX4_has (wsV RX4 76 RX4 yX4_asksFor wsX4_asksFor) := goodIn_app (goodIn_of _ (by decide +kernel)) ggX4_has_X4_asksFor
theorem dX4_has_0 : decode cX4_has 0 = .ok (.aload_n 0, 1) := by decide +kernel
theorem dX4_has_1 : decode cX4_has 1 = .ok (.iload_n 1, 1) := by decide +kernel
theorem dX4_has_2 : decode cX4_has 2 = .ok (.invokevirtual 76, 3) := by decide +kernel
theorem dX4_has_5 : decode cX4_has 5 = .ok (.ifCond .eq 12, 3) := by decide +kernel
theorem dX4_has_8 : decode cX4_has 8 = .ok (.aload_n 0, 1) := by decide +kernel
theorem dX4_has_9 : decode cX4_has 9 = .ok (.getfield 19, 3) := by decide +kernel
theorem dX4_has_12 : decode cX4_has 12 = .ok (.iload_n 1, 1) := by decide +kernel
theorem dX4_has_13 : decode cX4_has 13 = .ok (.iaload, 1) := by decide +kernel
theorem dX4_has_14 : decode cX4_has 14 = .ok (.goto 4, 3) := by decide +kernel
theorem dX4_has_17 : decode cX4_has 17 = .ok (.iconst 0, 1) := by decide +kernel
theorem dX4_has_18 : decode cX4_has 18 = .ok (.ireturn, 1) := by decide +kernel
set_option maxRecDepth 20000 in
theorem ggX4_need_X4_asksFor : GoodIn wsX4_need wsX4_asksFor := goodIn_r _ [5, 6, 7, 8, 9, 4, 10, 11, 12, 13, 14, 21, 22, 23, 24, 25, 26, 27, 28, 29, 30, 31, 32, 33, 34] (by decide +kernel) (by decide +kernel)
set_option maxRecDepth 20000 in
theorem gX4_need_X4_asksFor : GoodIn wsX4_need (wsV RX4 76 RX4 yX4_asksFor wsX4_asksFor) := goodIn_app (goodIn_of _ (by decide +kernel)) ggX4_need_X4_asksFor
set_option maxRecDepth 20000 in
theorem ggX4_need_X4_needOf : GoodIn wsX4_need wsX4_needOf := goodIn_r _ [18, 19, 20, 21, 22, 23, 24, 25, 26, 27, 28, 29, 30, 31, 32, 33, 34] (by decide +kernel) (by decide +kernel)
set_option maxRecDepth 20000 in
theorem gX4_need_X4_needOf : GoodIn wsX4_need (wsV RX4 65 RX4 yX4_needOf wsX4_needOf) := goodIn_app (goodIn_of _ (by decide +kernel)) ggX4_need_X4_needOf
theorem dX4_need_0 : decode cX4_need 0 = .ok (.aload_n 0, 1) := by decide +kernel
theorem dX4_need_1 : decode cX4_need 1 = .ok (.iload_n 1, 1) := by decide +kernel
theorem dX4_need_2 : decode cX4_need 2 = .ok (.invokevirtual 76, 3) := by decide +kernel
theorem dX4_need_5 : decode cX4_need 5 = .ok (.ifCond .eq 11, 3) := by decide +kernel
theorem dX4_need_8 : decode cX4_need 8 = .ok (.aload_n 0, 1) := by decide +kernel
theorem dX4_need_9 : decode cX4_need 9 = .ok (.iload_n 1, 1) := by decide +kernel
theorem dX4_need_10 : decode cX4_need 10 = .ok (.invokevirtual 65, 3) := by decide +kernel
theorem dX4_need_13 : decode cX4_need 13 = .ok (.goto 4, 3) := by decide +kernel
theorem dX4_need_16 : decode cX4_need 16 = .ok (.iconst 0, 1) := by decide +kernel
theorem dX4_need_17 : decode cX4_need 17 = .ok (.ireturn, 1) := by decide +kernel
set_option maxRecDepth 20000 in
theorem ggX4_isDropped_X4_asksFor : GoodIn wsX4_isDropped wsX4_asksFor := goodIn_r _ [6, 7, 8, 9, 10, 5, 11, 12, 13, 14, 15, 16, 17, 18, 19, 20, 21, 22, 23, 24, 25, 26, 27, 28, 29] (by decide +kernel) (by decide +kernel)
set_option maxRecDepth 20000 in
theorem gX4_isDropped_X4_asksFor : GoodIn wsX4_isDropped (wsV RX4 76 RX4 yX4_asksFor wsX4_asksFor) := goodIn_app (goodIn_of _ (by decide +kernel)) ggX4_isDropped_X4_asksFor
theorem dX4_isDropped_0 : decode cX4_isDropped 0 = .ok (.aload_n 0, 1) := by decide +kernel
theorem dX4_isDropped_1 : decode cX4_isDropped 1 = .ok (.iload_n 1, 1) := by decide +kernel
theorem dX4_isDropped_2 : decode cX4_isDropped 2 = .ok (.invokevirtual 76, 3) := by decide +kernel
theorem dX4_isDropped_5 : decode cX4_isDropped 5 = .ok (.ifCond .eq 16, 3) := by decide +kernel
theorem dX4_isDropped_8 : decode cX4_isDropped 8 = .ok (.aload_n 0, 1) := by decide +kernel
theorem dX4_isDropped_9 : decode cX4_isDropped 9 = .ok (.getfield 25, 3) := by decide +kernel
theorem dX4_isDropped_12 : decode cX4_isDropped 12 = .ok (.iload_n 1, 1) := by decide +kernel
theorem dX4_isDropped_13 : decode cX4_isDropped 13 = .ok (.baload, 1) := by decide +kernel
theorem dX4_isDropped_14 : decode cX4_isDropped 14 = .ok (.ifCond .eq 7, 3) := by decide +kernel
theorem dX4_isDropped_17 : decode cX4_isDropped 17 = .ok (.iconst 1, 1) := by decide +kernel
theorem dX4_isDropped_18 : decode cX4_isDropped 18 = .ok (.goto 4, 3) := by decide +kernel
theorem dX4_isDropped_21 : decode cX4_isDropped 21 = .ok (.iconst 0, 1) := by decide +kernel
theorem dX4_isDropped_22 : decode cX4_isDropped 22 = .ok (.ireturn, 1) := by decide +kernel
set_option maxRecDepth 20000 in
theorem ggX4_badRounds_X4_asksFor : GoodIn wsX4_badRounds wsX4_asksFor := goodIn_r _ [6, 7, 8, 9, 10, 5, 11, 12, 13, 14, 15, 16, 17, 18, 19, 20, 21, 22, 23, 24, 25, 26, 27, 28, 29] (by decide +kernel) (by decide +kernel)
set_option maxRecDepth 20000 in
theorem gX4_badRounds_X4_asksFor : GoodIn wsX4_badRounds (wsV RX4 76 RX4 yX4_asksFor wsX4_asksFor) := goodIn_app (goodIn_of _ (by decide +kernel)) ggX4_badRounds_X4_asksFor
theorem dX4_badRounds_0 : decode cX4_badRounds 0 = .ok (.aload_n 0, 1) := by decide +kernel
theorem dX4_badRounds_1 : decode cX4_badRounds 1 = .ok (.iload_n 1, 1) := by decide +kernel
theorem dX4_badRounds_2 : decode cX4_badRounds 2 = .ok (.invokevirtual 76, 3) := by decide +kernel
theorem dX4_badRounds_5 : decode cX4_badRounds 5 = .ok (.ifCond .eq 12, 3) := by decide +kernel
theorem dX4_badRounds_8 : decode cX4_badRounds 8 = .ok (.aload_n 0, 1) := by decide +kernel
theorem dX4_badRounds_9 : decode cX4_badRounds 9 = .ok (.getfield 22, 3) := by decide +kernel
theorem dX4_badRounds_12 : decode cX4_badRounds 12 = .ok (.iload_n 1, 1) := by decide +kernel
theorem dX4_badRounds_13 : decode cX4_badRounds 13 = .ok (.iaload, 1) := by decide +kernel
theorem dX4_badRounds_14 : decode cX4_badRounds 14 = .ok (.goto 4, 3) := by decide +kernel
theorem dX4_badRounds_17 : decode cX4_badRounds 17 = .ok (.iconst 0, 1) := by decide +kernel
theorem dX4_badRounds_18 : decode cX4_badRounds 18 = .ok (.ireturn, 1) := by decide +kernel
theorem dX4_product_0 : decode cX4_product 0 = .ok (.iconst 0, 1) := by decide +kernel
theorem dX4_product_1 : decode cX4_product 1 = .ok (.istore_n 2, 1) := by decide +kernel
theorem dX4_product_2 : decode cX4_product 2 = .ok (.iload_n 0, 1) := by decide +kernel
theorem dX4_product_3 : decode cX4_product 3 = .ok (.istore_n 3, 1) := by decide +kernel
theorem dX4_product_4 : decode cX4_product 4 = .ok (.iconst 0, 1) := by decide +kernel
theorem dX4_product_5 : decode cX4_product 5 = .ok (.istore 4, 2) := by decide +kernel
theorem dX4_product_7 : decode cX4_product 7 = .ok (.iload 4, 2) := by decide +kernel
theorem dX4_product_9 : decode cX4_product 9 = .ok (.bipush 8, 2) := by decide +kernel
theorem dX4_product_11 : decode cX4_product 11 = .ok (.if_icmp .ge 48, 3) := by decide +kernel
theorem dX4_product_14 : decode cX4_product 14 = .ok (.iload_n 2, 1) := by decide +kernel
theorem dX4_product_15 : decode cX4_product 15 = .ok (.iload_n 1, 1) := by decide +kernel
theorem dX4_product_16 : decode cX4_product 16 = .ok (.iload 4, 2) := by decide +kernel
theorem dX4_product_18 : decode cX4_product 18 = .ok (.ishr, 1) := by decide +kernel
theorem dX4_product_19 : decode cX4_product 19 = .ok (.iconst 1, 1) := by decide +kernel
theorem dX4_product_20 : decode cX4_product 20 = .ok (.iand, 1) := by decide +kernel
theorem dX4_product_21 : decode cX4_product 21 = .ok (.iconst 1, 1) := by decide +kernel
theorem dX4_product_22 : decode cX4_product 22 = .ok (.if_icmp .ne 7, 3) := by decide +kernel
theorem dX4_product_25 : decode cX4_product 25 = .ok (.iload_n 3, 1) := by decide +kernel
theorem dX4_product_26 : decode cX4_product 26 = .ok (.goto 4, 3) := by decide +kernel
theorem dX4_product_29 : decode cX4_product 29 = .ok (.iconst 0, 1) := by decide +kernel
theorem dX4_product_30 : decode cX4_product 30 = .ok (.ixor, 1) := by decide +kernel
theorem dX4_product_31 : decode cX4_product 31 = .ok (.istore_n 2, 1) := by decide +kernel
theorem dX4_product_32 : decode cX4_product 32 = .ok (.iload_n 3, 1) := by decide +kernel
theorem dX4_product_33 : decode cX4_product 33 = .ok (.iconst 1, 1) := by decide +kernel
theorem dX4_product_34 : decode cX4_product 34 = .ok (.ishl, 1) := by decide +kernel
theorem dX4_product_35 : decode cX4_product 35 = .ok (.istore_n 3, 1) := by decide +kernel
theorem dX4_product_36 : decode cX4_product 36 = .ok (.iload_n 3, 1) := by decide +kernel
theorem dX4_product_37 : decode cX4_product 37 = .ok (.iload_n 3, 1) := by decide +kernel
theorem dX4_product_38 : decode cX4_product 38 = .ok (.sipush 255, 3) := by decide +kernel
theorem dX4_product_41 : decode cX4_product 41 = .ok (.if_icmp .le 9, 3) := by decide +kernel
theorem dX4_product_44 : decode cX4_product 44 = .ok (.sipush 285, 3) := by decide +kernel
theorem dX4_product_47 : decode cX4_product 47 = .ok (.goto 4, 3) := by decide +kernel
theorem dX4_product_50 : decode cX4_product 50 = .ok (.iconst 0, 1) := by decide +kernel
theorem dX4_product_51 : decode cX4_product 51 = .ok (.ixor, 1) := by decide +kernel
theorem dX4_product_52 : decode cX4_product 52 = .ok (.istore_n 3, 1) := by decide +kernel
theorem dX4_product_53 : decode cX4_product 53 = .ok (.iinc 4 1, 3) := by decide +kernel
theorem dX4_product_56 : decode cX4_product 56 = .ok (.goto (-49), 3) := by decide +kernel
theorem dX4_product_59 : decode cX4_product 59 = .ok (.iload_n 2, 1) := by decide +kernel
theorem dX4_product_60 : decode cX4_product 60 = .ok (.ireturn, 1) := by decide +kernel
set_option maxRecDepth 20000 in
theorem ggX4_inverse_X4_product : GoodIn wsX4_inverse wsX4_product := goodIn_r _ [4] (by decide +kernel) (by decide +kernel)
set_option maxRecDepth 20000 in
theorem gX4_inverse_X4_product : GoodIn wsX4_inverse (va_wsS RX4 79 yX4_product wsX4_product) := goodIn_app (goodIn_of _ (by decide +kernel)) ggX4_inverse_X4_product
theorem dX4_inverse_0 : decode cX4_inverse 0 = .ok (.iconst 1, 1) := by decide +kernel
theorem dX4_inverse_1 : decode cX4_inverse 1 = .ok (.istore_n 1, 1) := by decide +kernel
theorem dX4_inverse_2 : decode cX4_inverse 2 = .ok (.iload_n 0, 1) := by decide +kernel
theorem dX4_inverse_3 : decode cX4_inverse 3 = .ok (.iload_n 1, 1) := by decide +kernel
theorem dX4_inverse_4 : decode cX4_inverse 4 = .ok (.invokestatic 79, 3) := by decide +kernel
theorem dX4_inverse_7 : decode cX4_inverse 7 = .ok (.iconst 1, 1) := by decide +kernel
theorem dX4_inverse_8 : decode cX4_inverse 8 = .ok (.if_icmp .eq 9, 3) := by decide +kernel
theorem dX4_inverse_11 : decode cX4_inverse 11 = .ok (.iinc 1 1, 3) := by decide +kernel
theorem dX4_inverse_14 : decode cX4_inverse 14 = .ok (.goto (-12), 3) := by decide +kernel
theorem dX4_inverse_17 : decode cX4_inverse 17 = .ok (.iload_n 1, 1) := by decide +kernel
theorem dX4_inverse_18 : decode cX4_inverse 18 = .ok (.ireturn, 1) := by decide +kernel
set_option maxRecDepth 20000 in
theorem ggX4_times_X4_in : GoodIn wsX4_times wsX4_in := goodIn_r _ [5] (by decide +kernel) (by decide +kernel)
set_option maxRecDepth 20000 in
theorem gX4_times_X4_in : GoodIn wsX4_times (va_wsS RX4 45 yX4_in wsX4_in) := goodIn_app (goodIn_of _ (by decide +kernel)) ggX4_times_X4_in
set_option maxRecDepth 20000 in
theorem ggX4_times_X4_product : GoodIn wsX4_times wsX4_product := goodIn_r _ [8] (by decide +kernel) (by decide +kernel)
set_option maxRecDepth 20000 in
theorem gX4_times_X4_product : GoodIn wsX4_times (va_wsS RX4 79 yX4_product wsX4_product) := goodIn_app (goodIn_of _ (by decide +kernel)) ggX4_times_X4_product
theorem dX4_times_0 : decode cX4_times 0 = .ok (.aload_n 0, 1) := by decide +kernel
theorem dX4_times_1 : decode cX4_times 1 = .ok (.iload_n 1, 1) := by decide +kernel
theorem dX4_times_2 : decode cX4_times 2 = .ok (.iconst 0, 1) := by decide +kernel
theorem dX4_times_3 : decode cX4_times 3 = .ok (.sipush 255, 3) := by decide +kernel
theorem dX4_times_6 : decode cX4_times 6 = .ok (.invokestatic 45, 3) := by decide +kernel
theorem dX4_times_9 : decode cX4_times 9 = .ok (.ifCond .eq 18, 3) := by decide +kernel
theorem dX4_times_12 : decode cX4_times 12 = .ok (.iload_n 2, 1) := by decide +kernel
theorem dX4_times_13 : decode cX4_times 13 = .ok (.iconst 0, 1) := by decide +kernel
theorem dX4_times_14 : decode cX4_times 14 = .ok (.sipush 255, 3) := by decide +kernel
theorem dX4_times_17 : decode cX4_times 17 = .ok (.invokestatic 45, 3) := by decide +kernel
theorem dX4_times_20 : decode cX4_times 20 = .ok (.ifCond .eq 7, 3) := by decide +kernel
theorem dX4_times_23 : decode cX4_times 23 = .ok (.iconst 0, 1) := by decide +kernel
theorem dX4_times_24 : decode cX4_times 24 = .ok (.goto 4, 3) := by decide +kernel
theorem dX4_times_27 : decode cX4_times 27 = .ok (.iconst 1, 1) := by decide +kernel
theorem dX4_times_28 : decode cX4_times 28 = .ok (.putfield 39, 3) := by decide +kernel
theorem dX4_times_31 : decode cX4_times 31 = .ok (.aload_n 0, 1) := by decide +kernel
theorem dX4_times_32 : decode cX4_times 32 = .ok (.getfield 39, 3) := by decide +kernel
theorem dX4_times_35 : decode cX4_times 35 = .ok (.ifCond .ne 11, 3) := by decide +kernel
theorem dX4_times_38 : decode cX4_times 38 = .ok (.iload_n 1, 1) := by decide +kernel
theorem dX4_times_39 : decode cX4_times 39 = .ok (.iload_n 2, 1) := by decide +kernel
theorem dX4_times_40 : decode cX4_times 40 = .ok (.invokestatic 79, 3) := by decide +kernel
theorem dX4_times_43 : decode cX4_times 43 = .ok (.goto 4, 3) := by decide +kernel
theorem dX4_times_46 : decode cX4_times 46 = .ok (.iconst 0, 1) := by decide +kernel
theorem dX4_times_47 : decode cX4_times 47 = .ok (.ireturn, 1) := by decide +kernel
set_option maxRecDepth 20000 in
theorem ggX4_packet_X4_in : GoodIn wsX4_packet wsX4_in := goodIn_r _ [7] (by decide +kernel) (by decide +kernel)
set_option maxRecDepth 20000 in
theorem gX4_packet_X4_in : GoodIn wsX4_packet (va_wsS RX4 45 yX4_in wsX4_in) := goodIn_app (goodIn_of _ (by decide +kernel)) ggX4_packet_X4_in
set_option maxRecDepth 20000 in
theorem ggX4_packet_X4_product : GoodIn wsX4_packet wsX4_product := goodIn_r _ [10] (by decide +kernel) (by decide +kernel)
set_option maxRecDepth 20000 in
theorem gX4_packet_X4_product : GoodIn wsX4_packet (va_wsS RX4 79 yX4_product wsX4_product) := goodIn_app (goodIn_of _ (by decide +kernel)) ggX4_packet_X4_product
set_option maxRecDepth 20000 in
theorem ggX4_packet_X4_inverse : GoodIn wsX4_packet wsX4_inverse := goodIn_r _ [13, 8, 9, 6, 10] (by decide +kernel) (by decide +kernel)
set_option maxRecDepth 20000 in
theorem gX4_packet_X4_inverse : GoodIn wsX4_packet (va_wsS RX4 82 yX4_inverse wsX4_inverse) := goodIn_app (goodIn_of _ (by decide +kernel)) ggX4_packet_X4_inverse
theorem dX4_packet_0 : decode cX4_packet 0 = .ok (.aload_n 0, 1) := by decide +kernel
theorem dX4_packet_1 : decode cX4_packet 1 = .ok (.iload_n 1, 1) := by decide +kernel
theorem dX4_packet_2 : decode cX4_packet 2 = .ok (.iconst 0, 1) := by decide +kernel
theorem dX4_packet_3 : decode cX4_packet 3 = .ok (.bipush 15, 2) := by decide +kernel
theorem dX4_packet_5 : decode cX4_packet 5 = .ok (.invokestatic 45, 3) := by decide +kernel
theorem dX4_packet_8 : decode cX4_packet 8 = .ok (.ifCond .eq 7, 3) := by decide +kernel
theorem dX4_packet_11 : decode cX4_packet 11 = .ok (.iconst 0, 1) := by decide +kernel
theorem dX4_packet_12 : decode cX4_packet 12 = .ok (.goto 4, 3) := by decide +kernel
theorem dX4_packet_15 : decode cX4_packet 15 = .ok (.iconst 1, 1) := by decide +kernel
theorem dX4_packet_16 : decode cX4_packet 16 = .ok (.putfield 39, 3) := by decide +kernel
theorem dX4_packet_19 : decode cX4_packet 19 = .ok (.aload_n 0, 1) := by decide +kernel
theorem dX4_packet_20 : decode cX4_packet 20 = .ok (.getfield 39, 3) := by decide +kernel
theorem dX4_packet_23 : decode cX4_packet 23 = .ok (.ifCond .le 5, 3) := by decide +kernel
theorem dX4_packet_26 : decode cX4_packet 26 = .ok (.iconst 0, 1) := by decide +kernel
theorem dX4_packet_27 : decode cX4_packet 27 = .ok (.ireturn, 1) := by decide +kernel
theorem dX4_packet_28 : decode cX4_packet 28 = .ok (.iload_n 1, 1) := by decide +kernel
theorem dX4_packet_29 : decode cX4_packet 29 = .ok (.aload_n 0, 1) := by decide +kernel
theorem dX4_packet_30 : decode cX4_packet 30 = .ok (.getfield 32, 3) := by decide +kernel
theorem dX4_packet_33 : decode cX4_packet 33 = .ok (.if_icmp .ge 10, 3) := by decide +kernel
theorem dX4_packet_36 : decode cX4_packet 36 = .ok (.aload_n 0, 1) := by decide +kernel
theorem dX4_packet_37 : decode cX4_packet 37 = .ok (.getfield 7, 3) := by decide +kernel
theorem dX4_packet_40 : decode cX4_packet 40 = .ok (.iload_n 1, 1) := by decide +kernel
theorem dX4_packet_41 : decode cX4_packet 41 = .ok (.iaload, 1) := by decide +kernel
theorem dX4_packet_42 : decode cX4_packet 42 = .ok (.ireturn, 1) := by decide +kernel
theorem dX4_packet_43 : decode cX4_packet 43 = .ok (.iconst 0, 1) := by decide +kernel
theorem dX4_packet_44 : decode cX4_packet 44 = .ok (.istore_n 2, 1) := by decide +kernel
theorem dX4_packet_45 : decode cX4_packet 45 = .ok (.iconst 0, 1) := by decide +kernel
theorem dX4_packet_46 : decode cX4_packet 46 = .ok (.istore_n 3, 1) := by decide +kernel
theorem dX4_packet_47 : decode cX4_packet 47 = .ok (.iload_n 3, 1) := by decide +kernel
theorem dX4_packet_48 : decode cX4_packet 48 = .ok (.aload_n 0, 1) := by decide +kernel
theorem dX4_packet_49 : decode cX4_packet 49 = .ok (.getfield 32, 3) := by decide +kernel
theorem dX4_packet_52 : decode cX4_packet 52 = .ok (.if_icmp .ge 95, 3) := by decide +kernel
theorem dX4_packet_55 : decode cX4_packet 55 = .ok (.aload_n 0, 1) := by decide +kernel
theorem dX4_packet_56 : decode cX4_packet 56 = .ok (.getfield 7, 3) := by decide +kernel
theorem dX4_packet_59 : decode cX4_packet 59 = .ok (.iload_n 3, 1) := by decide +kernel
theorem dX4_packet_60 : decode cX4_packet 60 = .ok (.iaload, 1) := by decide +kernel
theorem dX4_packet_61 : decode cX4_packet 61 = .ok (.istore 4, 2) := by decide +kernel
theorem dX4_packet_63 : decode cX4_packet 63 = .ok (.iconst 1, 1) := by decide +kernel
theorem dX4_packet_64 : decode cX4_packet 64 = .ok (.istore 5, 2) := by decide +kernel
theorem dX4_packet_66 : decode cX4_packet 66 = .ok (.iconst 0, 1) := by decide +kernel
theorem dX4_packet_67 : decode cX4_packet 67 = .ok (.istore 6, 2) := by decide +kernel
theorem dX4_packet_69 : decode cX4_packet 69 = .ok (.iload 6, 2) := by decide +kernel
theorem dX4_packet_71 : decode cX4_packet 71 = .ok (.aload_n 0, 1) := by decide +kernel
theorem dX4_packet_72 : decode cX4_packet 72 = .ok (.getfield 32, 3) := by decide +kernel
theorem dX4_packet_75 : decode cX4_packet 75 = .ok (.if_icmp .ge 53, 3) := by decide +kernel
theorem dX4_packet_78 : decode cX4_packet 78 = .ok (.iload 6, 2) := by decide +kernel
theorem dX4_packet_80 : decode cX4_packet 80 = .ok (.iload_n 3, 1) := by decide +kernel
theorem dX4_packet_81 : decode cX4_packet 81 = .ok (.if_icmp .ne 8, 3) := by decide +kernel
theorem dX4_packet_84 : decode cX4_packet 84 = .ok (.iload 4, 2) := by decide +kernel
theorem dX4_packet_86 : decode cX4_packet 86 = .ok (.goto 12, 3) := by decide +kernel
theorem dX4_packet_89 : decode cX4_packet 89 = .ok (.iload 4, 2) := by decide +kernel
theorem dX4_packet_91 : decode cX4_packet 91 = .ok (.iload_n 1, 1) := by decide +kernel
theorem dX4_packet_92 : decode cX4_packet 92 = .ok (.iload 6, 2) := by decide +kernel
theorem dX4_packet_94 : decode cX4_packet 94 = .ok (.ixor, 1) := by decide +kernel
theorem dX4_packet_95 : decode cX4_packet 95 = .ok (.invokestatic 79, 3) := by decide +kernel
theorem dX4_packet_98 : decode cX4_packet 98 = .ok (.istore 4, 2) := by decide +kernel
theorem dX4_packet_100 : decode cX4_packet 100 = .ok (.iload 6, 2) := by decide +kernel
theorem dX4_packet_102 : decode cX4_packet 102 = .ok (.iload_n 3, 1) := by decide +kernel
theorem dX4_packet_103 : decode cX4_packet 103 = .ok (.if_icmp .ne 8, 3) := by decide +kernel
theorem dX4_packet_106 : decode cX4_packet 106 = .ok (.iload 5, 2) := by decide +kernel
theorem dX4_packet_108 : decode cX4_packet 108 = .ok (.goto 12, 3) := by decide +kernel
theorem dX4_packet_111 : decode cX4_packet 111 = .ok (.iload 5, 2) := by decide +kernel
theorem dX4_packet_113 : decode cX4_packet 113 = .ok (.iload_n 3, 1) := by decide +kernel
theorem dX4_packet_114 : decode cX4_packet 114 = .ok (.iload 6, 2) := by decide +kernel
theorem dX4_packet_116 : decode cX4_packet 116 = .ok (.ixor, 1) := by decide +kernel
theorem dX4_packet_117 : decode cX4_packet 117 = .ok (.invokestatic 79, 3) := by decide +kernel
theorem dX4_packet_120 : decode cX4_packet 120 = .ok (.istore 5, 2) := by decide +kernel
theorem dX4_packet_122 : decode cX4_packet 122 = .ok (.iinc 6 1, 3) := by decide +kernel
theorem dX4_packet_125 : decode cX4_packet 125 = .ok (.goto (-56), 3) := by decide +kernel
theorem dX4_packet_128 : decode cX4_packet 128 = .ok (.iload_n 2, 1) := by decide +kernel
theorem dX4_packet_129 : decode cX4_packet 129 = .ok (.iload 4, 2) := by decide +kernel
theorem dX4_packet_131 : decode cX4_packet 131 = .ok (.iload 5, 2) := by decide +kernel
theorem dX4_packet_133 : decode cX4_packet 133 = .ok (.invokestatic 82, 3) := by decide +kernel
theorem dX4_packet_136 : decode cX4_packet 136 = .ok (.invokestatic 79, 3) := by decide +kernel
theorem dX4_packet_139 : decode cX4_packet 139 = .ok (.ixor, 1) := by decide +kernel
theorem dX4_packet_140 : decode cX4_packet 140 = .ok (.istore_n 2, 1) := by decide +kernel
theorem dX4_packet_141 : decode cX4_packet 141 = .ok (.iinc 3 1, 3) := by decide +kernel
theorem dX4_packet_144 : decode cX4_packet 144 = .ok (.goto (-97), 3) := by decide +kernel
theorem dX4_packet_147 : decode cX4_packet 147 = .ok (.iload_n 2, 1) := by decide +kernel
theorem dX4_packet_148 : decode cX4_packet 148 = .ok (.ireturn, 1) := by decide +kernel
set_option maxRecDepth 20000 in
theorem ggX4_rebuilt_X4_isReceiver : GoodIn wsX4_rebuilt wsX4_isReceiver := goodIn_r _ [8, 9, 10, 11, 7, 12, 18, 19, 20, 21, 22, 23, 24, 25, 26, 27, 28, 29, 30, 31] (by decide +kernel) (by decide +kernel)
set_option maxRecDepth 20000 in
theorem gX4_rebuilt_X4_isReceiver : GoodIn wsX4_rebuilt (wsV RX4 58 RX4 yX4_isReceiver wsX4_isReceiver) := goodIn_app (goodIn_of _ (by decide +kernel)) ggX4_rebuilt_X4_isReceiver
set_option maxRecDepth 20000 in
theorem ggX4_rebuilt_X4_in : GoodIn wsX4_rebuilt wsX4_in := goodIn_r _ [12] (by decide +kernel) (by decide +kernel)
set_option maxRecDepth 20000 in
theorem gX4_rebuilt_X4_in : GoodIn wsX4_rebuilt (va_wsS RX4 45 yX4_in wsX4_in) := goodIn_app (goodIn_of _ (by decide +kernel)) ggX4_rebuilt_X4_in
set_option maxRecDepth 20000 in
theorem ggX4_rebuilt_X4_needOf : GoodIn wsX4_rebuilt wsX4_needOf := goodIn_r _ [16, 1, 17, 18, 19, 20, 21, 22, 23, 24, 25, 26, 27, 28, 29, 30, 31] (by decide +kernel) (by decide +kernel)
set_option maxRecDepth 20000 in
theorem gX4_rebuilt_X4_needOf : GoodIn wsX4_rebuilt (wsV RX4 65 RX4 yX4_needOf wsX4_needOf) := goodIn_app (goodIn_of _ (by decide +kernel)) ggX4_rebuilt_X4_needOf
theorem dX4_rebuilt_0 : decode cX4_rebuilt 0 = .ok (.aload_n 0, 1) := by decide +kernel
theorem dX4_rebuilt_1 : decode cX4_rebuilt 1 = .ok (.aload_n 0, 1) := by decide +kernel
theorem dX4_rebuilt_2 : decode cX4_rebuilt 2 = .ok (.iload_n 1, 1) := by decide +kernel
theorem dX4_rebuilt_3 : decode cX4_rebuilt 3 = .ok (.invokevirtual 58, 3) := by decide +kernel
theorem dX4_rebuilt_6 : decode cX4_rebuilt 6 = .ok (.ifCond .eq 17, 3) := by decide +kernel
theorem dX4_rebuilt_9 : decode cX4_rebuilt 9 = .ok (.iload_n 2, 1) := by decide +kernel
theorem dX4_rebuilt_10 : decode cX4_rebuilt 10 = .ok (.iconst 0, 1) := by decide +kernel
theorem dX4_rebuilt_11 : decode cX4_rebuilt 11 = .ok (.aload_n 0, 1) := by decide +kernel
theorem dX4_rebuilt_12 : decode cX4_rebuilt 12 = .ok (.getfield 32, 3) := by decide +kernel
theorem dX4_rebuilt_15 : decode cX4_rebuilt 15 = .ok (.iconst 1, 1) := by decide +kernel
theorem dX4_rebuilt_16 : decode cX4_rebuilt 16 = .ok (.isub, 1) := by decide +kernel
theorem dX4_rebuilt_17 : decode cX4_rebuilt 17 = .ok (.invokestatic 45, 3) := by decide +kernel
theorem dX4_rebuilt_20 : decode cX4_rebuilt 20 = .ok (.ifCond .ne 7, 3) := by decide +kernel
theorem dX4_rebuilt_23 : decode cX4_rebuilt 23 = .ok (.iconst 1, 1) := by decide +kernel
theorem dX4_rebuilt_24 : decode cX4_rebuilt 24 = .ok (.goto 16, 3) := by decide +kernel
theorem dX4_rebuilt_27 : decode cX4_rebuilt 27 = .ok (.aload_n 0, 1) := by decide +kernel
theorem dX4_rebuilt_28 : decode cX4_rebuilt 28 = .ok (.iload_n 1, 1) := by decide +kernel
theorem dX4_rebuilt_29 : decode cX4_rebuilt 29 = .ok (.invokevirtual 65, 3) := by decide +kernel
theorem dX4_rebuilt_32 : decode cX4_rebuilt 32 = .ok (.ifCond .le 7, 3) := by decide +kernel
theorem dX4_rebuilt_35 : decode cX4_rebuilt 35 = .ok (.iconst 2, 1) := by decide +kernel
theorem dX4_rebuilt_36 : decode cX4_rebuilt 36 = .ok (.goto 4, 3) := by decide +kernel
theorem dX4_rebuilt_39 : decode cX4_rebuilt 39 = .ok (.iconst 0, 1) := by decide +kernel
theorem dX4_rebuilt_40 : decode cX4_rebuilt 40 = .ok (.putfield 39, 3) := by decide +kernel
theorem dX4_rebuilt_43 : decode cX4_rebuilt 43 = .ok (.aload_n 0, 1) := by decide +kernel
theorem dX4_rebuilt_44 : decode cX4_rebuilt 44 = .ok (.getfield 39, 3) := by decide +kernel
theorem dX4_rebuilt_47 : decode cX4_rebuilt 47 = .ok (.ifCond .ne 12, 3) := by decide +kernel
theorem dX4_rebuilt_50 : decode cX4_rebuilt 50 = .ok (.aload_n 0, 1) := by decide +kernel
theorem dX4_rebuilt_51 : decode cX4_rebuilt 51 = .ok (.getfield 7, 3) := by decide +kernel
theorem dX4_rebuilt_54 : decode cX4_rebuilt 54 = .ok (.iload_n 2, 1) := by decide +kernel
theorem dX4_rebuilt_55 : decode cX4_rebuilt 55 = .ok (.iaload, 1) := by decide +kernel
theorem dX4_rebuilt_56 : decode cX4_rebuilt 56 = .ok (.goto 4, 3) := by decide +kernel
theorem dX4_rebuilt_59 : decode cX4_rebuilt 59 = .ok (.iconst 0, 1) := by decide +kernel
theorem dX4_rebuilt_60 : decode cX4_rebuilt 60 = .ok (.ireturn, 1) := by decide +kernel
set_option maxRecDepth 20000 in
theorem ggX4_rebuiltByElimination_X4_rebuilt : GoodIn wsX4_rebuiltByElimination wsX4_rebuilt := goodIn_r _ [5, 6, 7, 8, 9, 10, 11, 4, 12, 13, 14, 15, 16, 17, 18, 19, 20, 21, 22, 23, 24, 25, 26, 27, 28, 29, 30, 31, 32, 33, 34, 35] (by decide +kernel) (by decide +kernel)
set_option maxRecDepth 20000 in
theorem gX4_rebuiltByElimination_X4_rebuilt : GoodIn wsX4_rebuiltByElimination (wsV RX4 85 RX4 yX4_rebuilt wsX4_rebuilt) := goodIn_app (goodIn_of _ (by decide +kernel)) ggX4_rebuiltByElimination_X4_rebuilt
theorem dX4_rebuiltByElimination_0 : decode cX4_rebuiltByElimination 0 = .ok (.aload_n 0, 1) := by decide +kernel
theorem dX4_rebuiltByElimination_1 : decode cX4_rebuiltByElimination 1 = .ok (.iload_n 1, 1) := by decide +kernel
theorem dX4_rebuiltByElimination_2 : decode cX4_rebuiltByElimination 2 = .ok (.iload_n 2, 1) := by decide +kernel
theorem dX4_rebuiltByElimination_3 : decode cX4_rebuiltByElimination 3 = .ok (.invokevirtual 85, 3) := by decide +kernel
theorem dX4_rebuiltByElimination_6 : decode cX4_rebuiltByElimination 6 = .ok (.ireturn, 1) := by decide +kernel
