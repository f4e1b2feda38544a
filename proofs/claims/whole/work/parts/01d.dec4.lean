theorem dX4_init_0 : decode cX4_init 0 = .ok (.aload_n 0, 1) := by decide +kernel
theorem dX4_init_1 : decode cX4_init 1 = .ok (.invokespecial 1, 3) := by decide +kernel
theorem dX4_init_4 : decode cX4_init 4 = .ok (.aload_n 0, 1) := by decide +kernel
theorem dX4_init_5 : decode cX4_init 5 = .ok (.sipush 200, 3) := by decide +kernel
theorem dX4_init_8 : decode cX4_init 8 = .ok (.newarray .int, 2) := by decide +kernel
theorem dX4_init_10 : decode cX4_init 10 = .ok (.putfield 7, 3) := by decide +kernel
theorem dX4_init_13 : decode cX4_init 13 = .ok (.aload_n 0, 1) := by decide +kernel
theorem dX4_init_14 : decode cX4_init 14 = .ok (.sipush 200, 3) := by decide +kernel
theorem dX4_init_17 : decode cX4_init 17 = .ok (.newarray .int, 2) := by decide +kernel
theorem dX4_init_19 : decode cX4_init 19 = .ok (.putfield 13, 3) := by decide +kernel
theorem dX4_init_22 : decode cX4_init 22 = .ok (.aload_n 0, 1) := by decide +kernel
theorem dX4_init_23 : decode cX4_init 23 = .ok (.sipush 800, 3) := by decide +kernel
theorem dX4_init_26 : decode cX4_init 26 = .ok (.newarray .int, 2) := by decide +kernel
theorem dX4_init_28 : decode cX4_init 28 = .ok (.putfield 16, 3) := by decide +kernel
theorem dX4_init_31 : decode cX4_init 31 = .ok (.aload_n 0, 1) := by decide +kernel
theorem dX4_init_32 : decode cX4_init 32 = .ok (.sipush 200, 3) := by decide +kernel
theorem dX4_init_35 : decode cX4_init 35 = .ok (.newarray .int, 2) := by decide +kernel
theorem dX4_init_37 : decode cX4_init 37 = .ok (.putfield 19, 3) := by decide +kernel
theorem dX4_init_40 : decode cX4_init 40 = .ok (.aload_n 0, 1) := by decide +kernel
theorem dX4_init_41 : decode cX4_init 41 = .ok (.bipush 60, 2) := by decide +kernel
theorem dX4_init_43 : decode cX4_init 43 = .ok (.newarray .int, 2) := by decide +kernel
theorem dX4_init_45 : decode cX4_init 45 = .ok (.putfield 22, 3) := by decide +kernel
theorem dX4_init_48 : decode cX4_init 48 = .ok (.aload_n 0, 1) := by decide +kernel
theorem dX4_init_49 : decode cX4_init 49 = .ok (.bipush 96, 2) := by decide +kernel
theorem dX4_init_51 : decode cX4_init 51 = .ok (.newarray .int, 2) := by decide +kernel
theorem dX4_init_53 : decode cX4_init 53 = .ok (.putfield 25, 3) := by decide +kernel
theorem dX4_init_56 : decode cX4_init 56 = .ok (.aload_n 0, 1) := by decide +kernel
theorem dX4_init_57 : decode cX4_init 57 = .ok (.iconst 0, 1) := by decide +kernel
theorem dX4_init_58 : decode cX4_init 58 = .ok (.putfield 28, 3) := by decide +kernel
theorem dX4_init_61 : decode cX4_init 61 = .ok (.aload_n 0, 1) := by decide +kernel
theorem dX4_init_62 : decode cX4_init 62 = .ok (.getfield 7, 3) := by decide +kernel
theorem dX4_init_65 : decode cX4_init 65 = .ok (.iconst 0, 1) := by decide +kernel
theorem dX4_init_66 : decode cX4_init 66 = .ok (.bipush 31, 2) := by decide +kernel
theorem dX4_init_68 : decode cX4_init 68 = .ok (.iastore, 1) := by decide +kernel
theorem dX4_init_69 : decode cX4_init 69 = .ok (.aload_n 0, 1) := by decide +kernel
theorem dX4_init_70 : decode cX4_init 70 = .ok (.getfield 7, 3) := by decide +kernel
theorem dX4_init_73 : decode cX4_init 73 = .ok (.iconst 1, 1) := by decide +kernel
theorem dX4_init_74 : decode cX4_init 74 = .ok (.bipush 17, 2) := by decide +kernel
theorem dX4_init_76 : decode cX4_init 76 = .ok (.iastore, 1) := by decide +kernel
theorem dX4_init_77 : decode cX4_init 77 = .ok (.aload_n 0, 1) := by decide +kernel
theorem dX4_init_78 : decode cX4_init 78 = .ok (.getfield 7, 3) := by decide +kernel
theorem dX4_init_81 : decode cX4_init 81 = .ok (.iconst 2, 1) := by decide +kernel
theorem dX4_init_82 : decode cX4_init 82 = .ok (.bipush 97, 2) := by decide +kernel
theorem dX4_init_84 : decode cX4_init 84 = .ok (.iastore, 1) := by decide +kernel
theorem dX4_init_85 : decode cX4_init 85 = .ok (.aload_n 0, 1) := by decide +kernel
theorem dX4_init_86 : decode cX4_init 86 = .ok (.getfield 7, 3) := by decide +kernel
theorem dX4_init_89 : decode cX4_init 89 = .ok (.iconst 3, 1) := by decide +kernel
theorem dX4_init_90 : decode cX4_init 90 = .ok (.bipush 10, 2) := by decide +kernel
theorem dX4_init_92 : decode cX4_init 92 = .ok (.iastore, 1) := by decide +kernel
theorem dX4_init_93 : decode cX4_init 93 = .ok (.aload_n 0, 1) := by decide +kernel
theorem dX4_init_94 : decode cX4_init 94 = .ok (.getfield 7, 3) := by decide +kernel
theorem dX4_init_97 : decode cX4_init 97 = .ok (.iconst 4, 1) := by decide +kernel
theorem dX4_init_98 : decode cX4_init 98 = .ok (.iconst 5, 1) := by decide +kernel
theorem dX4_init_99 : decode cX4_init 99 = .ok (.iastore, 1) := by decide +kernel
theorem dX4_init_100 : decode cX4_init 100 = .ok (.return_, 1) := by decide +kernel
theorem dX4_in_0 : decode cX4_in 0 = .ok (.iload_n 0, 1) := by decide +kernel
theorem dX4_in_1 : decode cX4_in 1 = .ok (.iload_n 1, 1) := by decide +kernel
theorem dX4_in_2 : decode cX4_in 2 = .ok (.if_icmp .lt 12, 3) := by decide +kernel
theorem dX4_in_5 : decode cX4_in 5 = .ok (.iload_n 0, 1) := by decide +kernel
theorem dX4_in_6 : decode cX4_in 6 = .ok (.iload_n 2, 1) := by decide +kernel
theorem dX4_in_7 : decode cX4_in 7 = .ok (.if_icmp .gt 7, 3) := by decide +kernel
theorem dX4_in_10 : decode cX4_in 10 = .ok (.iconst 1, 1) := by decide +kernel
theorem dX4_in_11 : decode cX4_in 11 = .ok (.goto 4, 3) := by decide +kernel
theorem dX4_in_14 : decode cX4_in 14 = .ok (.iconst 0, 1) := by decide +kernel
theorem dX4_in_15 : decode cX4_in 15 = .ok (.ireturn, 1) := by decide +kernel
set_option maxRecDepth 20000 in
theorem ggX4_isCart_X4_in : GoodIn wsX4_isCart wsX4_in := goodIn_r _ [5] (by decide +kernel) (by decide +kernel)
set_option maxRecDepth 20000 in
theorem gX4_isCart_X4_in : GoodIn wsX4_isCart (va_wsS RX4 32 yX4_in wsX4_in) := goodIn_app (goodIn_of _ (by decide +kernel)) ggX4_isCart_X4_in
theorem dX4_isCart_0 : decode cX4_isCart 0 = .ok (.iload_n 1, 1) := by decide +kernel
theorem dX4_isCart_1 : decode cX4_isCart 1 = .ok (.iconst 0, 1) := by decide +kernel
theorem dX4_isCart_2 : decode cX4_isCart 2 = .ok (.aload_n 0, 1) := by decide +kernel
theorem dX4_isCart_3 : decode cX4_isCart 3 = .ok (.getfield 7, 3) := by decide +kernel
theorem dX4_isCart_6 : decode cX4_isCart 6 = .ok (.iconst 5, 1) := by decide +kernel
theorem dX4_isCart_7 : decode cX4_isCart 7 = .ok (.iaload, 1) := by decide +kernel
theorem dX4_isCart_8 : decode cX4_isCart 8 = .ok (.iconst 1, 1) := by decide +kernel
theorem dX4_isCart_9 : decode cX4_isCart 9 = .ok (.isub, 1) := by decide +kernel
theorem dX4_isCart_10 : decode cX4_isCart 10 = .ok (.invokestatic 32, 3) := by decide +kernel
theorem dX4_isCart_13 : decode cX4_isCart 13 = .ok (.ireturn, 1) := by decide +kernel
theorem dX4_of_0 : decode cX4_of 0 = .ok (.aload_n 0, 1) := by decide +kernel
theorem dX4_of_1 : decode cX4_of 1 = .ok (.getfield 7, 3) := by decide +kernel
theorem dX4_of_4 : decode cX4_of 4 = .ok (.bipush 8, 2) := by decide +kernel
theorem dX4_of_6 : decode cX4_of 6 = .ok (.bipush 8, 2) := by decide +kernel
theorem dX4_of_8 : decode cX4_of 8 = .ok (.iload_n 1, 1) := by decide +kernel
theorem dX4_of_9 : decode cX4_of 9 = .ok (.imul, 1) := by decide +kernel
theorem dX4_of_10 : decode cX4_of 10 = .ok (.iadd, 1) := by decide +kernel
theorem dX4_of_11 : decode cX4_of 11 = .ok (.iload_n 2, 1) := by decide +kernel
theorem dX4_of_12 : decode cX4_of 12 = .ok (.iadd, 1) := by decide +kernel
theorem dX4_of_13 : decode cX4_of 13 = .ok (.iaload, 1) := by decide +kernel
theorem dX4_of_14 : decode cX4_of 14 = .ok (.ireturn, 1) := by decide +kernel
theorem dX4_lay_0 : decode cX4_lay 0 = .ok (.aload_n 0, 1) := by decide +kernel
theorem dX4_lay_1 : decode cX4_lay 1 = .ok (.getfield 7, 3) := by decide +kernel
theorem dX4_lay_4 : decode cX4_lay 4 = .ok (.bipush 8, 2) := by decide +kernel
theorem dX4_lay_6 : decode cX4_lay 6 = .ok (.bipush 8, 2) := by decide +kernel
theorem dX4_lay_8 : decode cX4_lay 8 = .ok (.iload_n 1, 1) := by decide +kernel
theorem dX4_lay_9 : decode cX4_lay 9 = .ok (.imul, 1) := by decide +kernel
theorem dX4_lay_10 : decode cX4_lay 10 = .ok (.iadd, 1) := by decide +kernel
theorem dX4_lay_11 : decode cX4_lay 11 = .ok (.iload_n 2, 1) := by decide +kernel
theorem dX4_lay_12 : decode cX4_lay 12 = .ok (.iadd, 1) := by decide +kernel
theorem dX4_lay_13 : decode cX4_lay 13 = .ok (.iload_n 3, 1) := by decide +kernel
theorem dX4_lay_14 : decode cX4_lay 14 = .ok (.iastore, 1) := by decide +kernel
theorem dX4_lay_15 : decode cX4_lay 15 = .ok (.return_, 1) := by decide +kernel
theorem dX4_records_0 : decode cX4_records 0 = .ok (.aload_n 0, 1) := by decide +kernel
theorem dX4_records_1 : decode cX4_records 1 = .ok (.getfield 36, 3) := by decide +kernel
theorem dX4_records_4 : decode cX4_records 4 = .ok (.iconst 4, 1) := by decide +kernel
theorem dX4_records_5 : decode cX4_records 5 = .ok (.if_icmp .ne 44, 3) := by decide +kernel
theorem dX4_records_8 : decode cX4_records 8 = .ok (.iconst 0, 1) := by decide +kernel
theorem dX4_records_9 : decode cX4_records 9 = .ok (.istore_n 1, 1) := by decide +kernel
theorem dX4_records_10 : decode cX4_records 10 = .ok (.iload_n 1, 1) := by decide +kernel
theorem dX4_records_11 : decode cX4_records 11 = .ok (.sipush 600, 3) := by decide +kernel
theorem dX4_records_14 : decode cX4_records 14 = .ok (.if_icmp .ge 25, 3) := by decide +kernel
theorem dX4_records_17 : decode cX4_records 17 = .ok (.aload_n 0, 1) := by decide +kernel
theorem dX4_records_18 : decode cX4_records 18 = .ok (.getfield 16, 3) := by decide +kernel
theorem dX4_records_21 : decode cX4_records 21 = .ok (.iload_n 1, 1) := by decide +kernel
theorem dX4_records_22 : decode cX4_records 22 = .ok (.aload_n 0, 1) := by decide +kernel
theorem dX4_records_23 : decode cX4_records 23 = .ok (.getfield 16, 3) := by decide +kernel
theorem dX4_records_26 : decode cX4_records 26 = .ok (.iload_n 1, 1) := by decide +kernel
theorem dX4_records_27 : decode cX4_records 27 = .ok (.sipush 200, 3) := by decide +kernel
theorem dX4_records_30 : decode cX4_records 30 = .ok (.iadd, 1) := by decide +kernel
theorem dX4_records_31 : decode cX4_records 31 = .ok (.iaload, 1) := by decide +kernel
theorem dX4_records_32 : decode cX4_records 32 = .ok (.iastore, 1) := by decide +kernel
theorem dX4_records_33 : decode cX4_records 33 = .ok (.iinc 1 1, 3) := by decide +kernel
theorem dX4_records_36 : decode cX4_records 36 = .ok (.goto (-26), 3) := by decide +kernel
theorem dX4_records_39 : decode cX4_records 39 = .ok (.aload_n 0, 1) := by decide +kernel
theorem dX4_records_40 : decode cX4_records 40 = .ok (.dup, 1) := by decide +kernel
theorem dX4_records_41 : decode cX4_records 41 = .ok (.getfield 36, 3) := by decide +kernel
theorem dX4_records_44 : decode cX4_records 44 = .ok (.iconst 1, 1) := by decide +kernel
theorem dX4_records_45 : decode cX4_records 45 = .ok (.isub, 1) := by decide +kernel
theorem dX4_records_46 : decode cX4_records 46 = .ok (.putfield 36, 3) := by decide +kernel
theorem dX4_records_49 : decode cX4_records 49 = .ok (.iconst 0, 1) := by decide +kernel
theorem dX4_records_50 : decode cX4_records 50 = .ok (.istore_n 1, 1) := by decide +kernel
theorem dX4_records_51 : decode cX4_records 51 = .ok (.iload_n 1, 1) := by decide +kernel
theorem dX4_records_52 : decode cX4_records 52 = .ok (.sipush 200, 3) := by decide +kernel
theorem dX4_records_55 : decode cX4_records 55 = .ok (.if_icmp .ge 30, 3) := by decide +kernel
theorem dX4_records_58 : decode cX4_records 58 = .ok (.aload_n 0, 1) := by decide +kernel
theorem dX4_records_59 : decode cX4_records 59 = .ok (.getfield 16, 3) := by decide +kernel
theorem dX4_records_62 : decode cX4_records 62 = .ok (.sipush 200, 3) := by decide +kernel
theorem dX4_records_65 : decode cX4_records 65 = .ok (.aload_n 0, 1) := by decide +kernel
theorem dX4_records_66 : decode cX4_records 66 = .ok (.getfield 36, 3) := by decide +kernel
theorem dX4_records_69 : decode cX4_records 69 = .ok (.imul, 1) := by decide +kernel
theorem dX4_records_70 : decode cX4_records 70 = .ok (.iload_n 1, 1) := by decide +kernel
theorem dX4_records_71 : decode cX4_records 71 = .ok (.iadd, 1) := by decide +kernel
theorem dX4_records_72 : decode cX4_records 72 = .ok (.aload_n 0, 1) := by decide +kernel
theorem dX4_records_73 : decode cX4_records 73 = .ok (.getfield 7, 3) := by decide +kernel
theorem dX4_records_76 : decode cX4_records 76 = .ok (.iload_n 1, 1) := by decide +kernel
theorem dX4_records_77 : decode cX4_records 77 = .ok (.iaload, 1) := by decide +kernel
theorem dX4_records_78 : decode cX4_records 78 = .ok (.iastore, 1) := by decide +kernel
theorem dX4_records_79 : decode cX4_records 79 = .ok (.iinc 1 1, 3) := by decide +kernel
theorem dX4_records_82 : decode cX4_records 82 = .ok (.goto (-31), 3) := by decide +kernel
theorem dX4_records_85 : decode cX4_records 85 = .ok (.aload_n 0, 1) := by decide +kernel
theorem dX4_records_86 : decode cX4_records 86 = .ok (.dup, 1) := by decide +kernel
theorem dX4_records_87 : decode cX4_records 87 = .ok (.getfield 36, 3) := by decide +kernel
theorem dX4_records_90 : decode cX4_records 90 = .ok (.iconst 1, 1) := by decide +kernel
theorem dX4_records_91 : decode cX4_records 91 = .ok (.iadd, 1) := by decide +kernel
theorem dX4_records_92 : decode cX4_records 92 = .ok (.putfield 36, 3) := by decide +kernel
theorem dX4_records_95 : decode cX4_records 95 = .ok (.return_, 1) := by decide +kernel
theorem dX4_putAside_0 : decode cX4_putAside 0 = .ok (.iconst 0, 1) := by decide +kernel
theorem dX4_putAside_1 : decode cX4_putAside 1 = .ok (.istore_n 1, 1) := by decide +kernel
theorem dX4_putAside_2 : decode cX4_putAside 2 = .ok (.iload_n 1, 1) := by decide +kernel
theorem dX4_putAside_3 : decode cX4_putAside 3 = .ok (.sipush 200, 3) := by decide +kernel
theorem dX4_putAside_6 : decode cX4_putAside 6 = .ok (.if_icmp .ge 21, 3) := by decide +kernel
theorem dX4_putAside_9 : decode cX4_putAside 9 = .ok (.aload_n 0, 1) := by decide +kernel
theorem dX4_putAside_10 : decode cX4_putAside 10 = .ok (.getfield 13, 3) := by decide +kernel
theorem dX4_putAside_13 : decode cX4_putAside 13 = .ok (.iload_n 1, 1) := by decide +kernel
theorem dX4_putAside_14 : decode cX4_putAside 14 = .ok (.aload_n 0, 1) := by decide +kernel
theorem dX4_putAside_15 : decode cX4_putAside 15 = .ok (.getfield 7, 3) := by decide +kernel
theorem dX4_putAside_18 : decode cX4_putAside 18 = .ok (.iload_n 1, 1) := by decide +kernel
theorem dX4_putAside_19 : decode cX4_putAside 19 = .ok (.iaload, 1) := by decide +kernel
theorem dX4_putAside_20 : decode cX4_putAside 20 = .ok (.iastore, 1) := by decide +kernel
theorem dX4_putAside_21 : decode cX4_putAside 21 = .ok (.iinc 1 1, 3) := by decide +kernel
theorem dX4_putAside_24 : decode cX4_putAside 24 = .ok (.goto (-22), 3) := by decide +kernel
theorem dX4_putAside_27 : decode cX4_putAside 27 = .ok (.return_, 1) := by decide +kernel
theorem dX4_takeBack_0 : decode cX4_takeBack 0 = .ok (.iconst 0, 1) := by decide +kernel
theorem dX4_takeBack_1 : decode cX4_takeBack 1 = .ok (.istore_n 1, 1) := by decide +kernel
theorem dX4_takeBack_2 : decode cX4_takeBack 2 = .ok (.iload_n 1, 1) := by decide +kernel
theorem dX4_takeBack_3 : decode cX4_takeBack 3 = .ok (.sipush 200, 3) := by decide +kernel
theorem dX4_takeBack_6 : decode cX4_takeBack 6 = .ok (.if_icmp .ge 21, 3) := by decide +kernel
theorem dX4_takeBack_9 : decode cX4_takeBack 9 = .ok (.aload_n 0, 1) := by decide +kernel
theorem dX4_takeBack_10 : decode cX4_takeBack 10 = .ok (.getfield 7, 3) := by decide +kernel
theorem dX4_takeBack_13 : decode cX4_takeBack 13 = .ok (.iload_n 1, 1) := by decide +kernel
theorem dX4_takeBack_14 : decode cX4_takeBack 14 = .ok (.aload_n 0, 1) := by decide +kernel
theorem dX4_takeBack_15 : decode cX4_takeBack 15 = .ok (.getfield 13, 3) := by decide +kernel
theorem dX4_takeBack_18 : decode cX4_takeBack 18 = .ok (.iload_n 1, 1) := by decide +kernel
theorem dX4_takeBack_19 : decode cX4_takeBack 19 = .ok (.iaload, 1) := by decide +kernel
theorem dX4_takeBack_20 : decode cX4_takeBack 20 = .ok (.iastore, 1) := by decide +kernel
theorem dX4_takeBack_21 : decode cX4_takeBack 21 = .ok (.iinc 1 1, 3) := by decide +kernel
theorem dX4_takeBack_24 : decode cX4_takeBack 24 = .ok (.goto (-22), 3) := by decide +kernel
theorem dX4_takeBack_27 : decode cX4_takeBack 27 = .ok (.return_, 1) := by decide +kernel
set_option maxRecDepth 20000 in
theorem ggX4_sealBy_X4_of : GoodIn wsX4_sealBy wsX4_of := goodIn_r _ [6, 1, 7, 8, 9, 10, 11, 12, 13, 14, 15, 16, 17, 18, 19] (by decide +kernel) (by decide +kernel)
set_option maxRecDepth 20000 in
theorem gX4_sealBy_X4_of : GoodIn wsX4_sealBy (wsV RX4 39 RX4 yX4_of wsX4_of) := goodIn_app (goodIn_of _ (by decide +kernel)) ggX4_sealBy_X4_of
theorem dX4_sealBy_0 : decode cX4_sealBy 0 = .ok (.aload_n 0, 1) := by decide +kernel
theorem dX4_sealBy_1 : decode cX4_sealBy 1 = .ok (.iload_n 1, 1) := by decide +kernel
theorem dX4_sealBy_2 : decode cX4_sealBy 2 = .ok (.iconst 2, 1) := by decide +kernel
theorem dX4_sealBy_3 : decode cX4_sealBy 3 = .ok (.invokevirtual 39, 3) := by decide +kernel
theorem dX4_sealBy_6 : decode cX4_sealBy 6 = .ok (.istore_n 3, 1) := by decide +kernel
theorem dX4_sealBy_7 : decode cX4_sealBy 7 = .ok (.aload_n 0, 1) := by decide +kernel
theorem dX4_sealBy_8 : decode cX4_sealBy 8 = .ok (.getfield 7, 3) := by decide +kernel
theorem dX4_sealBy_11 : decode cX4_sealBy 11 = .ok (.iconst 0, 1) := by decide +kernel
theorem dX4_sealBy_12 : decode cX4_sealBy 12 = .ok (.iaload, 1) := by decide +kernel
theorem dX4_sealBy_13 : decode cX4_sealBy 13 = .ok (.iload_n 2, 1) := by decide +kernel
theorem dX4_sealBy_14 : decode cX4_sealBy 14 = .ok (.imul, 1) := by decide +kernel
theorem dX4_sealBy_15 : decode cX4_sealBy 15 = .ok (.aload_n 0, 1) := by decide +kernel
theorem dX4_sealBy_16 : decode cX4_sealBy 16 = .ok (.getfield 7, 3) := by decide +kernel
theorem dX4_sealBy_19 : decode cX4_sealBy 19 = .ok (.iconst 1, 1) := by decide +kernel
theorem dX4_sealBy_20 : decode cX4_sealBy 20 = .ok (.iaload, 1) := by decide +kernel
theorem dX4_sealBy_21 : decode cX4_sealBy 21 = .ok (.iload_n 3, 1) := by decide +kernel
theorem dX4_sealBy_22 : decode cX4_sealBy 22 = .ok (.ifCond .ge 7, 3) := by decide +kernel
theorem dX4_sealBy_25 : decode cX4_sealBy 25 = .ok (.iconst 0, 1) := by decide +kernel
theorem dX4_sealBy_26 : decode cX4_sealBy 26 = .ok (.goto 9, 3) := by decide +kernel
theorem dX4_sealBy_29 : decode cX4_sealBy 29 = .ok (.aload_n 0, 1) := by decide +kernel
theorem dX4_sealBy_30 : decode cX4_sealBy 30 = .ok (.iload_n 3, 1) := by decide +kernel
theorem dX4_sealBy_31 : decode cX4_sealBy 31 = .ok (.iconst 3, 1) := by decide +kernel
theorem dX4_sealBy_32 : decode cX4_sealBy 32 = .ok (.invokevirtual 39, 3) := by decide +kernel
theorem dX4_sealBy_35 : decode cX4_sealBy 35 = .ok (.imul, 1) := by decide +kernel
theorem dX4_sealBy_36 : decode cX4_sealBy 36 = .ok (.iadd, 1) := by decide +kernel
theorem dX4_sealBy_37 : decode cX4_sealBy 37 = .ok (.iload_n 1, 1) := by decide +kernel
theorem dX4_sealBy_38 : decode cX4_sealBy 38 = .ok (.iadd, 1) := by decide +kernel
theorem dX4_sealBy_39 : decode cX4_sealBy 39 = .ok (.aload_n 0, 1) := by decide +kernel
theorem dX4_sealBy_40 : decode cX4_sealBy 40 = .ok (.getfield 7, 3) := by decide +kernel
theorem dX4_sealBy_43 : decode cX4_sealBy 43 = .ok (.iconst 2, 1) := by decide +kernel
theorem dX4_sealBy_44 : decode cX4_sealBy 44 = .ok (.iaload, 1) := by decide +kernel
theorem dX4_sealBy_45 : decode cX4_sealBy 45 = .ok (.irem, 1) := by decide +kernel
theorem dX4_sealBy_46 : decode cX4_sealBy 46 = .ok (.ireturn, 1) := by decide +kernel
set_option maxRecDepth 20000 in
theorem ggX4_rightSeal_X4_of : GoodIn wsX4_rightSeal wsX4_of := goodIn_r _ [5, 6, 11, 12, 13, 14, 15, 16, 17, 18, 19, 20, 21, 22, 23] (by decide +kernel) (by decide +kernel)
set_option maxRecDepth 20000 in
theorem gX4_rightSeal_X4_of : GoodIn wsX4_rightSeal (wsV RX4 39 RX4 yX4_of wsX4_of) := goodIn_app (goodIn_of _ (by decide +kernel)) ggX4_rightSeal_X4_of
set_option maxRecDepth 20000 in
theorem ggX4_rightSeal_X4_sealBy : GoodIn wsX4_rightSeal wsX4_sealBy := goodIn_r _ [10, 6, 1, 2, 3, 4, 5, 11, 12, 13, 14, 15, 16, 17, 18, 19, 20, 21, 22, 23] (by decide +kernel) (by decide +kernel)
set_option maxRecDepth 20000 in
theorem gX4_rightSeal_X4_sealBy : GoodIn wsX4_rightSeal (wsV RX4 43 RX4 yX4_sealBy wsX4_sealBy) := goodIn_app (goodIn_of _ (by decide +kernel)) ggX4_rightSeal_X4_sealBy
theorem dX4_rightSeal_0 : decode cX4_rightSeal 0 = .ok (.aload_n 0, 1) := by decide +kernel
theorem dX4_rightSeal_1 : decode cX4_rightSeal 1 = .ok (.iload_n 1, 1) := by decide +kernel
theorem dX4_rightSeal_2 : decode cX4_rightSeal 2 = .ok (.aload_n 0, 1) := by decide +kernel
theorem dX4_rightSeal_3 : decode cX4_rightSeal 3 = .ok (.iload_n 1, 1) := by decide +kernel
theorem dX4_rightSeal_4 : decode cX4_rightSeal 4 = .ok (.iconst 0, 1) := by decide +kernel
theorem dX4_rightSeal_5 : decode cX4_rightSeal 5 = .ok (.invokevirtual 39, 3) := by decide +kernel
theorem dX4_rightSeal_8 : decode cX4_rightSeal 8 = .ok (.invokevirtual 43, 3) := by decide +kernel
theorem dX4_rightSeal_11 : decode cX4_rightSeal 11 = .ok (.ireturn, 1) := by decide +kernel
set_option maxRecDepth 20000 in
theorem ggX4_isWhole_X4_of : GoodIn wsX4_isWhole wsX4_of := goodIn_r _ [5, 6, 15, 16, 17, 18, 19, 20, 21, 22, 23, 24, 25, 26, 27] (by decide +kernel) (by decide +kernel)
set_option maxRecDepth 20000 in
theorem gX4_isWhole_X4_of : GoodIn wsX4_isWhole (wsV RX4 39 RX4 yX4_of wsX4_of) := goodIn_app (goodIn_of _ (by decide +kernel)) ggX4_isWhole_X4_of
set_option maxRecDepth 20000 in
theorem ggX4_isWhole_X4_rightSeal : GoodIn wsX4_isWhole wsX4_rightSeal := goodIn_r _ [10, 1, 2, 3, 4, 5, 6, 11, 12, 13, 14, 15, 16, 17, 18, 19, 20, 21, 22, 23, 24, 25, 26, 27] (by decide +kernel) (by decide +kernel)
set_option maxRecDepth 20000 in
theorem gX4_isWhole_X4_rightSeal : GoodIn wsX4_isWhole (wsV RX4 46 RX4 yX4_rightSeal wsX4_rightSeal) := goodIn_app (goodIn_of _ (by decide +kernel)) ggX4_isWhole_X4_rightSeal
theorem dX4_isWhole_0 : decode cX4_isWhole 0 = .ok (.aload_n 0, 1) := by decide +kernel
theorem dX4_isWhole_1 : decode cX4_isWhole 1 = .ok (.iload_n 1, 1) := by decide +kernel
theorem dX4_isWhole_2 : decode cX4_isWhole 2 = .ok (.iconst 3, 1) := by decide +kernel
theorem dX4_isWhole_3 : decode cX4_isWhole 3 = .ok (.invokevirtual 39, 3) := by decide +kernel
theorem dX4_isWhole_6 : decode cX4_isWhole 6 = .ok (.aload_n 0, 1) := by decide +kernel
theorem dX4_isWhole_7 : decode cX4_isWhole 7 = .ok (.iload_n 1, 1) := by decide +kernel
theorem dX4_isWhole_8 : decode cX4_isWhole 8 = .ok (.invokevirtual 46, 3) := by decide +kernel
theorem dX4_isWhole_11 : decode cX4_isWhole 11 = .ok (.if_icmp .ne 7, 3) := by decide +kernel
theorem dX4_isWhole_14 : decode cX4_isWhole 14 = .ok (.iconst 1, 1) := by decide +kernel
theorem dX4_isWhole_15 : decode cX4_isWhole 15 = .ok (.goto 4, 3) := by decide +kernel
theorem dX4_isWhole_18 : decode cX4_isWhole 18 = .ok (.iconst 0, 1) := by decide +kernel
theorem dX4_isWhole_19 : decode cX4_isWhole 19 = .ok (.ireturn, 1) := by decide +kernel
set_option maxRecDepth 20000 in
theorem ggX4_depth_X4_of : GoodIn wsX4_depth wsX4_of := goodIn_r _ [5, 6, 7, 8, 9, 10, 11, 12, 13, 14, 15, 16, 17, 18, 19] (by decide +kernel) (by decide +kernel)
set_option maxRecDepth 20000 in
theorem gX4_depth_X4_of : GoodIn wsX4_depth (wsV RX4 39 RX4 yX4_of wsX4_of) := goodIn_app (goodIn_of _ (by decide +kernel)) ggX4_depth_X4_of
theorem dX4_depth_0 : decode cX4_depth 0 = .ok (.iconst 0, 1) := by decide +kernel
theorem dX4_depth_1 : decode cX4_depth 1 = .ok (.istore_n 2, 1) := by decide +kernel
theorem dX4_depth_2 : decode cX4_depth 2 = .ok (.iload_n 1, 1) := by decide +kernel
theorem dX4_depth_3 : decode cX4_depth 3 = .ok (.istore_n 3, 1) := by decide +kernel
theorem dX4_depth_4 : decode cX4_depth 4 = .ok (.iload_n 3, 1) := by decide +kernel
theorem dX4_depth_5 : decode cX4_depth 5 = .ok (.ifCond .lt 16, 3) := by decide +kernel
theorem dX4_depth_8 : decode cX4_depth 8 = .ok (.iinc 2 1, 3) := by decide +kernel
theorem dX4_depth_11 : decode cX4_depth 11 = .ok (.aload_n 0, 1) := by decide +kernel
theorem dX4_depth_12 : decode cX4_depth 12 = .ok (.iload_n 3, 1) := by decide +kernel
theorem dX4_depth_13 : decode cX4_depth 13 = .ok (.iconst 2, 1) := by decide +kernel
theorem dX4_depth_14 : decode cX4_depth 14 = .ok (.invokevirtual 39, 3) := by decide +kernel
theorem dX4_depth_17 : decode cX4_depth 17 = .ok (.istore_n 3, 1) := by decide +kernel
theorem dX4_depth_18 : decode cX4_depth 18 = .ok (.goto (-14), 3) := by decide +kernel
theorem dX4_depth_21 : decode cX4_depth 21 = .ok (.iload_n 2, 1) := by decide +kernel
theorem dX4_depth_22 : decode cX4_depth 22 = .ok (.ireturn, 1) := by decide +kernel
set_option maxRecDepth 20000 in
theorem ggX4_vouchers_X4_of : GoodIn wsX4_vouchers wsX4_of := goodIn_r _ [6, 1, 7, 8, 9, 10, 11, 12, 13, 14, 15, 16, 17, 18, 19] (by decide +kernel) (by decide +kernel)
set_option maxRecDepth 20000 in
theorem gX4_vouchers_X4_of : GoodIn wsX4_vouchers (wsV RX4 39 RX4 yX4_of wsX4_of) := goodIn_app (goodIn_of _ (by decide +kernel)) ggX4_vouchers_X4_of
theorem dX4_vouchers_0 : decode cX4_vouchers 0 = .ok (.iconst 0, 1) := by decide +kernel
theorem dX4_vouchers_1 : decode cX4_vouchers 1 = .ok (.istore_n 2, 1) := by decide +kernel
theorem dX4_vouchers_2 : decode cX4_vouchers 2 = .ok (.iconst 0, 1) := by decide +kernel
theorem dX4_vouchers_3 : decode cX4_vouchers 3 = .ok (.istore_n 3, 1) := by decide +kernel
theorem dX4_vouchers_4 : decode cX4_vouchers 4 = .ok (.iload_n 3, 1) := by decide +kernel
theorem dX4_vouchers_5 : decode cX4_vouchers 5 = .ok (.aload_n 0, 1) := by decide +kernel
theorem dX4_vouchers_6 : decode cX4_vouchers 6 = .ok (.getfield 7, 3) := by decide +kernel
theorem dX4_vouchers_9 : decode cX4_vouchers 9 = .ok (.iconst 5, 1) := by decide +kernel
theorem dX4_vouchers_10 : decode cX4_vouchers 10 = .ok (.iaload, 1) := by decide +kernel
theorem dX4_vouchers_11 : decode cX4_vouchers 11 = .ok (.if_icmp .ge 27, 3) := by decide +kernel
theorem dX4_vouchers_14 : decode cX4_vouchers 14 = .ok (.iload_n 2, 1) := by decide +kernel
theorem dX4_vouchers_15 : decode cX4_vouchers 15 = .ok (.aload_n 0, 1) := by decide +kernel
theorem dX4_vouchers_16 : decode cX4_vouchers 16 = .ok (.iload_n 3, 1) := by decide +kernel
theorem dX4_vouchers_17 : decode cX4_vouchers 17 = .ok (.iconst 2, 1) := by decide +kernel
theorem dX4_vouchers_18 : decode cX4_vouchers 18 = .ok (.invokevirtual 39, 3) := by decide +kernel
theorem dX4_vouchers_21 : decode cX4_vouchers 21 = .ok (.iload_n 1, 1) := by decide +kernel
theorem dX4_vouchers_22 : decode cX4_vouchers 22 = .ok (.if_icmp .ne 7, 3) := by decide +kernel
theorem dX4_vouchers_25 : decode cX4_vouchers 25 = .ok (.iconst 1, 1) := by decide +kernel
theorem dX4_vouchers_26 : decode cX4_vouchers 26 = .ok (.goto 4, 3) := by decide +kernel
theorem dX4_vouchers_29 : decode cX4_vouchers 29 = .ok (.iconst 0, 1) := by decide +kernel
theorem dX4_vouchers_30 : decode cX4_vouchers 30 = .ok (.iadd, 1) := by decide +kernel
theorem dX4_vouchers_31 : decode cX4_vouchers 31 = .ok (.istore_n 2, 1) := by decide +kernel
theorem dX4_vouchers_32 : decode cX4_vouchers 32 = .ok (.iinc 3 1, 3) := by decide +kernel
theorem dX4_vouchers_35 : decode cX4_vouchers 35 = .ok (.goto (-31), 3) := by decide +kernel
theorem dX4_vouchers_38 : decode cX4_vouchers 38 = .ok (.iload_n 2, 1) := by decide +kernel
theorem dX4_vouchers_39 : decode cX4_vouchers 39 = .ok (.ireturn, 1) := by decide +kernel
set_option maxRecDepth 20000 in
theorem ggX4_isInChain_X4_of : GoodIn wsX4_isInChain wsX4_of := goodIn_r _ [5, 6, 7, 8, 9, 10, 11, 12, 13, 14, 15, 16, 17, 18, 19] (by decide +kernel) (by decide +kernel)
set_option maxRecDepth 20000 in
theorem gX4_isInChain_X4_of : GoodIn wsX4_isInChain (wsV RX4 39 RX4 yX4_of wsX4_of) := goodIn_app (goodIn_of _ (by decide +kernel)) ggX4_isInChain_X4_of
theorem dX4_isInChain_0 : decode cX4_isInChain 0 = .ok (.iload_n 2, 1) := by decide +kernel
theorem dX4_isInChain_1 : decode cX4_isInChain 1 = .ok (.istore_n 3, 1) := by decide +kernel
theorem dX4_isInChain_2 : decode cX4_isInChain 2 = .ok (.iload_n 3, 1) := by decide +kernel
theorem dX4_isInChain_3 : decode cX4_isInChain 3 = .ok (.ifCond .lt 18, 3) := by decide +kernel
theorem dX4_isInChain_6 : decode cX4_isInChain 6 = .ok (.iload_n 3, 1) := by decide +kernel
theorem dX4_isInChain_7 : decode cX4_isInChain 7 = .ok (.iload_n 1, 1) := by decide +kernel
theorem dX4_isInChain_8 : decode cX4_isInChain 8 = .ok (.if_icmp .eq 13, 3) := by decide +kernel
theorem dX4_isInChain_11 : decode cX4_isInChain 11 = .ok (.aload_n 0, 1) := by decide +kernel
theorem dX4_isInChain_12 : decode cX4_isInChain 12 = .ok (.iload_n 3, 1) := by decide +kernel
theorem dX4_isInChain_13 : decode cX4_isInChain 13 = .ok (.iconst 2, 1) := by decide +kernel
theorem dX4_isInChain_14 : decode cX4_isInChain 14 = .ok (.invokevirtual 39, 3) := by decide +kernel
theorem dX4_isInChain_17 : decode cX4_isInChain 17 = .ok (.istore_n 3, 1) := by decide +kernel
theorem dX4_isInChain_18 : decode cX4_isInChain 18 = .ok (.goto (-16), 3) := by decide +kernel
theorem dX4_isInChain_21 : decode cX4_isInChain 21 = .ok (.iload_n 3, 1) := by decide +kernel
theorem dX4_isInChain_22 : decode cX4_isInChain 22 = .ok (.iload_n 1, 1) := by decide +kernel
theorem dX4_isInChain_23 : decode cX4_isInChain 23 = .ok (.if_icmp .ne 7, 3) := by decide +kernel
theorem dX4_isInChain_26 : decode cX4_isInChain 26 = .ok (.iconst 1, 1) := by decide +kernel
theorem dX4_isInChain_27 : decode cX4_isInChain 27 = .ok (.goto 4, 3) := by decide +kernel
theorem dX4_isInChain_30 : decode cX4_isInChain 30 = .ok (.iconst 0, 1) := by decide +kernel
theorem dX4_isInChain_31 : decode cX4_isInChain 31 = .ok (.ireturn, 1) := by decide +kernel
set_option maxRecDepth 20000 in
theorem ggX4_refusesCart_X4_isCart : GoodIn wsX4_refusesCart wsX4_isCart := goodIn_r _ [6, 1, 7, 8, 5, 9, 10, 11, 12, 13, 14, 15, 16, 17, 18, 19, 20, 21, 22] (by decide +kernel) (by decide +kernel)
set_option maxRecDepth 20000 in
theorem gX4_refusesCart_X4_isCart : GoodIn wsX4_refusesCart (wsV RX4 50 RX4 yX4_isCart wsX4_isCart) := goodIn_app (goodIn_of _ (by decide +kernel)) ggX4_refusesCart_X4_isCart
set_option maxRecDepth 20000 in
theorem ggX4_refusesCart_X4_in : GoodIn wsX4_refusesCart wsX4_in := goodIn_r _ [9] (by decide +kernel) (by decide +kernel)
set_option maxRecDepth 20000 in
theorem gX4_refusesCart_X4_in : GoodIn wsX4_refusesCart (va_wsS RX4 32 yX4_in wsX4_in) := goodIn_app (goodIn_of _ (by decide +kernel)) ggX4_refusesCart_X4_in
theorem dX4_refusesCart_0 : decode cX4_refusesCart 0 = .ok (.iload_n 3, 1) := by decide +kernel
theorem dX4_refusesCart_1 : decode cX4_refusesCart 1 = .ok (.iconst (-1), 1) := by decide +kernel
theorem dX4_refusesCart_2 : decode cX4_refusesCart 2 = .ok (.if_icmp .eq 13, 3) := by decide +kernel
theorem dX4_refusesCart_5 : decode cX4_refusesCart 5 = .ok (.aload_n 0, 1) := by decide +kernel
theorem dX4_refusesCart_6 : decode cX4_refusesCart 6 = .ok (.iload_n 3, 1) := by decide +kernel
theorem dX4_refusesCart_7 : decode cX4_refusesCart 7 = .ok (.invokevirtual 50, 3) := by decide +kernel
theorem dX4_refusesCart_10 : decode cX4_refusesCart 10 = .ok (.ifCond .ne 5, 3) := by decide +kernel
theorem dX4_refusesCart_13 : decode cX4_refusesCart 13 = .ok (.iconst (-1), 1) := by decide +kernel
theorem dX4_refusesCart_14 : decode cX4_refusesCart 14 = .ok (.ireturn, 1) := by decide +kernel
theorem dX4_refusesCart_15 : decode cX4_refusesCart 15 = .ok (.iload_n 1, 1) := by decide +kernel
theorem dX4_refusesCart_16 : decode cX4_refusesCart 16 = .ok (.iconst 0, 1) := by decide +kernel
theorem dX4_refusesCart_17 : decode cX4_refusesCart 17 = .ok (.bipush 99, 2) := by decide +kernel
theorem dX4_refusesCart_19 : decode cX4_refusesCart 19 = .ok (.invokestatic 32, 3) := by decide +kernel
theorem dX4_refusesCart_22 : decode cX4_refusesCart 22 = .ok (.ifCond .eq 13, 3) := by decide +kernel
theorem dX4_refusesCart_25 : decode cX4_refusesCart 25 = .ok (.iload_n 2, 1) := by decide +kernel
theorem dX4_refusesCart_26 : decode cX4_refusesCart 26 = .ok (.iconst 0, 1) := by decide +kernel
theorem dX4_refusesCart_27 : decode cX4_refusesCart 27 = .ok (.bipush 99, 2) := by decide +kernel
theorem dX4_refusesCart_29 : decode cX4_refusesCart 29 = .ok (.invokestatic 32, 3) := by decide +kernel
theorem dX4_refusesCart_32 : decode cX4_refusesCart 32 = .ok (.ifCond .ne 6, 3) := by decide +kernel
theorem dX4_refusesCart_35 : decode cX4_refusesCart 35 = .ok (.bipush (-2), 2) := by decide +kernel
theorem dX4_refusesCart_37 : decode cX4_refusesCart 37 = .ok (.ireturn, 1) := by decide +kernel
theorem dX4_refusesCart_38 : decode cX4_refusesCart 38 = .ok (.aload_n 0, 1) := by decide +kernel
theorem dX4_refusesCart_39 : decode cX4_refusesCart 39 = .ok (.getfield 7, 3) := by decide +kernel
theorem dX4_refusesCart_42 : decode cX4_refusesCart 42 = .ok (.iconst 5, 1) := by decide +kernel
theorem dX4_refusesCart_43 : decode cX4_refusesCart 43 = .ok (.iaload, 1) := by decide +kernel
theorem dX4_refusesCart_44 : decode cX4_refusesCart 44 = .ok (.bipush 24, 2) := by decide +kernel
theorem dX4_refusesCart_46 : decode cX4_refusesCart 46 = .ok (.if_icmp .ne 8, 3) := by decide +kernel
theorem dX4_refusesCart_49 : decode cX4_refusesCart 49 = .ok (.bipush (-3), 2) := by decide +kernel
theorem dX4_refusesCart_51 : decode cX4_refusesCart 51 = .ok (.goto 4, 3) := by decide +kernel
theorem dX4_refusesCart_54 : decode cX4_refusesCart 54 = .ok (.iconst 0, 1) := by decide +kernel
theorem dX4_refusesCart_55 : decode cX4_refusesCart 55 = .ok (.ireturn, 1) := by decide +kernel
set_option maxRecDepth 20000 in
theorem ggX4_comes_X4_lay : GoodIn wsX4_comes wsX4_lay := goodIn_r _ [6, 1, 19, 20, 21, 22, 23, 24, 25, 26, 27, 28, 29, 30, 31] (by decide +kernel) (by decide +kernel)
set_option maxRecDepth 20000 in
theorem gX4_comes_X4_lay : GoodIn wsX4_comes (wsV RX4 54 RX4 yX4_lay wsX4_lay) := goodIn_app (goodIn_of _ (by decide +kernel)) ggX4_comes_X4_lay
set_option maxRecDepth 20000 in
theorem ggX4_comes_X4_rightSeal : GoodIn wsX4_comes wsX4_rightSeal := goodIn_r _ [10, 11, 12, 13, 5, 14, 1, 15, 16, 17, 18, 19, 20, 21, 22, 23, 24, 25, 26, 27, 28, 29, 30, 31] (by decide +kernel) (by decide +kernel)
set_option maxRecDepth 20000 in
theorem gX4_comes_X4_rightSeal : GoodIn wsX4_comes (wsV RX4 46 RX4 yX4_rightSeal wsX4_rightSeal) := goodIn_app (goodIn_of _ (by decide +kernel)) ggX4_comes_X4_rightSeal
theorem dX4_comes_0 : decode cX4_comes 0 = .ok (.aload_n 0, 1) := by decide +kernel
theorem dX4_comes_1 : decode cX4_comes 1 = .ok (.getfield 7, 3) := by decide +kernel
theorem dX4_comes_4 : decode cX4_comes 4 = .ok (.iconst 5, 1) := by decide +kernel
theorem dX4_comes_5 : decode cX4_comes 5 = .ok (.iaload, 1) := by decide +kernel
theorem dX4_comes_6 : decode cX4_comes 6 = .ok (.istore 4, 2) := by decide +kernel
theorem dX4_comes_8 : decode cX4_comes 8 = .ok (.aload_n 0, 1) := by decide +kernel
theorem dX4_comes_9 : decode cX4_comes 9 = .ok (.iload 4, 2) := by decide +kernel
theorem dX4_comes_11 : decode cX4_comes 11 = .ok (.iconst 0, 1) := by decide +kernel
theorem dX4_comes_12 : decode cX4_comes 12 = .ok (.iload_n 1, 1) := by decide +kernel
theorem dX4_comes_13 : decode cX4_comes 13 = .ok (.invokevirtual 54, 3) := by decide +kernel
theorem dX4_comes_16 : decode cX4_comes 16 = .ok (.aload_n 0, 1) := by decide +kernel
theorem dX4_comes_17 : decode cX4_comes 17 = .ok (.iload 4, 2) := by decide +kernel
theorem dX4_comes_19 : decode cX4_comes 19 = .ok (.iconst 1, 1) := by decide +kernel
theorem dX4_comes_20 : decode cX4_comes 20 = .ok (.iload_n 2, 1) := by decide +kernel
theorem dX4_comes_21 : decode cX4_comes 21 = .ok (.invokevirtual 54, 3) := by decide +kernel
theorem dX4_comes_24 : decode cX4_comes 24 = .ok (.aload_n 0, 1) := by decide +kernel
theorem dX4_comes_25 : decode cX4_comes 25 = .ok (.iload 4, 2) := by decide +kernel
theorem dX4_comes_27 : decode cX4_comes 27 = .ok (.iconst 2, 1) := by decide +kernel
theorem dX4_comes_28 : decode cX4_comes 28 = .ok (.iload_n 3, 1) := by decide +kernel
theorem dX4_comes_29 : decode cX4_comes 29 = .ok (.invokevirtual 54, 3) := by decide +kernel
theorem dX4_comes_32 : decode cX4_comes 32 = .ok (.aload_n 0, 1) := by decide +kernel
theorem dX4_comes_33 : decode cX4_comes 33 = .ok (.iload 4, 2) := by decide +kernel
theorem dX4_comes_35 : decode cX4_comes 35 = .ok (.iconst 3, 1) := by decide +kernel
theorem dX4_comes_36 : decode cX4_comes 36 = .ok (.aload_n 0, 1) := by decide +kernel
theorem dX4_comes_37 : decode cX4_comes 37 = .ok (.iload 4, 2) := by decide +kernel
theorem dX4_comes_39 : decode cX4_comes 39 = .ok (.invokevirtual 46, 3) := by decide +kernel
theorem dX4_comes_42 : decode cX4_comes 42 = .ok (.invokevirtual 54, 3) := by decide +kernel
theorem dX4_comes_45 : decode cX4_comes 45 = .ok (.aload_n 0, 1) := by decide +kernel
theorem dX4_comes_46 : decode cX4_comes 46 = .ok (.getfield 7, 3) := by decide +kernel
theorem dX4_comes_49 : decode cX4_comes 49 = .ok (.iconst 5, 1) := by decide +kernel
theorem dX4_comes_50 : decode cX4_comes 50 = .ok (.dup2, 1) := by decide +kernel
theorem dX4_comes_51 : decode cX4_comes 51 = .ok (.iaload, 1) := by decide +kernel
theorem dX4_comes_52 : decode cX4_comes 52 = .ok (.iconst 1, 1) := by decide +kernel
theorem dX4_comes_53 : decode cX4_comes 53 = .ok (.iadd, 1) := by decide +kernel
theorem dX4_comes_54 : decode cX4_comes 54 = .ok (.iastore, 1) := by decide +kernel
theorem dX4_comes_55 : decode cX4_comes 55 = .ok (.aload_n 0, 1) := by decide +kernel
theorem dX4_comes_56 : decode cX4_comes 56 = .ok (.getfield 7, 3) := by decide +kernel
theorem dX4_comes_59 : decode cX4_comes 59 = .ok (.bipush 6, 2) := by decide +kernel
theorem dX4_comes_61 : decode cX4_comes 61 = .ok (.dup2, 1) := by decide +kernel
theorem dX4_comes_62 : decode cX4_comes 62 = .ok (.iaload, 1) := by decide +kernel
theorem dX4_comes_63 : decode cX4_comes 63 = .ok (.iload_n 1, 1) := by decide +kernel
theorem dX4_comes_64 : decode cX4_comes 64 = .ok (.iadd, 1) := by decide +kernel
theorem dX4_comes_65 : decode cX4_comes 65 = .ok (.iastore, 1) := by decide +kernel
theorem dX4_comes_66 : decode cX4_comes 66 = .ok (.iload 4, 2) := by decide +kernel
theorem dX4_comes_68 : decode cX4_comes 68 = .ok (.ireturn, 1) := by decide +kernel
set_option maxRecDepth 20000 in
theorem ggX4_come_X4_refusesCart : GoodIn wsX4_come wsX4_refusesCart := goodIn_r _ [6, 7, 8, 9, 10, 5, 11, 12, 13, 14, 41, 42, 43, 44, 45, 46, 47, 48, 49, 50, 51, 52, 53] (by decide +kernel) (by decide +kernel)
set_option maxRecDepth 20000 in
theorem gX4_come_X4_refusesCart : GoodIn wsX4_come (wsV RX4 58 RX4 yX4_refusesCart wsX4_refusesCart) := goodIn_app (goodIn_of _ (by decide +kernel)) ggX4_come_X4_refusesCart
set_option maxRecDepth 20000 in
theorem ggX4_come_X4_records : GoodIn wsX4_come wsX4_records := goodIn_r _ [18, 19, 20, 7, 41, 42, 43, 44, 45, 46, 47, 48, 49, 50, 51, 52, 53] (by decide +kernel) (by decide +kernel)
set_option maxRecDepth 20000 in
theorem gX4_come_X4_records : GoodIn wsX4_come (wsV RX4 62 RX4 yX4_records wsX4_records) := goodIn_app (goodIn_of _ (by decide +kernel)) ggX4_come_X4_records
set_option maxRecDepth 20000 in
theorem ggX4_come_X4_comes : GoodIn wsX4_come wsX4_comes := goodIn_r _ [24, 7, 25, 26, 27, 5, 28, 29, 30, 31, 32, 33, 34, 35, 36, 37, 38, 39, 40, 41, 42, 43, 44, 45, 46, 47, 48, 49, 50, 51, 52, 53] (by decide +kernel) (by decide +kernel)
set_option maxRecDepth 20000 in
theorem gX4_come_X4_comes : GoodIn wsX4_come (wsV RX4 65 RX4 yX4_comes wsX4_comes) := goodIn_app (goodIn_of _ (by decide +kernel)) ggX4_come_X4_comes
theorem dX4_come_0 : decode cX4_come 0 = .ok (.aload_n 0, 1) := by decide +kernel
theorem dX4_come_1 : decode cX4_come 1 = .ok (.iconst 0, 1) := by decide +kernel
theorem dX4_come_2 : decode cX4_come 2 = .ok (.putfield 28, 3) := by decide +kernel
theorem dX4_come_5 : decode cX4_come 5 = .ok (.aload_n 0, 1) := by decide +kernel
theorem dX4_come_6 : decode cX4_come 6 = .ok (.iload_n 1, 1) := by decide +kernel
theorem dX4_come_7 : decode cX4_come 7 = .ok (.iload_n 2, 1) := by decide +kernel
theorem dX4_come_8 : decode cX4_come 8 = .ok (.iload_n 3, 1) := by decide +kernel
theorem dX4_come_9 : decode cX4_come 9 = .ok (.invokevirtual 58, 3) := by decide +kernel
theorem dX4_come_12 : decode cX4_come 12 = .ok (.istore 4, 2) := by decide +kernel
theorem dX4_come_14 : decode cX4_come 14 = .ok (.iload 4, 2) := by decide +kernel
theorem dX4_come_16 : decode cX4_come 16 = .ok (.ifCond .eq 6, 3) := by decide +kernel
theorem dX4_come_19 : decode cX4_come 19 = .ok (.iload 4, 2) := by decide +kernel
theorem dX4_come_21 : decode cX4_come 21 = .ok (.ireturn, 1) := by decide +kernel
theorem dX4_come_22 : decode cX4_come 22 = .ok (.aload_n 0, 1) := by decide +kernel
theorem dX4_come_23 : decode cX4_come 23 = .ok (.invokevirtual 62, 3) := by decide +kernel
theorem dX4_come_26 : decode cX4_come 26 = .ok (.aload_n 0, 1) := by decide +kernel
theorem dX4_come_27 : decode cX4_come 27 = .ok (.iload_n 1, 1) := by decide +kernel
theorem dX4_come_28 : decode cX4_come 28 = .ok (.iload_n 2, 1) := by decide +kernel
theorem dX4_come_29 : decode cX4_come 29 = .ok (.iload_n 3, 1) := by decide +kernel
theorem dX4_come_30 : decode cX4_come 30 = .ok (.invokevirtual 65, 3) := by decide +kernel
theorem dX4_come_33 : decode cX4_come 33 = .ok (.ireturn, 1) := by decide +kernel
set_option maxRecDepth 20000 in
theorem ggX4_refusesAltering_X4_isCart : GoodIn wsX4_refusesAltering wsX4_isCart := goodIn_r _ [5, 6, 7, 8, 4, 9, 14, 15, 16, 17, 18, 19, 20, 21, 22, 23, 24, 25, 26] (by decide +kernel) (by decide +kernel)
set_option maxRecDepth 20000 in
theorem gX4_refusesAltering_X4_isCart : GoodIn wsX4_refusesAltering (wsV RX4 50 RX4 yX4_isCart wsX4_isCart) := goodIn_app (goodIn_of _ (by decide +kernel)) ggX4_refusesAltering_X4_isCart
set_option maxRecDepth 20000 in
theorem ggX4_refusesAltering_X4_in : GoodIn wsX4_refusesAltering wsX4_in := goodIn_r _ [9] (by decide +kernel) (by decide +kernel)
set_option maxRecDepth 20000 in
theorem gX4_refusesAltering_X4_in : GoodIn wsX4_refusesAltering (va_wsS RX4 32 yX4_in wsX4_in) := goodIn_app (goodIn_of _ (by decide +kernel)) ggX4_refusesAltering_X4_in
set_option maxRecDepth 20000 in
theorem ggX4_refusesAltering_X4_of : GoodIn wsX4_refusesAltering wsX4_of := goodIn_r _ [13, 6, 14, 15, 16, 17, 18, 19, 20, 21, 22, 23, 24, 25, 26] (by decide +kernel) (by decide +kernel)
set_option maxRecDepth 20000 in
theorem gX4_refusesAltering_X4_of : GoodIn wsX4_refusesAltering (wsV RX4 39 RX4 yX4_of wsX4_of) := goodIn_app (goodIn_of _ (by decide +kernel)) ggX4_refusesAltering_X4_of
theorem dX4_refusesAltering_0 : decode cX4_refusesAltering 0 = .ok (.aload_n 0, 1) := by decide +kernel
theorem dX4_refusesAltering_1 : decode cX4_refusesAltering 1 = .ok (.iload_n 1, 1) := by decide +kernel
theorem dX4_refusesAltering_2 : decode cX4_refusesAltering 2 = .ok (.invokevirtual 50, 3) := by decide +kernel
theorem dX4_refusesAltering_5 : decode cX4_refusesAltering 5 = .ok (.ifCond .ne 5, 3) := by decide +kernel
theorem dX4_refusesAltering_8 : decode cX4_refusesAltering 8 = .ok (.iconst (-1), 1) := by decide +kernel
theorem dX4_refusesAltering_9 : decode cX4_refusesAltering 9 = .ok (.ireturn, 1) := by decide +kernel
theorem dX4_refusesAltering_10 : decode cX4_refusesAltering 10 = .ok (.iload_n 2, 1) := by decide +kernel
theorem dX4_refusesAltering_11 : decode cX4_refusesAltering 11 = .ok (.iconst 0, 1) := by decide +kernel
theorem dX4_refusesAltering_12 : decode cX4_refusesAltering 12 = .ok (.bipush 99, 2) := by decide +kernel
theorem dX4_refusesAltering_14 : decode cX4_refusesAltering 14 = .ok (.invokestatic 32, 3) := by decide +kernel
theorem dX4_refusesAltering_17 : decode cX4_refusesAltering 17 = .ok (.ifCond .ne 6, 3) := by decide +kernel
theorem dX4_refusesAltering_20 : decode cX4_refusesAltering 20 = .ok (.bipush (-2), 2) := by decide +kernel
theorem dX4_refusesAltering_22 : decode cX4_refusesAltering 22 = .ok (.ireturn, 1) := by decide +kernel
theorem dX4_refusesAltering_23 : decode cX4_refusesAltering 23 = .ok (.aload_n 0, 1) := by decide +kernel
theorem dX4_refusesAltering_24 : decode cX4_refusesAltering 24 = .ok (.iload_n 1, 1) := by decide +kernel
theorem dX4_refusesAltering_25 : decode cX4_refusesAltering 25 = .ok (.iconst 4, 1) := by decide +kernel
theorem dX4_refusesAltering_26 : decode cX4_refusesAltering 26 = .ok (.invokevirtual 39, 3) := by decide +kernel
theorem dX4_refusesAltering_29 : decode cX4_refusesAltering 29 = .ok (.iconst 1, 1) := by decide +kernel
theorem dX4_refusesAltering_30 : decode cX4_refusesAltering 30 = .ok (.if_icmp .ne 8, 3) := by decide +kernel
theorem dX4_refusesAltering_33 : decode cX4_refusesAltering 33 = .ok (.bipush (-4), 2) := by decide +kernel
theorem dX4_refusesAltering_35 : decode cX4_refusesAltering 35 = .ok (.goto 19, 3) := by decide +kernel
theorem dX4_refusesAltering_38 : decode cX4_refusesAltering 38 = .ok (.aload_n 0, 1) := by decide +kernel
theorem dX4_refusesAltering_39 : decode cX4_refusesAltering 39 = .ok (.iload_n 1, 1) := by decide +kernel
theorem dX4_refusesAltering_40 : decode cX4_refusesAltering 40 = .ok (.iconst 0, 1) := by decide +kernel
theorem dX4_refusesAltering_41 : decode cX4_refusesAltering 41 = .ok (.invokevirtual 39, 3) := by decide +kernel
theorem dX4_refusesAltering_44 : decode cX4_refusesAltering 44 = .ok (.iload_n 2, 1) := by decide +kernel
theorem dX4_refusesAltering_45 : decode cX4_refusesAltering 45 = .ok (.if_icmp .ne 8, 3) := by decide +kernel
theorem dX4_refusesAltering_48 : decode cX4_refusesAltering 48 = .ok (.bipush (-5), 2) := by decide +kernel
theorem dX4_refusesAltering_50 : decode cX4_refusesAltering 50 = .ok (.goto 4, 3) := by decide +kernel
theorem dX4_refusesAltering_53 : decode cX4_refusesAltering 53 = .ok (.iconst 0, 1) := by decide +kernel
theorem dX4_refusesAltering_54 : decode cX4_refusesAltering 54 = .ok (.ireturn, 1) := by decide +kernel
set_option maxRecDepth 20000 in
theorem ggX4_alter_X4_refusesAltering : GoodIn wsX4_alter wsX4_refusesAltering := goodIn_r _ [6, 7, 8, 9, 5, 10, 11, 12, 13, 14, 15, 16, 17, 18, 29, 30, 31, 32, 33, 34, 35, 36, 37, 38, 39, 40, 41] (by decide +kernel) (by decide +kernel)
set_option maxRecDepth 20000 in
theorem gX4_alter_X4_refusesAltering : GoodIn wsX4_alter (wsV RX4 68 RX4 yX4_refusesAltering wsX4_refusesAltering) := goodIn_app (goodIn_of _ (by decide +kernel)) ggX4_alter_X4_refusesAltering
set_option maxRecDepth 20000 in
theorem ggX4_alter_X4_records : GoodIn wsX4_alter wsX4_records := goodIn_r _ [22, 23, 24, 11, 29, 30, 31, 32, 33, 34, 35, 36, 37, 38, 39, 40, 41] (by decide +kernel) (by decide +kernel)
set_option maxRecDepth 20000 in
theorem gX4_alter_X4_records : GoodIn wsX4_alter (wsV RX4 62 RX4 yX4_records wsX4_records) := goodIn_app (goodIn_of _ (by decide +kernel)) ggX4_alter_X4_records
set_option maxRecDepth 20000 in
theorem ggX4_alter_X4_of : GoodIn wsX4_alter wsX4_of := goodIn_r _ [18, 11, 29, 30, 31, 32, 33, 34, 35, 36, 37, 38, 39, 40, 41] (by decide +kernel) (by decide +kernel)
set_option maxRecDepth 20000 in
theorem gX4_alter_X4_of : GoodIn wsX4_alter (wsV RX4 39 RX4 yX4_of wsX4_of) := goodIn_app (goodIn_of _ (by decide +kernel)) ggX4_alter_X4_of
set_option maxRecDepth 20000 in
theorem ggX4_alter_X4_lay : GoodIn wsX4_alter wsX4_lay := goodIn_r _ [28, 11, 29, 30, 31, 32, 33, 34, 35, 36, 37, 38, 39, 40, 41] (by decide +kernel) (by decide +kernel)
set_option maxRecDepth 20000 in
theorem gX4_alter_X4_lay : GoodIn wsX4_alter (wsV RX4 54 RX4 yX4_lay wsX4_lay) := goodIn_app (goodIn_of _ (by decide +kernel)) ggX4_alter_X4_lay
theorem dX4_alter_0 : decode cX4_alter 0 = .ok (.aload_n 0, 1) := by decide +kernel
theorem dX4_alter_1 : decode cX4_alter 1 = .ok (.iconst 0, 1) := by decide +kernel
theorem dX4_alter_2 : decode cX4_alter 2 = .ok (.putfield 28, 3) := by decide +kernel
theorem dX4_alter_5 : decode cX4_alter 5 = .ok (.aload_n 0, 1) := by decide +kernel
theorem dX4_alter_6 : decode cX4_alter 6 = .ok (.iload_n 1, 1) := by decide +kernel
theorem dX4_alter_7 : decode cX4_alter 7 = .ok (.iload_n 2, 1) := by decide +kernel
theorem dX4_alter_8 : decode cX4_alter 8 = .ok (.invokevirtual 68, 3) := by decide +kernel
theorem dX4_alter_11 : decode cX4_alter 11 = .ok (.istore_n 3, 1) := by decide +kernel
theorem dX4_alter_12 : decode cX4_alter 12 = .ok (.iload_n 3, 1) := by decide +kernel
theorem dX4_alter_13 : decode cX4_alter 13 = .ok (.ifCond .eq 5, 3) := by decide +kernel
theorem dX4_alter_16 : decode cX4_alter 16 = .ok (.iload_n 3, 1) := by decide +kernel
theorem dX4_alter_17 : decode cX4_alter 17 = .ok (.ireturn, 1) := by decide +kernel
theorem dX4_alter_18 : decode cX4_alter 18 = .ok (.aload_n 0, 1) := by decide +kernel
theorem dX4_alter_19 : decode cX4_alter 19 = .ok (.invokevirtual 62, 3) := by decide +kernel
theorem dX4_alter_22 : decode cX4_alter 22 = .ok (.aload_n 0, 1) := by decide +kernel
theorem dX4_alter_23 : decode cX4_alter 23 = .ok (.iload_n 1, 1) := by decide +kernel
theorem dX4_alter_24 : decode cX4_alter 24 = .ok (.iconst 0, 1) := by decide +kernel
theorem dX4_alter_25 : decode cX4_alter 25 = .ok (.invokevirtual 39, 3) := by decide +kernel
theorem dX4_alter_28 : decode cX4_alter 28 = .ok (.istore 4, 2) := by decide +kernel
theorem dX4_alter_30 : decode cX4_alter 30 = .ok (.aload_n 0, 1) := by decide +kernel
theorem dX4_alter_31 : decode cX4_alter 31 = .ok (.iload_n 1, 1) := by decide +kernel
theorem dX4_alter_32 : decode cX4_alter 32 = .ok (.iconst 0, 1) := by decide +kernel
theorem dX4_alter_33 : decode cX4_alter 33 = .ok (.iload_n 2, 1) := by decide +kernel
theorem dX4_alter_34 : decode cX4_alter 34 = .ok (.invokevirtual 54, 3) := by decide +kernel
theorem dX4_alter_37 : decode cX4_alter 37 = .ok (.iload 4, 2) := by decide +kernel
theorem dX4_alter_39 : decode cX4_alter 39 = .ok (.ireturn, 1) := by decide +kernel
set_option maxRecDepth 20000 in
theorem ggX4_refusesSeal_X4_isCart : GoodIn wsX4_refusesSeal wsX4_isCart := goodIn_r _ [5, 6, 7, 8, 4, 9, 26, 27, 28, 29, 30, 31, 32, 33, 34, 35, 36, 37, 38] (by decide +kernel) (by decide +kernel)
set_option maxRecDepth 20000 in
theorem gX4_refusesSeal_X4_isCart : GoodIn wsX4_refusesSeal (wsV RX4 50 RX4 yX4_isCart wsX4_isCart) := goodIn_app (goodIn_of _ (by decide +kernel)) ggX4_refusesSeal_X4_isCart
set_option maxRecDepth 20000 in
theorem ggX4_refusesSeal_X4_isWhole : GoodIn wsX4_refusesSeal wsX4_isWhole := goodIn_r _ [13, 14, 15, 16, 4, 17, 6, 18, 19, 20, 21, 22, 23, 24, 25, 26, 27, 28, 29, 30, 31, 32, 33, 34, 35, 36, 37, 38] (by decide +kernel) (by decide +kernel)
set_option maxRecDepth 20000 in
theorem gX4_refusesSeal_X4_isWhole : GoodIn wsX4_refusesSeal (wsV RX4 71 RX4 yX4_isWhole wsX4_isWhole) := goodIn_app (goodIn_of _ (by decide +kernel)) ggX4_refusesSeal_X4_isWhole
theorem dX4_refusesSeal_0 : decode cX4_refusesSeal 0 = .ok (.aload_n 0, 1) := by decide +kernel
theorem dX4_refusesSeal_1 : decode cX4_refusesSeal 1 = .ok (.iload_n 1, 1) := by decide +kernel
theorem dX4_refusesSeal_2 : decode cX4_refusesSeal 2 = .ok (.invokevirtual 50, 3) := by decide +kernel
theorem dX4_refusesSeal_5 : decode cX4_refusesSeal 5 = .ok (.ifCond .ne 7, 3) := by decide +kernel
theorem dX4_refusesSeal_8 : decode cX4_refusesSeal 8 = .ok (.iconst (-1), 1) := by decide +kernel
theorem dX4_refusesSeal_9 : decode cX4_refusesSeal 9 = .ok (.goto 17, 3) := by decide +kernel
theorem dX4_refusesSeal_12 : decode cX4_refusesSeal 12 = .ok (.aload_n 0, 1) := by decide +kernel
theorem dX4_refusesSeal_13 : decode cX4_refusesSeal 13 = .ok (.iload_n 1, 1) := by decide +kernel
theorem dX4_refusesSeal_14 : decode cX4_refusesSeal 14 = .ok (.invokevirtual 71, 3) := by decide +kernel
theorem dX4_refusesSeal_17 : decode cX4_refusesSeal 17 = .ok (.ifCond .eq 8, 3) := by decide +kernel
theorem dX4_refusesSeal_20 : decode cX4_refusesSeal 20 = .ok (.bipush (-5), 2) := by decide +kernel
theorem dX4_refusesSeal_22 : decode cX4_refusesSeal 22 = .ok (.goto 4, 3) := by decide +kernel
theorem dX4_refusesSeal_25 : decode cX4_refusesSeal 25 = .ok (.iconst 0, 1) := by decide +kernel
theorem dX4_refusesSeal_26 : decode cX4_refusesSeal 26 = .ok (.ireturn, 1) := by decide +kernel
set_option maxRecDepth 20000 in
theorem ggX4_reseal_X4_refusesSeal : GoodIn wsX4_reseal wsX4_refusesSeal := goodIn_r _ [6, 7, 8, 9, 5, 10, 11, 12, 13, 14, 15, 16, 17, 18, 19, 20, 21, 22, 23, 24, 25, 26, 27, 28, 29, 30, 41, 42, 43, 44, 45, 46, 47, 48, 49, 50, 51, 52, 53] (by decide +kernel) (by decide +kernel)
set_option maxRecDepth 20000 in
theorem gX4_reseal_X4_refusesSeal : GoodIn wsX4_reseal (wsV RX4 74 RX4 yX4_refusesSeal wsX4_refusesSeal) := goodIn_app (goodIn_of _ (by decide +kernel)) ggX4_reseal_X4_refusesSeal
set_option maxRecDepth 20000 in
theorem ggX4_reseal_X4_records : GoodIn wsX4_reseal wsX4_records := goodIn_r _ [34, 35, 36, 11, 41, 42, 43, 44, 45, 46, 47, 48, 49, 50, 51, 52, 53] (by decide +kernel) (by decide +kernel)
set_option maxRecDepth 20000 in
theorem gX4_reseal_X4_records : GoodIn wsX4_reseal (wsV RX4 62 RX4 yX4_records wsX4_records) := goodIn_app (goodIn_of _ (by decide +kernel)) ggX4_reseal_X4_records
set_option maxRecDepth 20000 in
theorem ggX4_reseal_X4_of : GoodIn wsX4_reseal wsX4_of := goodIn_r _ [22, 11, 41, 42, 43, 44, 45, 46, 47, 48, 49, 50, 51, 52, 53] (by decide +kernel) (by decide +kernel)
set_option maxRecDepth 20000 in
theorem gX4_reseal_X4_of : GoodIn wsX4_reseal (wsV RX4 39 RX4 yX4_of wsX4_of) := goodIn_app (goodIn_of _ (by decide +kernel)) ggX4_reseal_X4_of
set_option maxRecDepth 20000 in
theorem ggX4_reseal_X4_rightSeal : GoodIn wsX4_reseal wsX4_rightSeal := goodIn_r _ [26, 19, 20, 21, 5, 22, 11, 27, 28, 29, 30, 41, 42, 43, 44, 45, 46, 47, 48, 49, 50, 51, 52, 53] (by decide +kernel) (by decide +kernel)
set_option maxRecDepth 20000 in
theorem gX4_reseal_X4_rightSeal : GoodIn wsX4_reseal (wsV RX4 46 RX4 yX4_rightSeal wsX4_rightSeal) := goodIn_app (goodIn_of _ (by decide +kernel)) ggX4_reseal_X4_rightSeal
set_option maxRecDepth 20000 in
theorem ggX4_reseal_X4_lay : GoodIn wsX4_reseal wsX4_lay := goodIn_r _ [40, 11, 41, 42, 43, 44, 45, 46, 47, 48, 49, 50, 51, 52, 53] (by decide +kernel) (by decide +kernel)
set_option maxRecDepth 20000 in
theorem gX4_reseal_X4_lay : GoodIn wsX4_reseal (wsV RX4 54 RX4 yX4_lay wsX4_lay) := goodIn_app (goodIn_of _ (by decide +kernel)) ggX4_reseal_X4_lay
theorem dX4_reseal_0 : decode cX4_reseal 0 = .ok (.aload_n 0, 1) := by decide +kernel
theorem dX4_reseal_1 : decode cX4_reseal 1 = .ok (.iconst 0, 1) := by decide +kernel
theorem dX4_reseal_2 : decode cX4_reseal 2 = .ok (.putfield 28, 3) := by decide +kernel
theorem dX4_reseal_5 : decode cX4_reseal 5 = .ok (.aload_n 0, 1) := by decide +kernel
theorem dX4_reseal_6 : decode cX4_reseal 6 = .ok (.iload_n 1, 1) := by decide +kernel
theorem dX4_reseal_7 : decode cX4_reseal 7 = .ok (.invokevirtual 74, 3) := by decide +kernel
theorem dX4_reseal_10 : decode cX4_reseal 10 = .ok (.istore_n 2, 1) := by decide +kernel
theorem dX4_reseal_11 : decode cX4_reseal 11 = .ok (.iload_n 2, 1) := by decide +kernel
theorem dX4_reseal_12 : decode cX4_reseal 12 = .ok (.ifCond .eq 5, 3) := by decide +kernel
theorem dX4_reseal_15 : decode cX4_reseal 15 = .ok (.iload_n 2, 1) := by decide +kernel
theorem dX4_reseal_16 : decode cX4_reseal 16 = .ok (.ireturn, 1) := by decide +kernel
theorem dX4_reseal_17 : decode cX4_reseal 17 = .ok (.aload_n 0, 1) := by decide +kernel
theorem dX4_reseal_18 : decode cX4_reseal 18 = .ok (.invokevirtual 62, 3) := by decide +kernel
theorem dX4_reseal_21 : decode cX4_reseal 21 = .ok (.aload_n 0, 1) := by decide +kernel
theorem dX4_reseal_22 : decode cX4_reseal 22 = .ok (.iload_n 1, 1) := by decide +kernel
theorem dX4_reseal_23 : decode cX4_reseal 23 = .ok (.iconst 3, 1) := by decide +kernel
theorem dX4_reseal_24 : decode cX4_reseal 24 = .ok (.invokevirtual 39, 3) := by decide +kernel
theorem dX4_reseal_27 : decode cX4_reseal 27 = .ok (.istore_n 3, 1) := by decide +kernel
theorem dX4_reseal_28 : decode cX4_reseal 28 = .ok (.aload_n 0, 1) := by decide +kernel
theorem dX4_reseal_29 : decode cX4_reseal 29 = .ok (.iload_n 1, 1) := by decide +kernel
theorem dX4_reseal_30 : decode cX4_reseal 30 = .ok (.iconst 3, 1) := by decide +kernel
theorem dX4_reseal_31 : decode cX4_reseal 31 = .ok (.aload_n 0, 1) := by decide +kernel
theorem dX4_reseal_32 : decode cX4_reseal 32 = .ok (.iload_n 1, 1) := by decide +kernel
theorem dX4_reseal_33 : decode cX4_reseal 33 = .ok (.invokevirtual 46, 3) := by decide +kernel
theorem dX4_reseal_36 : decode cX4_reseal 36 = .ok (.invokevirtual 54, 3) := by decide +kernel
theorem dX4_reseal_39 : decode cX4_reseal 39 = .ok (.iload_n 3, 1) := by decide +kernel
theorem dX4_reseal_40 : decode cX4_reseal 40 = .ok (.ireturn, 1) := by decide +kernel
set_option maxRecDepth 20000 in
theorem ggX4_clears_X4_of : GoodIn wsX4_clears wsX4_of := goodIn_r _ [5, 6, 23, 24, 25, 26, 27, 28, 29, 30, 31, 32, 33, 34, 35] (by decide +kernel) (by decide +kernel)
set_option maxRecDepth 20000 in
theorem gX4_clears_X4_of : GoodIn wsX4_clears (wsV RX4 39 RX4 yX4_of wsX4_of) := goodIn_app (goodIn_of _ (by decide +kernel)) ggX4_clears_X4_of
set_option maxRecDepth 20000 in
theorem ggX4_clears_X4_lay : GoodIn wsX4_clears wsX4_lay := goodIn_r _ [10, 6, 23, 24, 25, 26, 27, 28, 29, 30, 31, 32, 33, 34, 35] (by decide +kernel) (by decide +kernel)
set_option maxRecDepth 20000 in
theorem gX4_clears_X4_lay : GoodIn wsX4_clears (wsV RX4 54 RX4 yX4_lay wsX4_lay) := goodIn_app (goodIn_of _ (by decide +kernel)) ggX4_clears_X4_lay
set_option maxRecDepth 20000 in
theorem ggX4_clears_X4_isWhole : GoodIn wsX4_clears wsX4_isWhole := goodIn_r _ [14, 1, 2, 3, 4, 5, 6, 15, 16, 17, 18, 19, 20, 21, 22, 23, 24, 25, 26, 27, 28, 29, 30, 31, 32, 33, 34, 35] (by decide +kernel) (by decide +kernel)
set_option maxRecDepth 20000 in
theorem gX4_clears_X4_isWhole : GoodIn wsX4_clears (wsV RX4 71 RX4 yX4_isWhole wsX4_isWhole) := goodIn_app (goodIn_of _ (by decide +kernel)) ggX4_clears_X4_isWhole
theorem dX4_clears_0 : decode cX4_clears 0 = .ok (.iconst 0, 1) := by decide +kernel
theorem dX4_clears_1 : decode cX4_clears 1 = .ok (.istore_n 2, 1) := by decide +kernel
theorem dX4_clears_2 : decode cX4_clears 2 = .ok (.iload_n 1, 1) := by decide +kernel
theorem dX4_clears_3 : decode cX4_clears 3 = .ok (.istore_n 3, 1) := by decide +kernel
theorem dX4_clears_4 : decode cX4_clears 4 = .ok (.iconst 1, 1) := by decide +kernel
theorem dX4_clears_5 : decode cX4_clears 5 = .ok (.istore 4, 2) := by decide +kernel
theorem dX4_clears_7 : decode cX4_clears 7 = .ok (.iload 4, 2) := by decide +kernel
theorem dX4_clears_9 : decode cX4_clears 9 = .ok (.ifCond .eq 74, 3) := by decide +kernel
theorem dX4_clears_12 : decode cX4_clears 12 = .ok (.aload_n 0, 1) := by decide +kernel
theorem dX4_clears_13 : decode cX4_clears 13 = .ok (.iload_n 3, 1) := by decide +kernel
theorem dX4_clears_14 : decode cX4_clears 14 = .ok (.bipush 6, 2) := by decide +kernel
theorem dX4_clears_16 : decode cX4_clears 16 = .ok (.invokevirtual 39, 3) := by decide +kernel
theorem dX4_clears_19 : decode cX4_clears 19 = .ok (.ifCond .ne 21, 3) := by decide +kernel
theorem dX4_clears_22 : decode cX4_clears 22 = .ok (.iload_n 2, 1) := by decide +kernel
theorem dX4_clears_23 : decode cX4_clears 23 = .ok (.iconst 1, 1) := by decide +kernel
theorem dX4_clears_24 : decode cX4_clears 24 = .ok (.aload_n 0, 1) := by decide +kernel
theorem dX4_clears_25 : decode cX4_clears 25 = .ok (.iload_n 3, 1) := by decide +kernel
theorem dX4_clears_26 : decode cX4_clears 26 = .ok (.iconst 5, 1) := by decide +kernel
theorem dX4_clears_27 : decode cX4_clears 27 = .ok (.invokevirtual 39, 3) := by decide +kernel
theorem dX4_clears_30 : decode cX4_clears 30 = .ok (.isub, 1) := by decide +kernel
theorem dX4_clears_31 : decode cX4_clears 31 = .ok (.iadd, 1) := by decide +kernel
theorem dX4_clears_32 : decode cX4_clears 32 = .ok (.istore_n 2, 1) := by decide +kernel
theorem dX4_clears_33 : decode cX4_clears 33 = .ok (.aload_n 0, 1) := by decide +kernel
theorem dX4_clears_34 : decode cX4_clears 34 = .ok (.iload_n 3, 1) := by decide +kernel
theorem dX4_clears_35 : decode cX4_clears 35 = .ok (.iconst 5, 1) := by decide +kernel
theorem dX4_clears_36 : decode cX4_clears 36 = .ok (.iconst 1, 1) := by decide +kernel
theorem dX4_clears_37 : decode cX4_clears 37 = .ok (.invokevirtual 54, 3) := by decide +kernel
theorem dX4_clears_40 : decode cX4_clears 40 = .ok (.aload_n 0, 1) := by decide +kernel
theorem dX4_clears_41 : decode cX4_clears 41 = .ok (.iload_n 3, 1) := by decide +kernel
theorem dX4_clears_42 : decode cX4_clears 42 = .ok (.invokevirtual 71, 3) := by decide +kernel
theorem dX4_clears_45 : decode cX4_clears 45 = .ok (.ifCond .eq 16, 3) := by decide +kernel
theorem dX4_clears_48 : decode cX4_clears 48 = .ok (.aload_n 0, 1) := by decide +kernel
theorem dX4_clears_49 : decode cX4_clears 49 = .ok (.iload_n 3, 1) := by decide +kernel
theorem dX4_clears_50 : decode cX4_clears 50 = .ok (.iconst 2, 1) := by decide +kernel
theorem dX4_clears_51 : decode cX4_clears 51 = .ok (.invokevirtual 39, 3) := by decide +kernel
theorem dX4_clears_54 : decode cX4_clears 54 = .ok (.ifCond .lt 7, 3) := by decide +kernel
theorem dX4_clears_57 : decode cX4_clears 57 = .ok (.iconst 1, 1) := by decide +kernel
theorem dX4_clears_58 : decode cX4_clears 58 = .ok (.goto 4, 3) := by decide +kernel
theorem dX4_clears_61 : decode cX4_clears 61 = .ok (.iconst 0, 1) := by decide +kernel
theorem dX4_clears_62 : decode cX4_clears 62 = .ok (.istore 4, 2) := by decide +kernel
theorem dX4_clears_64 : decode cX4_clears 64 = .ok (.iload 4, 2) := by decide +kernel
theorem dX4_clears_66 : decode cX4_clears 66 = .ok (.ifCond .eq 12, 3) := by decide +kernel
theorem dX4_clears_69 : decode cX4_clears 69 = .ok (.aload_n 0, 1) := by decide +kernel
theorem dX4_clears_70 : decode cX4_clears 70 = .ok (.iload_n 3, 1) := by decide +kernel
theorem dX4_clears_71 : decode cX4_clears 71 = .ok (.iconst 2, 1) := by decide +kernel
theorem dX4_clears_72 : decode cX4_clears 72 = .ok (.invokevirtual 39, 3) := by decide +kernel
theorem dX4_clears_75 : decode cX4_clears 75 = .ok (.goto 4, 3) := by decide +kernel
theorem dX4_clears_78 : decode cX4_clears 78 = .ok (.iload_n 3, 1) := by decide +kernel
theorem dX4_clears_79 : decode cX4_clears 79 = .ok (.istore_n 3, 1) := by decide +kernel
theorem dX4_clears_80 : decode cX4_clears 80 = .ok (.goto (-73), 3) := by decide +kernel
theorem dX4_clears_83 : decode cX4_clears 83 = .ok (.iload_n 2, 1) := by decide +kernel
theorem dX4_clears_84 : decode cX4_clears 84 = .ok (.ireturn, 1) := by decide +kernel
set_option maxRecDepth 20000 in
theorem ggX4_fines_X4_of : GoodIn wsX4_fines wsX4_of := goodIn_r _ [5, 6, 11, 12, 13, 14, 15, 16, 17, 18, 19, 20, 21, 22, 23] (by decide +kernel) (by decide +kernel)
set_option maxRecDepth 20000 in
theorem gX4_fines_X4_of : GoodIn wsX4_fines (wsV RX4 39 RX4 yX4_of wsX4_of) := goodIn_app (goodIn_of _ (by decide +kernel)) ggX4_fines_X4_of
set_option maxRecDepth 20000 in
theorem ggX4_fines_X4_lay : GoodIn wsX4_fines wsX4_lay := goodIn_r _ [10, 6, 11, 12, 13, 14, 15, 16, 17, 18, 19, 20, 21, 22, 23] (by decide +kernel) (by decide +kernel)
set_option maxRecDepth 20000 in
theorem gX4_fines_X4_lay : GoodIn wsX4_fines (wsV RX4 54 RX4 yX4_lay wsX4_lay) := goodIn_app (goodIn_of _ (by decide +kernel)) ggX4_fines_X4_lay
theorem dX4_fines_0 : decode cX4_fines 0 = .ok (.aload_n 0, 1) := by decide +kernel
theorem dX4_fines_1 : decode cX4_fines 1 = .ok (.iload_n 1, 1) := by decide +kernel
theorem dX4_fines_2 : decode cX4_fines 2 = .ok (.bipush 7, 2) := by decide +kernel
theorem dX4_fines_4 : decode cX4_fines 4 = .ok (.aload_n 0, 1) := by decide +kernel
theorem dX4_fines_5 : decode cX4_fines 5 = .ok (.iload_n 1, 1) := by decide +kernel
theorem dX4_fines_6 : decode cX4_fines 6 = .ok (.bipush 7, 2) := by decide +kernel
theorem dX4_fines_8 : decode cX4_fines 8 = .ok (.invokevirtual 39, 3) := by decide +kernel
theorem dX4_fines_11 : decode cX4_fines 11 = .ok (.iload_n 2, 1) := by decide +kernel
theorem dX4_fines_12 : decode cX4_fines 12 = .ok (.iadd, 1) := by decide +kernel
theorem dX4_fines_13 : decode cX4_fines 13 = .ok (.invokevirtual 54, 3) := by decide +kernel
theorem dX4_fines_16 : decode cX4_fines 16 = .ok (.return_, 1) := by decide +kernel
set_option maxRecDepth 20000 in
theorem ggX4_fineOfLie_X4_of : GoodIn wsX4_fineOfLie wsX4_of := goodIn_r _ [6, 1, 7, 8, 9, 10, 11, 12, 13, 14, 15, 16, 17, 18, 19] (by decide +kernel) (by decide +kernel)
set_option maxRecDepth 20000 in
theorem gX4_fineOfLie_X4_of : GoodIn wsX4_fineOfLie (wsV RX4 39 RX4 yX4_of wsX4_of) := goodIn_app (goodIn_of _ (by decide +kernel)) ggX4_fineOfLie_X4_of
theorem dX4_fineOfLie_0 : decode cX4_fineOfLie 0 = .ok (.aload_n 0, 1) := by decide +kernel
theorem dX4_fineOfLie_1 : decode cX4_fineOfLie 1 = .ok (.iload_n 1, 1) := by decide +kernel
theorem dX4_fineOfLie_2 : decode cX4_fineOfLie 2 = .ok (.iconst 0, 1) := by decide +kernel
theorem dX4_fineOfLie_3 : decode cX4_fineOfLie 3 = .ok (.invokevirtual 39, 3) := by decide +kernel
theorem dX4_fineOfLie_6 : decode cX4_fineOfLie 6 = .ok (.iload_n 2, 1) := by decide +kernel
theorem dX4_fineOfLie_7 : decode cX4_fineOfLie 7 = .ok (.isub, 1) := by decide +kernel
theorem dX4_fineOfLie_8 : decode cX4_fineOfLie 8 = .ok (.istore_n 3, 1) := by decide +kernel
theorem dX4_fineOfLie_9 : decode cX4_fineOfLie 9 = .ok (.aload_n 0, 1) := by decide +kernel
theorem dX4_fineOfLie_10 : decode cX4_fineOfLie 10 = .ok (.getfield 7, 3) := by decide +kernel
theorem dX4_fineOfLie_13 : decode cX4_fineOfLie 13 = .ok (.iconst 3, 1) := by decide +kernel
theorem dX4_fineOfLie_14 : decode cX4_fineOfLie 14 = .ok (.iaload, 1) := by decide +kernel
theorem dX4_fineOfLie_15 : decode cX4_fineOfLie 15 = .ok (.iconst 2, 1) := by decide +kernel
theorem dX4_fineOfLie_16 : decode cX4_fineOfLie 16 = .ok (.iload_n 3, 1) := by decide +kernel
theorem dX4_fineOfLie_17 : decode cX4_fineOfLie 17 = .ok (.ifCond .ge 8, 3) := by decide +kernel
theorem dX4_fineOfLie_20 : decode cX4_fineOfLie 20 = .ok (.iload_n 3, 1) := by decide +kernel
theorem dX4_fineOfLie_21 : decode cX4_fineOfLie 21 = .ok (.ineg, 1) := by decide +kernel
theorem dX4_fineOfLie_22 : decode cX4_fineOfLie 22 = .ok (.goto 4, 3) := by decide +kernel
theorem dX4_fineOfLie_25 : decode cX4_fineOfLie 25 = .ok (.iload_n 3, 1) := by decide +kernel
theorem dX4_fineOfLie_26 : decode cX4_fineOfLie 26 = .ok (.imul, 1) := by decide +kernel
theorem dX4_fineOfLie_27 : decode cX4_fineOfLie 27 = .ok (.iadd, 1) := by decide +kernel
theorem dX4_fineOfLie_28 : decode cX4_fineOfLie 28 = .ok (.ireturn, 1) := by decide +kernel
set_option maxRecDepth 20000 in
theorem ggX4_opens_X4_lay : GoodIn wsX4_opens wsX4_lay := goodIn_r _ [6, 1, 35, 36, 37, 38, 39, 40, 41, 42, 43, 44, 45, 46, 47] (by decide +kernel) (by decide +kernel)
set_option maxRecDepth 20000 in
theorem gX4_opens_X4_lay : GoodIn wsX4_opens (wsV RX4 54 RX4 yX4_lay wsX4_lay) := goodIn_app (goodIn_of _ (by decide +kernel)) ggX4_opens_X4_lay
set_option maxRecDepth 20000 in
theorem ggX4_opens_X4_isWhole : GoodIn wsX4_opens wsX4_isWhole := goodIn_r _ [10, 11, 12, 13, 5, 14, 1, 15, 16, 17, 18, 19, 20, 21, 22, 35, 36, 37, 38, 39, 40, 41, 42, 43, 44, 45, 46, 47] (by decide +kernel) (by decide +kernel)
set_option maxRecDepth 20000 in
theorem gX4_opens_X4_isWhole : GoodIn wsX4_opens (wsV RX4 71 RX4 yX4_isWhole wsX4_isWhole) := goodIn_app (goodIn_of _ (by decide +kernel)) ggX4_opens_X4_isWhole
set_option maxRecDepth 20000 in
theorem ggX4_opens_X4_fines : GoodIn wsX4_opens wsX4_fines := goodIn_r _ [26, 11, 12, 13, 5, 14, 1, 2, 3, 4, 6, 35, 36, 37, 38, 39, 40, 41, 42, 43, 44, 45, 46, 47] (by decide +kernel) (by decide +kernel)
set_option maxRecDepth 20000 in
theorem gX4_opens_X4_fines : GoodIn wsX4_opens (wsV RX4 77 RX4 yX4_fines wsX4_fines) := goodIn_app (goodIn_of _ (by decide +kernel)) ggX4_opens_X4_fines
set_option maxRecDepth 20000 in
theorem ggX4_opens_X4_of : GoodIn wsX4_opens wsX4_of := goodIn_r _ [14, 1, 35, 36, 37, 38, 39, 40, 41, 42, 43, 44, 45, 46, 47] (by decide +kernel) (by decide +kernel)
set_option maxRecDepth 20000 in
theorem gX4_opens_X4_of : GoodIn wsX4_opens (wsV RX4 39 RX4 yX4_of wsX4_of) := goodIn_app (goodIn_of _ (by decide +kernel)) ggX4_opens_X4_of
set_option maxRecDepth 20000 in
theorem ggX4_opens_X4_clears : GoodIn wsX4_opens wsX4_clears := goodIn_r _ [30, 11, 12, 13, 5, 14, 1, 2, 3, 4, 6, 7, 8, 9, 10, 15, 16, 17, 18, 19, 20, 21, 22, 35, 36, 37, 38, 39, 40, 41, 42, 43, 44, 45, 46, 47] (by decide +kernel) (by decide +kernel)
set_option maxRecDepth 20000 in
theorem gX4_opens_X4_clears : GoodIn wsX4_opens (wsV RX4 81 RX4 yX4_clears wsX4_clears) := goodIn_app (goodIn_of _ (by decide +kernel)) ggX4_opens_X4_clears
set_option maxRecDepth 20000 in
theorem ggX4_opens_X4_fineOfLie : GoodIn wsX4_opens wsX4_fineOfLie := goodIn_r _ [34, 1, 11, 12, 13, 5, 14, 35, 36, 37, 38, 39, 40, 41, 42, 43, 44, 45, 46, 47] (by decide +kernel) (by decide +kernel)
set_option maxRecDepth 20000 in
theorem gX4_opens_X4_fineOfLie : GoodIn wsX4_opens (wsV RX4 84 RX4 yX4_fineOfLie wsX4_fineOfLie) := goodIn_app (goodIn_of _ (by decide +kernel)) ggX4_opens_X4_fineOfLie
theorem dX4_opens_0 : decode cX4_opens 0 = .ok (.aload_n 0, 1) := by decide +kernel
theorem dX4_opens_1 : decode cX4_opens 1 = .ok (.iload_n 1, 1) := by decide +kernel
theorem dX4_opens_2 : decode cX4_opens 2 = .ok (.iconst 4, 1) := by decide +kernel
theorem dX4_opens_3 : decode cX4_opens 3 = .ok (.iconst 1, 1) := by decide +kernel
theorem dX4_opens_4 : decode cX4_opens 4 = .ok (.invokevirtual 54, 3) := by decide +kernel
theorem dX4_opens_7 : decode cX4_opens 7 = .ok (.aload_n 0, 1) := by decide +kernel
theorem dX4_opens_8 : decode cX4_opens 8 = .ok (.iload_n 1, 1) := by decide +kernel
theorem dX4_opens_9 : decode cX4_opens 9 = .ok (.aload_n 0, 1) := by decide +kernel
theorem dX4_opens_10 : decode cX4_opens 10 = .ok (.iload_n 1, 1) := by decide +kernel
theorem dX4_opens_11 : decode cX4_opens 11 = .ok (.invokevirtual 71, 3) := by decide +kernel
theorem dX4_opens_14 : decode cX4_opens 14 = .ok (.ifCond .eq 7, 3) := by decide +kernel
theorem dX4_opens_17 : decode cX4_opens 17 = .ok (.iconst 0, 1) := by decide +kernel
theorem dX4_opens_18 : decode cX4_opens 18 = .ok (.goto 4, 3) := by decide +kernel
theorem dX4_opens_21 : decode cX4_opens 21 = .ok (.iconst 3, 1) := by decide +kernel
theorem dX4_opens_22 : decode cX4_opens 22 = .ok (.invokevirtual 77, 3) := by decide +kernel
theorem dX4_opens_25 : decode cX4_opens 25 = .ok (.aload_n 0, 1) := by decide +kernel
theorem dX4_opens_26 : decode cX4_opens 26 = .ok (.iload_n 1, 1) := by decide +kernel
theorem dX4_opens_27 : decode cX4_opens 27 = .ok (.iconst 0, 1) := by decide +kernel
theorem dX4_opens_28 : decode cX4_opens 28 = .ok (.invokevirtual 39, 3) := by decide +kernel
theorem dX4_opens_31 : decode cX4_opens 31 = .ok (.aload_n 0, 1) := by decide +kernel
theorem dX4_opens_32 : decode cX4_opens 32 = .ok (.iload_n 1, 1) := by decide +kernel
theorem dX4_opens_33 : decode cX4_opens 33 = .ok (.iconst 1, 1) := by decide +kernel
theorem dX4_opens_34 : decode cX4_opens 34 = .ok (.invokevirtual 39, 3) := by decide +kernel
theorem dX4_opens_37 : decode cX4_opens 37 = .ok (.if_icmp .ne 9, 3) := by decide +kernel
theorem dX4_opens_40 : decode cX4_opens 40 = .ok (.aload_n 0, 1) := by decide +kernel
theorem dX4_opens_41 : decode cX4_opens 41 = .ok (.iload_n 1, 1) := by decide +kernel
theorem dX4_opens_42 : decode cX4_opens 42 = .ok (.invokevirtual 81, 3) := by decide +kernel
theorem dX4_opens_45 : decode cX4_opens 45 = .ok (.ireturn, 1) := by decide +kernel
theorem dX4_opens_46 : decode cX4_opens 46 = .ok (.aload_n 0, 1) := by decide +kernel
theorem dX4_opens_47 : decode cX4_opens 47 = .ok (.iload_n 1, 1) := by decide +kernel
theorem dX4_opens_48 : decode cX4_opens 48 = .ok (.bipush 6, 2) := by decide +kernel
theorem dX4_opens_50 : decode cX4_opens 50 = .ok (.iconst 1, 1) := by decide +kernel
theorem dX4_opens_51 : decode cX4_opens 51 = .ok (.invokevirtual 54, 3) := by decide +kernel
theorem dX4_opens_54 : decode cX4_opens 54 = .ok (.aload_n 0, 1) := by decide +kernel
theorem dX4_opens_55 : decode cX4_opens 55 = .ok (.iload_n 1, 1) := by decide +kernel
theorem dX4_opens_56 : decode cX4_opens 56 = .ok (.iconst 5, 1) := by decide +kernel
theorem dX4_opens_57 : decode cX4_opens 57 = .ok (.iconst 0, 1) := by decide +kernel
theorem dX4_opens_58 : decode cX4_opens 58 = .ok (.invokevirtual 54, 3) := by decide +kernel
theorem dX4_opens_61 : decode cX4_opens 61 = .ok (.aload_n 0, 1) := by decide +kernel
theorem dX4_opens_62 : decode cX4_opens 62 = .ok (.iload_n 1, 1) := by decide +kernel
theorem dX4_opens_63 : decode cX4_opens 63 = .ok (.aload_n 0, 1) := by decide +kernel
theorem dX4_opens_64 : decode cX4_opens 64 = .ok (.iload_n 1, 1) := by decide +kernel
theorem dX4_opens_65 : decode cX4_opens 65 = .ok (.aload_n 0, 1) := by decide +kernel
theorem dX4_opens_66 : decode cX4_opens 66 = .ok (.iload_n 1, 1) := by decide +kernel
theorem dX4_opens_67 : decode cX4_opens 67 = .ok (.iconst 1, 1) := by decide +kernel
theorem dX4_opens_68 : decode cX4_opens 68 = .ok (.invokevirtual 39, 3) := by decide +kernel
theorem dX4_opens_71 : decode cX4_opens 71 = .ok (.invokevirtual 84, 3) := by decide +kernel
theorem dX4_opens_74 : decode cX4_opens 74 = .ok (.invokevirtual 77, 3) := by decide +kernel
theorem dX4_opens_77 : decode cX4_opens 77 = .ok (.iconst 0, 1) := by decide +kernel
theorem dX4_opens_78 : decode cX4_opens 78 = .ok (.istore_n 2, 1) := by decide +kernel
theorem dX4_opens_79 : decode cX4_opens 79 = .ok (.iload_n 2, 1) := by decide +kernel
theorem dX4_opens_80 : decode cX4_opens 80 = .ok (.aload_n 0, 1) := by decide +kernel
theorem dX4_opens_81 : decode cX4_opens 81 = .ok (.getfield 7, 3) := by decide +kernel
theorem dX4_opens_84 : decode cX4_opens 84 = .ok (.iconst 5, 1) := by decide +kernel
theorem dX4_opens_85 : decode cX4_opens 85 = .ok (.iaload, 1) := by decide +kernel
theorem dX4_opens_86 : decode cX4_opens 86 = .ok (.if_icmp .ge 38, 3) := by decide +kernel
theorem dX4_opens_89 : decode cX4_opens 89 = .ok (.aload_n 0, 1) := by decide +kernel
theorem dX4_opens_90 : decode cX4_opens 90 = .ok (.iload_n 2, 1) := by decide +kernel
theorem dX4_opens_91 : decode cX4_opens 91 = .ok (.iconst 2, 1) := by decide +kernel
theorem dX4_opens_92 : decode cX4_opens 92 = .ok (.invokevirtual 39, 3) := by decide +kernel
theorem dX4_opens_95 : decode cX4_opens 95 = .ok (.iload_n 1, 1) := by decide +kernel
theorem dX4_opens_96 : decode cX4_opens 96 = .ok (.if_icmp .ne 22, 3) := by decide +kernel
theorem dX4_opens_99 : decode cX4_opens 99 = .ok (.aload_n 0, 1) := by decide +kernel
theorem dX4_opens_100 : decode cX4_opens 100 = .ok (.iload_n 2, 1) := by decide +kernel
theorem dX4_opens_101 : decode cX4_opens 101 = .ok (.invokevirtual 71, 3) := by decide +kernel
theorem dX4_opens_104 : decode cX4_opens 104 = .ok (.ifCond .eq 14, 3) := by decide +kernel
theorem dX4_opens_107 : decode cX4_opens 107 = .ok (.aload_n 0, 1) := by decide +kernel
theorem dX4_opens_108 : decode cX4_opens 108 = .ok (.iload_n 2, 1) := by decide +kernel
theorem dX4_opens_109 : decode cX4_opens 109 = .ok (.aload_n 0, 1) := by decide +kernel
theorem dX4_opens_110 : decode cX4_opens 110 = .ok (.getfield 7, 3) := by decide +kernel
theorem dX4_opens_113 : decode cX4_opens 113 = .ok (.iconst 4, 1) := by decide +kernel
theorem dX4_opens_114 : decode cX4_opens 114 = .ok (.iaload, 1) := by decide +kernel
theorem dX4_opens_115 : decode cX4_opens 115 = .ok (.invokevirtual 77, 3) := by decide +kernel
theorem dX4_opens_118 : decode cX4_opens 118 = .ok (.iinc 2 1, 3) := by decide +kernel
theorem dX4_opens_121 : decode cX4_opens 121 = .ok (.goto (-42), 3) := by decide +kernel
theorem dX4_opens_124 : decode cX4_opens 124 = .ok (.iconst 0, 1) := by decide +kernel
theorem dX4_opens_125 : decode cX4_opens 125 = .ok (.ireturn, 1) := by decide +kernel
set_option maxRecDepth 20000 in
theorem ggX4_refusesOpening_X4_isCart : GoodIn wsX4_refusesOpening wsX4_isCart := goodIn_r _ [5, 6, 7, 8, 4, 9, 14, 15, 16, 17, 18, 19, 20, 21, 22, 23, 24, 25, 26] (by decide +kernel) (by decide +kernel)
set_option maxRecDepth 20000 in
theorem gX4_refusesOpening_X4_isCart : GoodIn wsX4_refusesOpening (wsV RX4 50 RX4 yX4_isCart wsX4_isCart) := goodIn_app (goodIn_of _ (by decide +kernel)) ggX4_refusesOpening_X4_isCart
set_option maxRecDepth 20000 in
theorem ggX4_refusesOpening_X4_of : GoodIn wsX4_refusesOpening wsX4_of := goodIn_r _ [13, 6, 14, 15, 16, 17, 18, 19, 20, 21, 22, 23, 24, 25, 26] (by decide +kernel) (by decide +kernel)
set_option maxRecDepth 20000 in
theorem gX4_refusesOpening_X4_of : GoodIn wsX4_refusesOpening (wsV RX4 39 RX4 yX4_of wsX4_of) := goodIn_app (goodIn_of _ (by decide +kernel)) ggX4_refusesOpening_X4_of
theorem dX4_refusesOpening_0 : decode cX4_refusesOpening 0 = .ok (.aload_n 0, 1) := by decide +kernel
theorem dX4_refusesOpening_1 : decode cX4_refusesOpening 1 = .ok (.iload_n 1, 1) := by decide +kernel
theorem dX4_refusesOpening_2 : decode cX4_refusesOpening 2 = .ok (.invokevirtual 50, 3) := by decide +kernel
theorem dX4_refusesOpening_5 : decode cX4_refusesOpening 5 = .ok (.ifCond .ne 7, 3) := by decide +kernel
theorem dX4_refusesOpening_8 : decode cX4_refusesOpening 8 = .ok (.iconst (-1), 1) := by decide +kernel
theorem dX4_refusesOpening_9 : decode cX4_refusesOpening 9 = .ok (.goto 19, 3) := by decide +kernel
theorem dX4_refusesOpening_12 : decode cX4_refusesOpening 12 = .ok (.aload_n 0, 1) := by decide +kernel
theorem dX4_refusesOpening_13 : decode cX4_refusesOpening 13 = .ok (.iload_n 1, 1) := by decide +kernel
theorem dX4_refusesOpening_14 : decode cX4_refusesOpening 14 = .ok (.iconst 4, 1) := by decide +kernel
theorem dX4_refusesOpening_15 : decode cX4_refusesOpening 15 = .ok (.invokevirtual 39, 3) := by decide +kernel
theorem dX4_refusesOpening_18 : decode cX4_refusesOpening 18 = .ok (.iconst 1, 1) := by decide +kernel
theorem dX4_refusesOpening_19 : decode cX4_refusesOpening 19 = .ok (.if_icmp .ne 8, 3) := by decide +kernel
theorem dX4_refusesOpening_22 : decode cX4_refusesOpening 22 = .ok (.bipush (-4), 2) := by decide +kernel
theorem dX4_refusesOpening_24 : decode cX4_refusesOpening 24 = .ok (.goto 4, 3) := by decide +kernel
theorem dX4_refusesOpening_27 : decode cX4_refusesOpening 27 = .ok (.iconst 0, 1) := by decide +kernel
theorem dX4_refusesOpening_28 : decode cX4_refusesOpening 28 = .ok (.ireturn, 1) := by decide +kernel
set_option maxRecDepth 20000 in
theorem ggX4_open_X4_refusesOpening : GoodIn wsX4_open wsX4_refusesOpening := goodIn_r _ [6, 7, 8, 9, 5, 10, 11, 12, 13, 14, 15, 16, 17, 18, 57, 58, 59, 60, 61, 62, 63, 64, 65, 66, 67, 68, 69] (by decide +kernel) (by decide +kernel)
set_option maxRecDepth 20000 in
theorem gX4_open_X4_refusesOpening : GoodIn wsX4_open (wsV RX4 87 RX4 yX4_refusesOpening wsX4_refusesOpening) := goodIn_app (goodIn_of _ (by decide +kernel)) ggX4_open_X4_refusesOpening
set_option maxRecDepth 20000 in
theorem ggX4_open_X4_records : GoodIn wsX4_open wsX4_records := goodIn_r _ [22, 23, 24, 11, 57, 58, 59, 60, 61, 62, 63, 64, 65, 66, 67, 68, 69] (by decide +kernel) (by decide +kernel)
set_option maxRecDepth 20000 in
theorem gX4_open_X4_records : GoodIn wsX4_open (wsV RX4 62 RX4 yX4_records wsX4_records) := goodIn_app (goodIn_of _ (by decide +kernel)) ggX4_open_X4_records
set_option maxRecDepth 20000 in
theorem ggX4_open_X4_opens : GoodIn wsX4_open wsX4_opens := goodIn_r _ [28, 11, 29, 30, 31, 5, 32, 33, 34, 35, 36, 15, 16, 17, 18, 37, 38, 39, 40, 41, 42, 43, 44, 45, 46, 47, 48, 49, 50, 51, 52, 53, 54, 55, 56, 57, 58, 59, 60, 61, 62, 63, 64, 65, 66, 67, 68, 69] (by decide +kernel) (by decide +kernel)
set_option maxRecDepth 20000 in
theorem gX4_open_X4_opens : GoodIn wsX4_open (wsV RX4 90 RX4 yX4_opens wsX4_opens) := goodIn_app (goodIn_of _ (by decide +kernel)) ggX4_open_X4_opens
theorem dX4_open_0 : decode cX4_open 0 = .ok (.aload_n 0, 1) := by decide +kernel
theorem dX4_open_1 : decode cX4_open 1 = .ok (.iconst 0, 1) := by decide +kernel
theorem dX4_open_2 : decode cX4_open 2 = .ok (.putfield 28, 3) := by decide +kernel
theorem dX4_open_5 : decode cX4_open 5 = .ok (.aload_n 0, 1) := by decide +kernel
theorem dX4_open_6 : decode cX4_open 6 = .ok (.iload_n 1, 1) := by decide +kernel
theorem dX4_open_7 : decode cX4_open 7 = .ok (.invokevirtual 87, 3) := by decide +kernel
theorem dX4_open_10 : decode cX4_open 10 = .ok (.istore_n 2, 1) := by decide +kernel
theorem dX4_open_11 : decode cX4_open 11 = .ok (.iload_n 2, 1) := by decide +kernel
theorem dX4_open_12 : decode cX4_open 12 = .ok (.ifCond .eq 5, 3) := by decide +kernel
theorem dX4_open_15 : decode cX4_open 15 = .ok (.iload_n 2, 1) := by decide +kernel
theorem dX4_open_16 : decode cX4_open 16 = .ok (.ireturn, 1) := by decide +kernel
theorem dX4_open_17 : decode cX4_open 17 = .ok (.aload_n 0, 1) := by decide +kernel
theorem dX4_open_18 : decode cX4_open 18 = .ok (.invokevirtual 62, 3) := by decide +kernel
theorem dX4_open_21 : decode cX4_open 21 = .ok (.aload_n 0, 1) := by decide +kernel
theorem dX4_open_22 : decode cX4_open 22 = .ok (.iload_n 1, 1) := by decide +kernel
theorem dX4_open_23 : decode cX4_open 23 = .ok (.invokevirtual 90, 3) := by decide +kernel
theorem dX4_open_26 : decode cX4_open 26 = .ok (.ireturn, 1) := by decide +kernel
set_option maxRecDepth 20000 in
theorem ggX4_isLeft_X4_of : GoodIn wsX4_isLeft wsX4_of := goodIn_r _ [5, 6, 7, 8, 9, 10, 11, 12, 13, 14, 15, 16, 17, 18, 19] (by decide +kernel) (by decide +kernel)
set_option maxRecDepth 20000 in
theorem gX4_isLeft_X4_of : GoodIn wsX4_isLeft (wsV RX4 39 RX4 yX4_of wsX4_of) := goodIn_app (goodIn_of _ (by decide +kernel)) ggX4_isLeft_X4_of
theorem dX4_isLeft_0 : decode cX4_isLeft 0 = .ok (.aload_n 0, 1) := by decide +kernel
theorem dX4_isLeft_1 : decode cX4_isLeft 1 = .ok (.iload_n 1, 1) := by decide +kernel
theorem dX4_isLeft_2 : decode cX4_isLeft 2 = .ok (.iconst 4, 1) := by decide +kernel
theorem dX4_isLeft_3 : decode cX4_isLeft 3 = .ok (.invokevirtual 39, 3) := by decide +kernel
theorem dX4_isLeft_6 : decode cX4_isLeft 6 = .ok (.ifCond .ne 16, 3) := by decide +kernel
theorem dX4_isLeft_9 : decode cX4_isLeft 9 = .ok (.aload_n 0, 1) := by decide +kernel
theorem dX4_isLeft_10 : decode cX4_isLeft 10 = .ok (.iload_n 1, 1) := by decide +kernel
theorem dX4_isLeft_11 : decode cX4_isLeft 11 = .ok (.iconst 5, 1) := by decide +kernel
theorem dX4_isLeft_12 : decode cX4_isLeft 12 = .ok (.invokevirtual 39, 3) := by decide +kernel
theorem dX4_isLeft_15 : decode cX4_isLeft 15 = .ok (.ifCond .ne 7, 3) := by decide +kernel
theorem dX4_isLeft_18 : decode cX4_isLeft 18 = .ok (.iconst 1, 1) := by decide +kernel
theorem dX4_isLeft_19 : decode cX4_isLeft 19 = .ok (.goto 4, 3) := by decide +kernel
theorem dX4_isLeft_22 : decode cX4_isLeft 22 = .ok (.iconst 0, 1) := by decide +kernel
theorem dX4_isLeft_23 : decode cX4_isLeft 23 = .ok (.ireturn, 1) := by decide +kernel
set_option maxRecDepth 20000 in
theorem ggX4_lastLeft_X4_isLeft : GoodIn wsX4_lastLeft wsX4_isLeft := goodIn_r _ [6, 7, 8, 9, 5, 10, 1, 11, 12, 13, 14, 15, 16, 17, 18, 19, 20, 21, 22, 23] (by decide +kernel) (by decide +kernel)
set_option maxRecDepth 20000 in
theorem gX4_lastLeft_X4_isLeft : GoodIn wsX4_lastLeft (wsV RX4 93 RX4 yX4_isLeft wsX4_isLeft) := goodIn_app (goodIn_of _ (by decide +kernel)) ggX4_lastLeft_X4_isLeft
theorem dX4_lastLeft_0 : decode cX4_lastLeft 0 = .ok (.bipush (-5), 2) := by decide +kernel
theorem dX4_lastLeft_2 : decode cX4_lastLeft 2 = .ok (.istore_n 1, 1) := by decide +kernel
theorem dX4_lastLeft_3 : decode cX4_lastLeft 3 = .ok (.iconst 0, 1) := by decide +kernel
theorem dX4_lastLeft_4 : decode cX4_lastLeft 4 = .ok (.istore_n 2, 1) := by decide +kernel
theorem dX4_lastLeft_5 : decode cX4_lastLeft 5 = .ok (.iload_n 2, 1) := by decide +kernel
theorem dX4_lastLeft_6 : decode cX4_lastLeft 6 = .ok (.aload_n 0, 1) := by decide +kernel
theorem dX4_lastLeft_7 : decode cX4_lastLeft 7 = .ok (.getfield 7, 3) := by decide +kernel
theorem dX4_lastLeft_10 : decode cX4_lastLeft 10 = .ok (.iconst 5, 1) := by decide +kernel
theorem dX4_lastLeft_11 : decode cX4_lastLeft 11 = .ok (.iaload, 1) := by decide +kernel
theorem dX4_lastLeft_12 : decode cX4_lastLeft 12 = .ok (.if_icmp .ge 23, 3) := by decide +kernel
theorem dX4_lastLeft_15 : decode cX4_lastLeft 15 = .ok (.aload_n 0, 1) := by decide +kernel
theorem dX4_lastLeft_16 : decode cX4_lastLeft 16 = .ok (.iload_n 2, 1) := by decide +kernel
theorem dX4_lastLeft_17 : decode cX4_lastLeft 17 = .ok (.invokevirtual 93, 3) := by decide +kernel
theorem dX4_lastLeft_20 : decode cX4_lastLeft 20 = .ok (.ifCond .eq 7, 3) := by decide +kernel
theorem dX4_lastLeft_23 : decode cX4_lastLeft 23 = .ok (.iload_n 2, 1) := by decide +kernel
theorem dX4_lastLeft_24 : decode cX4_lastLeft 24 = .ok (.goto 4, 3) := by decide +kernel
theorem dX4_lastLeft_27 : decode cX4_lastLeft 27 = .ok (.iload_n 1, 1) := by decide +kernel
theorem dX4_lastLeft_28 : decode cX4_lastLeft 28 = .ok (.istore_n 1, 1) := by decide +kernel
theorem dX4_lastLeft_29 : decode cX4_lastLeft 29 = .ok (.iinc 2 1, 3) := by decide +kernel
theorem dX4_lastLeft_32 : decode cX4_lastLeft 32 = .ok (.goto (-27), 3) := by decide +kernel
theorem dX4_lastLeft_35 : decode cX4_lastLeft 35 = .ok (.iload_n 1, 1) := by decide +kernel
theorem dX4_lastLeft_36 : decode cX4_lastLeft 36 = .ok (.ireturn, 1) := by decide +kernel
set_option maxRecDepth 20000 in
theorem ggX4_openAll_X4_lastLeft : GoodIn wsX4_openAll wsX4_lastLeft := goodIn_r _ [6, 7, 8, 9, 10, 5, 11, 12, 13, 14, 15, 54, 55, 56, 57, 58, 59, 60, 61, 62, 63, 64, 65, 66] (by decide +kernel) (by decide +kernel)
set_option maxRecDepth 20000 in
theorem gX4_openAll_X4_lastLeft : GoodIn wsX4_openAll (wsV RX4 96 RX4 yX4_lastLeft wsX4_lastLeft) := goodIn_app (goodIn_of _ (by decide +kernel)) ggX4_openAll_X4_lastLeft
set_option maxRecDepth 20000 in
theorem ggX4_openAll_X4_records : GoodIn wsX4_openAll wsX4_records := goodIn_r _ [19, 20, 21, 7, 54, 55, 56, 57, 58, 59, 60, 61, 62, 63, 64, 65, 66] (by decide +kernel) (by decide +kernel)
set_option maxRecDepth 20000 in
theorem gX4_openAll_X4_records : GoodIn wsX4_openAll (wsV RX4 62 RX4 yX4_records wsX4_records) := goodIn_app (goodIn_of _ (by decide +kernel)) ggX4_openAll_X4_records
set_option maxRecDepth 20000 in
theorem ggX4_openAll_X4_opens : GoodIn wsX4_openAll wsX4_opens := goodIn_r _ [25, 7, 26, 27, 28, 5, 29, 30, 31, 32, 33, 12, 13, 14, 15, 34, 35, 36, 37, 38, 39, 40, 41, 42, 43, 44, 45, 46, 47, 48, 49, 50, 51, 52, 53, 54, 55, 56, 57, 58, 59, 60, 61, 62, 63, 64, 65, 66] (by decide +kernel) (by decide +kernel)
set_option maxRecDepth 20000 in
theorem gX4_openAll_X4_opens : GoodIn wsX4_openAll (wsV RX4 90 RX4 yX4_opens wsX4_opens) := goodIn_app (goodIn_of _ (by decide +kernel)) ggX4_openAll_X4_opens
theorem dX4_openAll_0 : decode cX4_openAll 0 = .ok (.aload_n 0, 1) := by decide +kernel
theorem dX4_openAll_1 : decode cX4_openAll 1 = .ok (.iconst 0, 1) := by decide +kernel
theorem dX4_openAll_2 : decode cX4_openAll 2 = .ok (.putfield 28, 3) := by decide +kernel
theorem dX4_openAll_5 : decode cX4_openAll 5 = .ok (.aload_n 0, 1) := by decide +kernel
theorem dX4_openAll_6 : decode cX4_openAll 6 = .ok (.invokevirtual 96, 3) := by decide +kernel
theorem dX4_openAll_9 : decode cX4_openAll 9 = .ok (.bipush (-5), 2) := by decide +kernel
theorem dX4_openAll_11 : decode cX4_openAll 11 = .ok (.if_icmp .ne 6, 3) := by decide +kernel
theorem dX4_openAll_14 : decode cX4_openAll 14 = .ok (.bipush (-5), 2) := by decide +kernel
theorem dX4_openAll_16 : decode cX4_openAll 16 = .ok (.ireturn, 1) := by decide +kernel
theorem dX4_openAll_17 : decode cX4_openAll 17 = .ok (.aload_n 0, 1) := by decide +kernel
theorem dX4_openAll_18 : decode cX4_openAll 18 = .ok (.invokevirtual 62, 3) := by decide +kernel
theorem dX4_openAll_21 : decode cX4_openAll 21 = .ok (.iconst 0, 1) := by decide +kernel
theorem dX4_openAll_22 : decode cX4_openAll 22 = .ok (.istore_n 1, 1) := by decide +kernel
theorem dX4_openAll_23 : decode cX4_openAll 23 = .ok (.aload_n 0, 1) := by decide +kernel
theorem dX4_openAll_24 : decode cX4_openAll 24 = .ok (.invokevirtual 96, 3) := by decide +kernel
theorem dX4_openAll_27 : decode cX4_openAll 27 = .ok (.bipush (-5), 2) := by decide +kernel
theorem dX4_openAll_29 : decode cX4_openAll 29 = .ok (.if_icmp .eq 18, 3) := by decide +kernel
theorem dX4_openAll_32 : decode cX4_openAll 32 = .ok (.aload_n 0, 1) := by decide +kernel
theorem dX4_openAll_33 : decode cX4_openAll 33 = .ok (.aload_n 0, 1) := by decide +kernel
theorem dX4_openAll_34 : decode cX4_openAll 34 = .ok (.invokevirtual 96, 3) := by decide +kernel
theorem dX4_openAll_37 : decode cX4_openAll 37 = .ok (.invokevirtual 90, 3) := by decide +kernel
theorem dX4_openAll_40 : decode cX4_openAll 40 = .ok (.pop, 1) := by decide +kernel
theorem dX4_openAll_41 : decode cX4_openAll 41 = .ok (.iinc 1 1, 3) := by decide +kernel
theorem dX4_openAll_44 : decode cX4_openAll 44 = .ok (.goto (-21), 3) := by decide +kernel
theorem dX4_openAll_47 : decode cX4_openAll 47 = .ok (.iload_n 1, 1) := by decide +kernel
theorem dX4_openAll_48 : decode cX4_openAll 48 = .ok (.ireturn, 1) := by decide +kernel
theorem dX4_leastOf_0 : decode cX4_leastOf 0 = .ok (.iload_n 0, 1) := by decide +kernel
theorem dX4_leastOf_1 : decode cX4_leastOf 1 = .ok (.iconst 2, 1) := by decide +kernel
theorem dX4_leastOf_2 : decode cX4_leastOf 2 = .ok (.if_icmp .ne 8, 3) := by decide +kernel
theorem dX4_leastOf_5 : decode cX4_leastOf 5 = .ok (.bipush 10, 2) := by decide +kernel
theorem dX4_leastOf_7 : decode cX4_leastOf 7 = .ok (.goto 13, 3) := by decide +kernel
theorem dX4_leastOf_10 : decode cX4_leastOf 10 = .ok (.iload_n 0, 1) := by decide +kernel
theorem dX4_leastOf_11 : decode cX4_leastOf 11 = .ok (.iconst 2, 1) := by decide +kernel
theorem dX4_leastOf_12 : decode cX4_leastOf 12 = .ok (.if_icmp .ge 7, 3) := by decide +kernel
theorem dX4_leastOf_15 : decode cX4_leastOf 15 = .ok (.iconst 1, 1) := by decide +kernel
theorem dX4_leastOf_16 : decode cX4_leastOf 16 = .ok (.goto 4, 3) := by decide +kernel
theorem dX4_leastOf_19 : decode cX4_leastOf 19 = .ok (.iconst 0, 1) := by decide +kernel
theorem dX4_leastOf_20 : decode cX4_leastOf 20 = .ok (.ireturn, 1) := by decide +kernel
set_option maxRecDepth 20000 in
theorem ggX4_set_X4_in : GoodIn wsX4_set wsX4_in := goodIn_r _ [6] (by decide +kernel) (by decide +kernel)
set_option maxRecDepth 20000 in
theorem gX4_set_X4_in : GoodIn wsX4_set (va_wsS RX4 32 yX4_in wsX4_in) := goodIn_app (goodIn_of _ (by decide +kernel)) ggX4_set_X4_in
set_option maxRecDepth 20000 in
theorem ggX4_set_X4_leastOf : GoodIn wsX4_set wsX4_leastOf := goodIn_r _ [9] (by decide +kernel) (by decide +kernel)
set_option maxRecDepth 20000 in
theorem gX4_set_X4_leastOf : GoodIn wsX4_set (va_wsS RX4 100 yX4_leastOf wsX4_leastOf) := goodIn_app (goodIn_of _ (by decide +kernel)) ggX4_set_X4_leastOf
set_option maxRecDepth 20000 in
theorem ggX4_set_X4_records : GoodIn wsX4_set wsX4_records := goodIn_r _ [13, 14, 15, 2, 16, 17, 18, 19, 20, 21, 22, 23, 24, 25, 26, 27, 28] (by decide +kernel) (by decide +kernel)
set_option maxRecDepth 20000 in
theorem gX4_set_X4_records : GoodIn wsX4_set (wsV RX4 62 RX4 yX4_records wsX4_records) := goodIn_app (goodIn_of _ (by decide +kernel)) ggX4_set_X4_records
theorem dX4_set_0 : decode cX4_set 0 = .ok (.aload_n 0, 1) := by decide +kernel
theorem dX4_set_1 : decode cX4_set 1 = .ok (.iconst 0, 1) := by decide +kernel
theorem dX4_set_2 : decode cX4_set 2 = .ok (.putfield 28, 3) := by decide +kernel
theorem dX4_set_5 : decode cX4_set 5 = .ok (.iload_n 1, 1) := by decide +kernel
theorem dX4_set_6 : decode cX4_set 6 = .ok (.iconst 0, 1) := by decide +kernel
theorem dX4_set_7 : decode cX4_set 7 = .ok (.iconst 4, 1) := by decide +kernel
theorem dX4_set_8 : decode cX4_set 8 = .ok (.invokestatic 32, 3) := by decide +kernel
theorem dX4_set_11 : decode cX4_set 11 = .ok (.ifCond .ne 5, 3) := by decide +kernel
theorem dX4_set_14 : decode cX4_set 14 = .ok (.iconst (-1), 1) := by decide +kernel
theorem dX4_set_15 : decode cX4_set 15 = .ok (.ireturn, 1) := by decide +kernel
theorem dX4_set_16 : decode cX4_set 16 = .ok (.iload_n 2, 1) := by decide +kernel
theorem dX4_set_17 : decode cX4_set 17 = .ok (.iload_n 1, 1) := by decide +kernel
theorem dX4_set_18 : decode cX4_set 18 = .ok (.invokestatic 100, 3) := by decide +kernel
theorem dX4_set_21 : decode cX4_set 21 = .ok (.iload_n 1, 1) := by decide +kernel
theorem dX4_set_22 : decode cX4_set 22 = .ok (.iconst 2, 1) := by decide +kernel
theorem dX4_set_23 : decode cX4_set 23 = .ok (.if_icmp .ne 9, 3) := by decide +kernel
theorem dX4_set_26 : decode cX4_set 26 = .ok (.sipush 999, 3) := by decide +kernel
theorem dX4_set_29 : decode cX4_set 29 = .ok (.goto 5, 3) := by decide +kernel
theorem dX4_set_32 : decode cX4_set 32 = .ok (.bipush 99, 2) := by decide +kernel
theorem dX4_set_34 : decode cX4_set 34 = .ok (.invokestatic 32, 3) := by decide +kernel
theorem dX4_set_37 : decode cX4_set 37 = .ok (.ifCond .ne 6, 3) := by decide +kernel
theorem dX4_set_40 : decode cX4_set 40 = .ok (.bipush (-2), 2) := by decide +kernel
theorem dX4_set_42 : decode cX4_set 42 = .ok (.ireturn, 1) := by decide +kernel
theorem dX4_set_43 : decode cX4_set 43 = .ok (.aload_n 0, 1) := by decide +kernel
theorem dX4_set_44 : decode cX4_set 44 = .ok (.getfield 7, 3) := by decide +kernel
theorem dX4_set_47 : decode cX4_set 47 = .ok (.iload_n 1, 1) := by decide +kernel
theorem dX4_set_48 : decode cX4_set 48 = .ok (.iaload, 1) := by decide +kernel
theorem dX4_set_49 : decode cX4_set 49 = .ok (.istore_n 3, 1) := by decide +kernel
theorem dX4_set_50 : decode cX4_set 50 = .ok (.iload_n 3, 1) := by decide +kernel
theorem dX4_set_51 : decode cX4_set 51 = .ok (.iload_n 2, 1) := by decide +kernel
theorem dX4_set_52 : decode cX4_set 52 = .ok (.if_icmp .ne 6, 3) := by decide +kernel
theorem dX4_set_55 : decode cX4_set 55 = .ok (.bipush (-5), 2) := by decide +kernel
theorem dX4_set_57 : decode cX4_set 57 = .ok (.ireturn, 1) := by decide +kernel
theorem dX4_set_58 : decode cX4_set 58 = .ok (.aload_n 0, 1) := by decide +kernel
theorem dX4_set_59 : decode cX4_set 59 = .ok (.invokevirtual 62, 3) := by decide +kernel
theorem dX4_set_62 : decode cX4_set 62 = .ok (.aload_n 0, 1) := by decide +kernel
theorem dX4_set_63 : decode cX4_set 63 = .ok (.getfield 7, 3) := by decide +kernel
theorem dX4_set_66 : decode cX4_set 66 = .ok (.iload_n 1, 1) := by decide +kernel
theorem dX4_set_67 : decode cX4_set 67 = .ok (.iload_n 2, 1) := by decide +kernel
theorem dX4_set_68 : decode cX4_set 68 = .ok (.iastore, 1) := by decide +kernel
theorem dX4_set_69 : decode cX4_set 69 = .ok (.iload_n 3, 1) := by decide +kernel
theorem dX4_set_70 : decode cX4_set 70 = .ok (.ireturn, 1) := by decide +kernel
theorem dX4_type_0 : decode cX4_type 0 = .ok (.aload_n 0, 1) := by decide +kernel
theorem dX4_type_1 : decode cX4_type 1 = .ok (.iconst 0, 1) := by decide +kernel
theorem dX4_type_2 : decode cX4_type 2 = .ok (.putfield 28, 3) := by decide +kernel
theorem dX4_type_5 : decode cX4_type 5 = .ok (.aload_n 0, 1) := by decide +kernel
theorem dX4_type_6 : decode cX4_type 6 = .ok (.getfield 103, 3) := by decide +kernel
theorem dX4_type_9 : decode cX4_type 9 = .ok (.bipush 60, 2) := by decide +kernel
theorem dX4_type_11 : decode cX4_type 11 = .ok (.if_icmp .ne 6, 3) := by decide +kernel
theorem dX4_type_14 : decode cX4_type 14 = .ok (.bipush (-3), 2) := by decide +kernel
theorem dX4_type_16 : decode cX4_type 16 = .ok (.ireturn, 1) := by decide +kernel
theorem dX4_type_17 : decode cX4_type 17 = .ok (.aload_n 0, 1) := by decide +kernel
theorem dX4_type_18 : decode cX4_type 18 = .ok (.getfield 22, 3) := by decide +kernel
theorem dX4_type_21 : decode cX4_type 21 = .ok (.aload_n 0, 1) := by decide +kernel
theorem dX4_type_22 : decode cX4_type 22 = .ok (.getfield 103, 3) := by decide +kernel
theorem dX4_type_25 : decode cX4_type 25 = .ok (.iload_n 1, 1) := by decide +kernel
theorem dX4_type_26 : decode cX4_type 26 = .ok (.iastore, 1) := by decide +kernel
theorem dX4_type_27 : decode cX4_type 27 = .ok (.aload_n 0, 1) := by decide +kernel
theorem dX4_type_28 : decode cX4_type 28 = .ok (.dup, 1) := by decide +kernel
theorem dX4_type_29 : decode cX4_type 29 = .ok (.getfield 103, 3) := by decide +kernel
theorem dX4_type_32 : decode cX4_type 32 = .ok (.iconst 1, 1) := by decide +kernel
theorem dX4_type_33 : decode cX4_type 33 = .ok (.iadd, 1) := by decide +kernel
theorem dX4_type_34 : decode cX4_type 34 = .ok (.putfield 103, 3) := by decide +kernel
theorem dX4_type_37 : decode cX4_type 37 = .ok (.aload_n 0, 1) := by decide +kernel
theorem dX4_type_38 : decode cX4_type 38 = .ok (.getfield 103, 3) := by decide +kernel
theorem dX4_type_41 : decode cX4_type 41 = .ok (.ireturn, 1) := by decide +kernel
theorem dX4_clearText_0 : decode cX4_clearText 0 = .ok (.aload_n 0, 1) := by decide +kernel
theorem dX4_clearText_1 : decode cX4_clearText 1 = .ok (.iconst 0, 1) := by decide +kernel
theorem dX4_clearText_2 : decode cX4_clearText 2 = .ok (.putfield 28, 3) := by decide +kernel
theorem dX4_clearText_5 : decode cX4_clearText 5 = .ok (.aload_n 0, 1) := by decide +kernel
theorem dX4_clearText_6 : decode cX4_clearText 6 = .ok (.getfield 103, 3) := by decide +kernel
theorem dX4_clearText_9 : decode cX4_clearText 9 = .ok (.istore_n 1, 1) := by decide +kernel
theorem dX4_clearText_10 : decode cX4_clearText 10 = .ok (.aload_n 0, 1) := by decide +kernel
theorem dX4_clearText_11 : decode cX4_clearText 11 = .ok (.iconst 0, 1) := by decide +kernel
theorem dX4_clearText_12 : decode cX4_clearText 12 = .ok (.putfield 103, 3) := by decide +kernel
theorem dX4_clearText_15 : decode cX4_clearText 15 = .ok (.iload_n 1, 1) := by decide +kernel
theorem dX4_clearText_16 : decode cX4_clearText 16 = .ok (.ireturn, 1) := by decide +kernel
theorem dX4_sign_0 : decode cX4_sign 0 = .ok (.aload_n 0, 1) := by decide +kernel
theorem dX4_sign_1 : decode cX4_sign 1 = .ok (.getfield 106, 3) := by decide +kernel
theorem dX4_sign_4 : decode cX4_sign 4 = .ok (.aload_n 0, 1) := by decide +kernel
theorem dX4_sign_5 : decode cX4_sign 5 = .ok (.getfield 103, 3) := by decide +kernel
theorem dX4_sign_8 : decode cX4_sign 8 = .ok (.if_icmp .ge 15, 3) := by decide +kernel
theorem dX4_sign_11 : decode cX4_sign 11 = .ok (.aload_n 0, 1) := by decide +kernel
theorem dX4_sign_12 : decode cX4_sign 12 = .ok (.getfield 22, 3) := by decide +kernel
theorem dX4_sign_15 : decode cX4_sign 15 = .ok (.aload_n 0, 1) := by decide +kernel
theorem dX4_sign_16 : decode cX4_sign 16 = .ok (.getfield 106, 3) := by decide +kernel
theorem dX4_sign_19 : decode cX4_sign 19 = .ok (.iaload, 1) := by decide +kernel
theorem dX4_sign_20 : decode cX4_sign 20 = .ok (.goto 4, 3) := by decide +kernel
theorem dX4_sign_23 : decode cX4_sign 23 = .ok (.iconst 0, 1) := by decide +kernel
theorem dX4_sign_24 : decode cX4_sign 24 = .ok (.ireturn, 1) := by decide +kernel
set_option maxRecDepth 20000 in
theorem ggX4_wants_X4_sign : GoodIn wsX4_wants wsX4_sign := goodIn_r _ [7, 2, 8, 9, 10, 11, 12, 13, 14, 15, 16, 17, 18, 19, 20, 21, 22] (by decide +kernel) (by decide +kernel)
set_option maxRecDepth 20000 in
theorem gX4_wants_X4_sign : GoodIn wsX4_wants (wsV RX4 113 RX4 yX4_sign wsX4_sign) := goodIn_app (goodIn_of _ (by decide +kernel)) ggX4_wants_X4_sign
theorem dX4_wants_0 : decode cX4_wants 0 = .ok (.aload_n 0, 1) := by decide +kernel
theorem dX4_wants_1 : decode cX4_wants 1 = .ok (.aload_n 0, 1) := by decide +kernel
theorem dX4_wants_2 : decode cX4_wants 2 = .ok (.getfield 109, 3) := by decide +kernel
theorem dX4_wants_5 : decode cX4_wants 5 = .ok (.ifCond .eq 15, 3) := by decide +kernel
theorem dX4_wants_8 : decode cX4_wants 8 = .ok (.aload_n 0, 1) := by decide +kernel
theorem dX4_wants_9 : decode cX4_wants 9 = .ok (.invokevirtual 113, 3) := by decide +kernel
theorem dX4_wants_12 : decode cX4_wants 12 = .ok (.iload_n 1, 1) := by decide +kernel
theorem dX4_wants_13 : decode cX4_wants 13 = .ok (.if_icmp .ne 7, 3) := by decide +kernel
theorem dX4_wants_16 : decode cX4_wants 16 = .ok (.iconst 1, 1) := by decide +kernel
theorem dX4_wants_17 : decode cX4_wants 17 = .ok (.goto 4, 3) := by decide +kernel
theorem dX4_wants_20 : decode cX4_wants 20 = .ok (.iconst 0, 1) := by decide +kernel
theorem dX4_wants_21 : decode cX4_wants 21 = .ok (.putfield 109, 3) := by decide +kernel
theorem dX4_wants_24 : decode cX4_wants 24 = .ok (.aload_n 0, 1) := by decide +kernel
theorem dX4_wants_25 : decode cX4_wants 25 = .ok (.dup, 1) := by decide +kernel
theorem dX4_wants_26 : decode cX4_wants 26 = .ok (.getfield 106, 3) := by decide +kernel
theorem dX4_wants_29 : decode cX4_wants 29 = .ok (.aload_n 0, 1) := by decide +kernel
theorem dX4_wants_30 : decode cX4_wants 30 = .ok (.getfield 109, 3) := by decide +kernel
theorem dX4_wants_33 : decode cX4_wants 33 = .ok (.ifCond .eq 7, 3) := by decide +kernel
theorem dX4_wants_36 : decode cX4_wants 36 = .ok (.iconst 1, 1) := by decide +kernel
theorem dX4_wants_37 : decode cX4_wants 37 = .ok (.goto 4, 3) := by decide +kernel
theorem dX4_wants_40 : decode cX4_wants 40 = .ok (.iconst 0, 1) := by decide +kernel
theorem dX4_wants_41 : decode cX4_wants 41 = .ok (.iadd, 1) := by decide +kernel
theorem dX4_wants_42 : decode cX4_wants 42 = .ok (.putfield 106, 3) := by decide +kernel
theorem dX4_wants_45 : decode cX4_wants 45 = .ok (.return_, 1) := by decide +kernel
set_option maxRecDepth 20000 in
theorem ggX4_number_X4_sign : GoodIn wsX4_number wsX4_sign := goodIn_r _ [7, 2, 8, 9, 13, 14, 15, 16, 17, 18, 19, 20, 21, 22, 23, 24, 25] (by decide +kernel) (by decide +kernel)
set_option maxRecDepth 20000 in
theorem gX4_number_X4_sign : GoodIn wsX4_number (wsV RX4 113 RX4 yX4_sign wsX4_sign) := goodIn_app (goodIn_of _ (by decide +kernel)) ggX4_number_X4_sign
set_option maxRecDepth 20000 in
theorem ggX4_number_X4_in : GoodIn wsX4_number wsX4_in := goodIn_r _ [12] (by decide +kernel) (by decide +kernel)
set_option maxRecDepth 20000 in
theorem gX4_number_X4_in : GoodIn wsX4_number (va_wsS RX4 32 yX4_in wsX4_in) := goodIn_app (goodIn_of _ (by decide +kernel)) ggX4_number_X4_in
theorem dX4_number_0 : decode cX4_number 0 = .ok (.aload_n 0, 1) := by decide +kernel
theorem dX4_number_1 : decode cX4_number 1 = .ok (.aload_n 0, 1) := by decide +kernel
theorem dX4_number_2 : decode cX4_number 2 = .ok (.getfield 109, 3) := by decide +kernel
theorem dX4_number_5 : decode cX4_number 5 = .ok (.ifCond .eq 21, 3) := by decide +kernel
theorem dX4_number_8 : decode cX4_number 8 = .ok (.aload_n 0, 1) := by decide +kernel
theorem dX4_number_9 : decode cX4_number 9 = .ok (.invokevirtual 113, 3) := by decide +kernel
theorem dX4_number_12 : decode cX4_number 12 = .ok (.bipush 48, 2) := by decide +kernel
theorem dX4_number_14 : decode cX4_number 14 = .ok (.bipush 57, 2) := by decide +kernel
theorem dX4_number_16 : decode cX4_number 16 = .ok (.invokestatic 32, 3) := by decide +kernel
theorem dX4_number_19 : decode cX4_number 19 = .ok (.ifCond .eq 7, 3) := by decide +kernel
theorem dX4_number_22 : decode cX4_number 22 = .ok (.iconst 1, 1) := by decide +kernel
theorem dX4_number_23 : decode cX4_number 23 = .ok (.goto 4, 3) := by decide +kernel
theorem dX4_number_26 : decode cX4_number 26 = .ok (.iconst 0, 1) := by decide +kernel
theorem dX4_number_27 : decode cX4_number 27 = .ok (.putfield 109, 3) := by decide +kernel
theorem dX4_number_30 : decode cX4_number 30 = .ok (.aload_n 0, 1) := by decide +kernel
theorem dX4_number_31 : decode cX4_number 31 = .ok (.invokevirtual 113, 3) := by decide +kernel
theorem dX4_number_34 : decode cX4_number 34 = .ok (.bipush 48, 2) := by decide +kernel
theorem dX4_number_36 : decode cX4_number 36 = .ok (.isub, 1) := by decide +kernel
theorem dX4_number_37 : decode cX4_number 37 = .ok (.istore_n 2, 1) := by decide +kernel
theorem dX4_number_38 : decode cX4_number 38 = .ok (.aload_n 0, 1) := by decide +kernel
theorem dX4_number_39 : decode cX4_number 39 = .ok (.dup, 1) := by decide +kernel
theorem dX4_number_40 : decode cX4_number 40 = .ok (.getfield 106, 3) := by decide +kernel
theorem dX4_number_43 : decode cX4_number 43 = .ok (.aload_n 0, 1) := by decide +kernel
theorem dX4_number_44 : decode cX4_number 44 = .ok (.getfield 109, 3) := by decide +kernel
theorem dX4_number_47 : decode cX4_number 47 = .ok (.ifCond .eq 7, 3) := by decide +kernel
theorem dX4_number_50 : decode cX4_number 50 = .ok (.iconst 1, 1) := by decide +kernel
theorem dX4_number_51 : decode cX4_number 51 = .ok (.goto 4, 3) := by decide +kernel
theorem dX4_number_54 : decode cX4_number 54 = .ok (.iconst 0, 1) := by decide +kernel
theorem dX4_number_55 : decode cX4_number 55 = .ok (.iadd, 1) := by decide +kernel
theorem dX4_number_56 : decode cX4_number 56 = .ok (.putfield 106, 3) := by decide +kernel
theorem dX4_number_59 : decode cX4_number 59 = .ok (.aload_n 0, 1) := by decide +kernel
theorem dX4_number_60 : decode cX4_number 60 = .ok (.getfield 109, 3) := by decide +kernel
theorem dX4_number_63 : decode cX4_number 63 = .ok (.ifCond .eq 60, 3) := by decide +kernel
theorem dX4_number_66 : decode cX4_number 66 = .ok (.iload_n 2, 1) := by decide +kernel
theorem dX4_number_67 : decode cX4_number 67 = .ok (.ifCond .le 56, 3) := by decide +kernel
theorem dX4_number_70 : decode cX4_number 70 = .ok (.aload_n 0, 1) := by decide +kernel
theorem dX4_number_71 : decode cX4_number 71 = .ok (.invokevirtual 113, 3) := by decide +kernel
theorem dX4_number_74 : decode cX4_number 74 = .ok (.bipush 48, 2) := by decide +kernel
theorem dX4_number_76 : decode cX4_number 76 = .ok (.bipush 57, 2) := by decide +kernel
theorem dX4_number_78 : decode cX4_number 78 = .ok (.invokestatic 32, 3) := by decide +kernel
theorem dX4_number_81 : decode cX4_number 81 = .ok (.ifCond .eq 42, 3) := by decide +kernel
theorem dX4_number_84 : decode cX4_number 84 = .ok (.bipush 10, 2) := by decide +kernel
theorem dX4_number_86 : decode cX4_number 86 = .ok (.iload_n 2, 1) := by decide +kernel
theorem dX4_number_87 : decode cX4_number 87 = .ok (.imul, 1) := by decide +kernel
theorem dX4_number_88 : decode cX4_number 88 = .ok (.aload_n 0, 1) := by decide +kernel
theorem dX4_number_89 : decode cX4_number 89 = .ok (.invokevirtual 113, 3) := by decide +kernel
theorem dX4_number_92 : decode cX4_number 92 = .ok (.iadd, 1) := by decide +kernel
theorem dX4_number_93 : decode cX4_number 93 = .ok (.bipush 48, 2) := by decide +kernel
theorem dX4_number_95 : decode cX4_number 95 = .ok (.isub, 1) := by decide +kernel
theorem dX4_number_96 : decode cX4_number 96 = .ok (.iload_n 1, 1) := by decide +kernel
theorem dX4_number_97 : decode cX4_number 97 = .ok (.if_icmp .gt 26, 3) := by decide +kernel
theorem dX4_number_100 : decode cX4_number 100 = .ok (.bipush 10, 2) := by decide +kernel
theorem dX4_number_102 : decode cX4_number 102 = .ok (.iload_n 2, 1) := by decide +kernel
theorem dX4_number_103 : decode cX4_number 103 = .ok (.imul, 1) := by decide +kernel
theorem dX4_number_104 : decode cX4_number 104 = .ok (.aload_n 0, 1) := by decide +kernel
theorem dX4_number_105 : decode cX4_number 105 = .ok (.invokevirtual 113, 3) := by decide +kernel
theorem dX4_number_108 : decode cX4_number 108 = .ok (.iadd, 1) := by decide +kernel
theorem dX4_number_109 : decode cX4_number 109 = .ok (.bipush 48, 2) := by decide +kernel
theorem dX4_number_111 : decode cX4_number 111 = .ok (.isub, 1) := by decide +kernel
theorem dX4_number_112 : decode cX4_number 112 = .ok (.istore_n 2, 1) := by decide +kernel
theorem dX4_number_113 : decode cX4_number 113 = .ok (.aload_n 0, 1) := by decide +kernel
theorem dX4_number_114 : decode cX4_number 114 = .ok (.dup, 1) := by decide +kernel
theorem dX4_number_115 : decode cX4_number 115 = .ok (.getfield 106, 3) := by decide +kernel
theorem dX4_number_118 : decode cX4_number 118 = .ok (.iconst 1, 1) := by decide +kernel
theorem dX4_number_119 : decode cX4_number 119 = .ok (.iadd, 1) := by decide +kernel
theorem dX4_number_120 : decode cX4_number 120 = .ok (.putfield 106, 3) := by decide +kernel
theorem dX4_number_123 : decode cX4_number 123 = .ok (.iload_n 2, 1) := by decide +kernel
theorem dX4_number_124 : decode cX4_number 124 = .ok (.ireturn, 1) := by decide +kernel
set_option maxRecDepth 20000 in
theorem ggX4_readsCart_X4_number : GoodIn wsX4_readsCart wsX4_number := goodIn_r _ [8, 2, 3, 9, 10, 11, 7, 12, 13, 14, 15, 16, 17, 22, 23, 24, 25, 26, 27, 28, 29, 30, 31, 32, 33, 34] (by decide +kernel) (by decide +kernel)
set_option maxRecDepth 20000 in
theorem gX4_readsCart_X4_number : GoodIn wsX4_readsCart (wsV RX4 116 RX4 yX4_number wsX4_number) := goodIn_app (goodIn_of _ (by decide +kernel)) ggX4_readsCart_X4_number
set_option maxRecDepth 20000 in
theorem ggX4_readsCart_X4_wants : GoodIn wsX4_readsCart wsX4_wants := goodIn_r _ [21, 2, 3, 9, 10, 11, 7, 12, 13, 14, 22, 23, 24, 25, 26, 27, 28, 29, 30, 31, 32, 33, 34] (by decide +kernel) (by decide +kernel)
set_option maxRecDepth 20000 in
theorem gX4_readsCart_X4_wants : GoodIn wsX4_readsCart (wsV RX4 119 RX4 yX4_wants wsX4_wants) := goodIn_app (goodIn_of _ (by decide +kernel)) ggX4_readsCart_X4_wants
set_option maxRecDepth 20000 in
theorem ggX4_readsCart_X4_sign : GoodIn wsX4_readsCart wsX4_sign := goodIn_r _ [12, 3, 13, 14, 22, 23, 24, 25, 26, 27, 28, 29, 30, 31, 32, 33, 34] (by decide +kernel) (by decide +kernel)
set_option maxRecDepth 20000 in
theorem gX4_readsCart_X4_sign : GoodIn wsX4_readsCart (wsV RX4 113 RX4 yX4_sign wsX4_sign) := goodIn_app (goodIn_of _ (by decide +kernel)) ggX4_readsCart_X4_sign
theorem dX4_readsCart_0 : decode cX4_readsCart 0 = .ok (.aload_n 0, 1) := by decide +kernel
theorem dX4_readsCart_1 : decode cX4_readsCart 1 = .ok (.getfield 25, 3) := by decide +kernel
theorem dX4_readsCart_4 : decode cX4_readsCart 4 = .ok (.iload_n 1, 1) := by decide +kernel
theorem dX4_readsCart_5 : decode cX4_readsCart 5 = .ok (.iconst 1, 1) := by decide +kernel
theorem dX4_readsCart_6 : decode cX4_readsCart 6 = .ok (.iadd, 1) := by decide +kernel
theorem dX4_readsCart_7 : decode cX4_readsCart 7 = .ok (.aload_n 0, 1) := by decide +kernel
theorem dX4_readsCart_8 : decode cX4_readsCart 8 = .ok (.bipush 99, 2) := by decide +kernel
theorem dX4_readsCart_10 : decode cX4_readsCart 10 = .ok (.invokevirtual 116, 3) := by decide +kernel
theorem dX4_readsCart_13 : decode cX4_readsCart 13 = .ok (.iastore, 1) := by decide +kernel
theorem dX4_readsCart_14 : decode cX4_readsCart 14 = .ok (.aload_n 0, 1) := by decide +kernel
theorem dX4_readsCart_15 : decode cX4_readsCart 15 = .ok (.bipush 47, 2) := by decide +kernel
theorem dX4_readsCart_17 : decode cX4_readsCart 17 = .ok (.invokevirtual 119, 3) := by decide +kernel
theorem dX4_readsCart_20 : decode cX4_readsCart 20 = .ok (.aload_n 0, 1) := by decide +kernel
theorem dX4_readsCart_21 : decode cX4_readsCart 21 = .ok (.getfield 25, 3) := by decide +kernel
theorem dX4_readsCart_24 : decode cX4_readsCart 24 = .ok (.iload_n 1, 1) := by decide +kernel
theorem dX4_readsCart_25 : decode cX4_readsCart 25 = .ok (.iconst 2, 1) := by decide +kernel
theorem dX4_readsCart_26 : decode cX4_readsCart 26 = .ok (.iadd, 1) := by decide +kernel
theorem dX4_readsCart_27 : decode cX4_readsCart 27 = .ok (.aload_n 0, 1) := by decide +kernel
theorem dX4_readsCart_28 : decode cX4_readsCart 28 = .ok (.bipush 99, 2) := by decide +kernel
theorem dX4_readsCart_30 : decode cX4_readsCart 30 = .ok (.invokevirtual 116, 3) := by decide +kernel
theorem dX4_readsCart_33 : decode cX4_readsCart 33 = .ok (.iastore, 1) := by decide +kernel
theorem dX4_readsCart_34 : decode cX4_readsCart 34 = .ok (.aload_n 0, 1) := by decide +kernel
theorem dX4_readsCart_35 : decode cX4_readsCart 35 = .ok (.getfield 25, 3) := by decide +kernel
theorem dX4_readsCart_38 : decode cX4_readsCart 38 = .ok (.iload_n 1, 1) := by decide +kernel
theorem dX4_readsCart_39 : decode cX4_readsCart 39 = .ok (.iconst 3, 1) := by decide +kernel
theorem dX4_readsCart_40 : decode cX4_readsCart 40 = .ok (.iadd, 1) := by decide +kernel
theorem dX4_readsCart_41 : decode cX4_readsCart 41 = .ok (.iconst (-1), 1) := by decide +kernel
theorem dX4_readsCart_42 : decode cX4_readsCart 42 = .ok (.iastore, 1) := by decide +kernel
theorem dX4_readsCart_43 : decode cX4_readsCart 43 = .ok (.aload_n 0, 1) := by decide +kernel
theorem dX4_readsCart_44 : decode cX4_readsCart 44 = .ok (.getfield 109, 3) := by decide +kernel
theorem dX4_readsCart_47 : decode cX4_readsCart 47 = .ok (.ifCond .eq 36, 3) := by decide +kernel
theorem dX4_readsCart_50 : decode cX4_readsCart 50 = .ok (.aload_n 0, 1) := by decide +kernel
theorem dX4_readsCart_51 : decode cX4_readsCart 51 = .ok (.invokevirtual 113, 3) := by decide +kernel
theorem dX4_readsCart_54 : decode cX4_readsCart 54 = .ok (.bipush 62, 2) := by decide +kernel
theorem dX4_readsCart_56 : decode cX4_readsCart 56 = .ok (.if_icmp .ne 27, 3) := by decide +kernel
theorem dX4_readsCart_59 : decode cX4_readsCart 59 = .ok (.aload_n 0, 1) := by decide +kernel
theorem dX4_readsCart_60 : decode cX4_readsCart 60 = .ok (.dup, 1) := by decide +kernel
theorem dX4_readsCart_61 : decode cX4_readsCart 61 = .ok (.getfield 106, 3) := by decide +kernel
theorem dX4_readsCart_64 : decode cX4_readsCart 64 = .ok (.iconst 1, 1) := by decide +kernel
theorem dX4_readsCart_65 : decode cX4_readsCart 65 = .ok (.iadd, 1) := by decide +kernel
theorem dX4_readsCart_66 : decode cX4_readsCart 66 = .ok (.putfield 106, 3) := by decide +kernel
theorem dX4_readsCart_69 : decode cX4_readsCart 69 = .ok (.aload_n 0, 1) := by decide +kernel
theorem dX4_readsCart_70 : decode cX4_readsCart 70 = .ok (.getfield 25, 3) := by decide +kernel
theorem dX4_readsCart_73 : decode cX4_readsCart 73 = .ok (.iload_n 1, 1) := by decide +kernel
theorem dX4_readsCart_74 : decode cX4_readsCart 74 = .ok (.iconst 3, 1) := by decide +kernel
theorem dX4_readsCart_75 : decode cX4_readsCart 75 = .ok (.iadd, 1) := by decide +kernel
theorem dX4_readsCart_76 : decode cX4_readsCart 76 = .ok (.aload_n 0, 1) := by decide +kernel
theorem dX4_readsCart_77 : decode cX4_readsCart 77 = .ok (.bipush 23, 2) := by decide +kernel
theorem dX4_readsCart_79 : decode cX4_readsCart 79 = .ok (.invokevirtual 116, 3) := by decide +kernel
theorem dX4_readsCart_82 : decode cX4_readsCart 82 = .ok (.iastore, 1) := by decide +kernel
theorem dX4_readsCart_83 : decode cX4_readsCart 83 = .ok (.return_, 1) := by decide +kernel
set_option maxRecDepth 20000 in
theorem ggX4_readsOrder_X4_sign : GoodIn wsX4_readsOrder wsX4_sign := goodIn_r _ [9, 3, 10, 11, 27, 28, 29, 30, 31, 32, 33, 34, 35, 36, 37, 38, 39] (by decide +kernel) (by decide +kernel)
set_option maxRecDepth 20000 in
theorem gX4_readsOrder_X4_sign : GoodIn wsX4_readsOrder (wsV RX4 113 RX4 yX4_sign wsX4_sign) := goodIn_app (goodIn_of _ (by decide +kernel)) ggX4_readsOrder_X4_sign
set_option maxRecDepth 20000 in
theorem ggX4_readsOrder_X4_readsCart : GoodIn wsX4_readsOrder wsX4_readsCart := goodIn_r _ [15, 4, 2, 3, 16, 17, 18, 8, 19, 5, 6, 7, 9, 10, 11, 20, 21, 22, 23, 24, 25, 26, 27, 28, 29, 30, 31, 32, 33, 34, 35, 36, 37, 38, 39] (by decide +kernel) (by decide +kernel)
set_option maxRecDepth 20000 in
theorem gX4_readsOrder_X4_readsCart : GoodIn wsX4_readsOrder (wsV RX4 126 RX4 yX4_readsCart wsX4_readsCart) := goodIn_app (goodIn_of _ (by decide +kernel)) ggX4_readsOrder_X4_readsCart
set_option maxRecDepth 20000 in
theorem ggX4_readsOrder_X4_number : GoodIn wsX4_readsOrder wsX4_number := goodIn_r _ [19, 2, 3, 5, 6, 7, 8, 9, 10, 11, 20, 21, 22, 27, 28, 29, 30, 31, 32, 33, 34, 35, 36, 37, 38, 39] (by decide +kernel) (by decide +kernel)
set_option maxRecDepth 20000 in
theorem gX4_readsOrder_X4_number : GoodIn wsX4_readsOrder (wsV RX4 116 RX4 yX4_number wsX4_number) := goodIn_app (goodIn_of _ (by decide +kernel)) ggX4_readsOrder_X4_number
set_option maxRecDepth 20000 in
theorem ggX4_readsOrder_X4_wants : GoodIn wsX4_readsOrder wsX4_wants := goodIn_r _ [26, 2, 3, 5, 6, 7, 8, 9, 10, 11, 27, 28, 29, 30, 31, 32, 33, 34, 35, 36, 37, 38, 39] (by decide +kernel) (by decide +kernel)
set_option maxRecDepth 20000 in
theorem gX4_readsOrder_X4_wants : GoodIn wsX4_readsOrder (wsV RX4 119 RX4 yX4_wants wsX4_wants) := goodIn_app (goodIn_of _ (by decide +kernel)) ggX4_readsOrder_X4_wants
theorem dX4_readsOrder_0 : decode cX4_readsOrder 0 = .ok (.iconst 4, 1) := by decide +kernel
theorem dX4_readsOrder_1 : decode cX4_readsOrder 1 = .ok (.aload_n 0, 1) := by decide +kernel
theorem dX4_readsOrder_2 : decode cX4_readsOrder 2 = .ok (.getfield 123, 3) := by decide +kernel
theorem dX4_readsOrder_5 : decode cX4_readsOrder 5 = .ok (.imul, 1) := by decide +kernel
theorem dX4_readsOrder_6 : decode cX4_readsOrder 6 = .ok (.istore_n 1, 1) := by decide +kernel
theorem dX4_readsOrder_7 : decode cX4_readsOrder 7 = .ok (.aload_n 0, 1) := by decide +kernel
theorem dX4_readsOrder_8 : decode cX4_readsOrder 8 = .ok (.invokevirtual 113, 3) := by decide +kernel
theorem dX4_readsOrder_11 : decode cX4_readsOrder 11 = .ok (.istore_n 2, 1) := by decide +kernel
theorem dX4_readsOrder_12 : decode cX4_readsOrder 12 = .ok (.aload_n 0, 1) := by decide +kernel
theorem dX4_readsOrder_13 : decode cX4_readsOrder 13 = .ok (.iload_n 2, 1) := by decide +kernel
theorem dX4_readsOrder_14 : decode cX4_readsOrder 14 = .ok (.bipush 99, 2) := by decide +kernel
theorem dX4_readsOrder_16 : decode cX4_readsOrder 16 = .ok (.if_icmp .eq 21, 3) := by decide +kernel
theorem dX4_readsOrder_19 : decode cX4_readsOrder 19 = .ok (.iload_n 2, 1) := by decide +kernel
theorem dX4_readsOrder_20 : decode cX4_readsOrder 20 = .ok (.bipush 111, 2) := by decide +kernel
theorem dX4_readsOrder_22 : decode cX4_readsOrder 22 = .ok (.if_icmp .eq 15, 3) := by decide +kernel
theorem dX4_readsOrder_25 : decode cX4_readsOrder 25 = .ok (.iload_n 2, 1) := by decide +kernel
theorem dX4_readsOrder_26 : decode cX4_readsOrder 26 = .ok (.bipush 120, 2) := by decide +kernel
theorem dX4_readsOrder_28 : decode cX4_readsOrder 28 = .ok (.if_icmp .eq 9, 3) := by decide +kernel
theorem dX4_readsOrder_31 : decode cX4_readsOrder 31 = .ok (.iload_n 2, 1) := by decide +kernel
theorem dX4_readsOrder_32 : decode cX4_readsOrder 32 = .ok (.bipush 115, 2) := by decide +kernel
theorem dX4_readsOrder_34 : decode cX4_readsOrder 34 = .ok (.if_icmp .ne 7, 3) := by decide +kernel
theorem dX4_readsOrder_37 : decode cX4_readsOrder 37 = .ok (.iconst 1, 1) := by decide +kernel
theorem dX4_readsOrder_38 : decode cX4_readsOrder 38 = .ok (.goto 4, 3) := by decide +kernel
theorem dX4_readsOrder_41 : decode cX4_readsOrder 41 = .ok (.iconst 0, 1) := by decide +kernel
theorem dX4_readsOrder_42 : decode cX4_readsOrder 42 = .ok (.putfield 109, 3) := by decide +kernel
theorem dX4_readsOrder_45 : decode cX4_readsOrder 45 = .ok (.aload_n 0, 1) := by decide +kernel
theorem dX4_readsOrder_46 : decode cX4_readsOrder 46 = .ok (.dup, 1) := by decide +kernel
theorem dX4_readsOrder_47 : decode cX4_readsOrder 47 = .ok (.getfield 106, 3) := by decide +kernel
theorem dX4_readsOrder_50 : decode cX4_readsOrder 50 = .ok (.aload_n 0, 1) := by decide +kernel
theorem dX4_readsOrder_51 : decode cX4_readsOrder 51 = .ok (.getfield 109, 3) := by decide +kernel
theorem dX4_readsOrder_54 : decode cX4_readsOrder 54 = .ok (.ifCond .eq 7, 3) := by decide +kernel
theorem dX4_readsOrder_57 : decode cX4_readsOrder 57 = .ok (.iconst 1, 1) := by decide +kernel
theorem dX4_readsOrder_58 : decode cX4_readsOrder 58 = .ok (.goto 4, 3) := by decide +kernel
theorem dX4_readsOrder_61 : decode cX4_readsOrder 61 = .ok (.iconst 0, 1) := by decide +kernel
theorem dX4_readsOrder_62 : decode cX4_readsOrder 62 = .ok (.iadd, 1) := by decide +kernel
theorem dX4_readsOrder_63 : decode cX4_readsOrder 63 = .ok (.putfield 106, 3) := by decide +kernel
theorem dX4_readsOrder_66 : decode cX4_readsOrder 66 = .ok (.aload_n 0, 1) := by decide +kernel
theorem dX4_readsOrder_67 : decode cX4_readsOrder 67 = .ok (.getfield 25, 3) := by decide +kernel
theorem dX4_readsOrder_70 : decode cX4_readsOrder 70 = .ok (.iload_n 1, 1) := by decide +kernel
theorem dX4_readsOrder_71 : decode cX4_readsOrder 71 = .ok (.iload_n 2, 1) := by decide +kernel
theorem dX4_readsOrder_72 : decode cX4_readsOrder 72 = .ok (.iastore, 1) := by decide +kernel
theorem dX4_readsOrder_73 : decode cX4_readsOrder 73 = .ok (.iload_n 2, 1) := by decide +kernel
theorem dX4_readsOrder_74 : decode cX4_readsOrder 74 = .ok (.bipush 99, 2) := by decide +kernel
theorem dX4_readsOrder_76 : decode cX4_readsOrder 76 = .ok (.if_icmp .ne 11, 3) := by decide +kernel
theorem dX4_readsOrder_79 : decode cX4_readsOrder 79 = .ok (.aload_n 0, 1) := by decide +kernel
theorem dX4_readsOrder_80 : decode cX4_readsOrder 80 = .ok (.iload_n 1, 1) := by decide +kernel
theorem dX4_readsOrder_81 : decode cX4_readsOrder 81 = .ok (.invokevirtual 126, 3) := by decide +kernel
theorem dX4_readsOrder_84 : decode cX4_readsOrder 84 = .ok (.goto 17, 3) := by decide +kernel
theorem dX4_readsOrder_87 : decode cX4_readsOrder 87 = .ok (.aload_n 0, 1) := by decide +kernel
theorem dX4_readsOrder_88 : decode cX4_readsOrder 88 = .ok (.getfield 25, 3) := by decide +kernel
theorem dX4_readsOrder_91 : decode cX4_readsOrder 91 = .ok (.iload_n 1, 1) := by decide +kernel
theorem dX4_readsOrder_92 : decode cX4_readsOrder 92 = .ok (.iconst 1, 1) := by decide +kernel
theorem dX4_readsOrder_93 : decode cX4_readsOrder 93 = .ok (.iadd, 1) := by decide +kernel
theorem dX4_readsOrder_94 : decode cX4_readsOrder 94 = .ok (.aload_n 0, 1) := by decide +kernel
theorem dX4_readsOrder_95 : decode cX4_readsOrder 95 = .ok (.bipush 23, 2) := by decide +kernel
theorem dX4_readsOrder_97 : decode cX4_readsOrder 97 = .ok (.invokevirtual 116, 3) := by decide +kernel
theorem dX4_readsOrder_100 : decode cX4_readsOrder 100 = .ok (.iastore, 1) := by decide +kernel
theorem dX4_readsOrder_101 : decode cX4_readsOrder 101 = .ok (.iload_n 2, 1) := by decide +kernel
theorem dX4_readsOrder_102 : decode cX4_readsOrder 102 = .ok (.bipush 120, 2) := by decide +kernel
theorem dX4_readsOrder_104 : decode cX4_readsOrder 104 = .ok (.if_icmp .ne 23, 3) := by decide +kernel
theorem dX4_readsOrder_107 : decode cX4_readsOrder 107 = .ok (.aload_n 0, 1) := by decide +kernel
theorem dX4_readsOrder_108 : decode cX4_readsOrder 108 = .ok (.bipush 61, 2) := by decide +kernel
theorem dX4_readsOrder_110 : decode cX4_readsOrder 110 = .ok (.invokevirtual 119, 3) := by decide +kernel
theorem dX4_readsOrder_113 : decode cX4_readsOrder 113 = .ok (.aload_n 0, 1) := by decide +kernel
theorem dX4_readsOrder_114 : decode cX4_readsOrder 114 = .ok (.getfield 25, 3) := by decide +kernel
theorem dX4_readsOrder_117 : decode cX4_readsOrder 117 = .ok (.iload_n 1, 1) := by decide +kernel
theorem dX4_readsOrder_118 : decode cX4_readsOrder 118 = .ok (.iconst 2, 1) := by decide +kernel
theorem dX4_readsOrder_119 : decode cX4_readsOrder 119 = .ok (.iadd, 1) := by decide +kernel
theorem dX4_readsOrder_120 : decode cX4_readsOrder 120 = .ok (.aload_n 0, 1) := by decide +kernel
theorem dX4_readsOrder_121 : decode cX4_readsOrder 121 = .ok (.bipush 99, 2) := by decide +kernel
theorem dX4_readsOrder_123 : decode cX4_readsOrder 123 = .ok (.invokevirtual 116, 3) := by decide +kernel
theorem dX4_readsOrder_126 : decode cX4_readsOrder 126 = .ok (.iastore, 1) := by decide +kernel
theorem dX4_readsOrder_127 : decode cX4_readsOrder 127 = .ok (.aload_n 0, 1) := by decide +kernel
theorem dX4_readsOrder_128 : decode cX4_readsOrder 128 = .ok (.dup, 1) := by decide +kernel
theorem dX4_readsOrder_129 : decode cX4_readsOrder 129 = .ok (.getfield 123, 3) := by decide +kernel
theorem dX4_readsOrder_132 : decode cX4_readsOrder 132 = .ok (.aload_n 0, 1) := by decide +kernel
theorem dX4_readsOrder_133 : decode cX4_readsOrder 133 = .ok (.getfield 109, 3) := by decide +kernel
theorem dX4_readsOrder_136 : decode cX4_readsOrder 136 = .ok (.ifCond .eq 7, 3) := by decide +kernel
theorem dX4_readsOrder_139 : decode cX4_readsOrder 139 = .ok (.iconst 1, 1) := by decide +kernel
theorem dX4_readsOrder_140 : decode cX4_readsOrder 140 = .ok (.goto 4, 3) := by decide +kernel
theorem dX4_readsOrder_143 : decode cX4_readsOrder 143 = .ok (.iconst 0, 1) := by decide +kernel
theorem dX4_readsOrder_144 : decode cX4_readsOrder 144 = .ok (.iadd, 1) := by decide +kernel
theorem dX4_readsOrder_145 : decode cX4_readsOrder 145 = .ok (.putfield 123, 3) := by decide +kernel
theorem dX4_readsOrder_148 : decode cX4_readsOrder 148 = .ok (.return_, 1) := by decide +kernel
set_option maxRecDepth 20000 in
theorem ggX4_reads_X4_readsOrder : GoodIn wsX4_reads wsX4_readsOrder := goodIn_r _ [9, 2, 3, 1, 10, 11, 12, 13, 8, 14, 4, 15, 16, 17, 18, 19, 20, 21, 22, 23, 24, 25, 26, 27, 28, 29, 30, 31, 32, 33, 34, 35, 36, 37, 38, 39, 40, 41, 42, 43] (by decide +kernel) (by decide +kernel)
set_option maxRecDepth 20000 in
theorem gX4_reads_X4_readsOrder : GoodIn wsX4_reads (wsV RX4 129 RX4 yX4_readsOrder wsX4_readsOrder) := goodIn_app (goodIn_of _ (by decide +kernel)) ggX4_reads_X4_readsOrder
set_option maxRecDepth 20000 in
theorem ggX4_reads_X4_wants : GoodIn wsX4_reads wsX4_wants := goodIn_r _ [30, 3, 1, 11, 12, 13, 8, 14, 4, 15, 31, 32, 33, 34, 35, 36, 37, 38, 39, 40, 41, 42, 43] (by decide +kernel) (by decide +kernel)
set_option maxRecDepth 20000 in
theorem gX4_reads_X4_wants : GoodIn wsX4_reads (wsV RX4 119 RX4 yX4_wants wsX4_wants) := goodIn_app (goodIn_of _ (by decide +kernel)) ggX4_reads_X4_wants
theorem dX4_reads_0 : decode cX4_reads 0 = .ok (.aload_n 0, 1) := by decide +kernel
theorem dX4_reads_1 : decode cX4_reads 1 = .ok (.iconst 0, 1) := by decide +kernel
theorem dX4_reads_2 : decode cX4_reads 2 = .ok (.putfield 106, 3) := by decide +kernel
theorem dX4_reads_5 : decode cX4_reads 5 = .ok (.aload_n 0, 1) := by decide +kernel
theorem dX4_reads_6 : decode cX4_reads 6 = .ok (.iconst 0, 1) := by decide +kernel
theorem dX4_reads_7 : decode cX4_reads 7 = .ok (.putfield 123, 3) := by decide +kernel
theorem dX4_reads_10 : decode cX4_reads 10 = .ok (.aload_n 0, 1) := by decide +kernel
theorem dX4_reads_11 : decode cX4_reads 11 = .ok (.invokevirtual 129, 3) := by decide +kernel
theorem dX4_reads_14 : decode cX4_reads 14 = .ok (.aload_n 0, 1) := by decide +kernel
theorem dX4_reads_15 : decode cX4_reads 15 = .ok (.getfield 109, 3) := by decide +kernel
theorem dX4_reads_18 : decode cX4_reads 18 = .ok (.ifCond .eq 34, 3) := by decide +kernel
theorem dX4_reads_21 : decode cX4_reads 21 = .ok (.aload_n 0, 1) := by decide +kernel
theorem dX4_reads_22 : decode cX4_reads 22 = .ok (.getfield 106, 3) := by decide +kernel
theorem dX4_reads_25 : decode cX4_reads 25 = .ok (.aload_n 0, 1) := by decide +kernel
theorem dX4_reads_26 : decode cX4_reads 26 = .ok (.getfield 103, 3) := by decide +kernel
theorem dX4_reads_29 : decode cX4_reads 29 = .ok (.if_icmp .ge 23, 3) := by decide +kernel
theorem dX4_reads_32 : decode cX4_reads 32 = .ok (.aload_n 0, 1) := by decide +kernel
theorem dX4_reads_33 : decode cX4_reads 33 = .ok (.bipush 59, 2) := by decide +kernel
theorem dX4_reads_35 : decode cX4_reads 35 = .ok (.invokevirtual 119, 3) := by decide +kernel
theorem dX4_reads_38 : decode cX4_reads 38 = .ok (.aload_n 0, 1) := by decide +kernel
theorem dX4_reads_39 : decode cX4_reads 39 = .ok (.getfield 109, 3) := by decide +kernel
theorem dX4_reads_42 : decode cX4_reads 42 = .ok (.ifCond .eq (-28), 3) := by decide +kernel
theorem dX4_reads_45 : decode cX4_reads 45 = .ok (.aload_n 0, 1) := by decide +kernel
theorem dX4_reads_46 : decode cX4_reads 46 = .ok (.invokevirtual 129, 3) := by decide +kernel
theorem dX4_reads_49 : decode cX4_reads 49 = .ok (.goto (-35), 3) := by decide +kernel
theorem dX4_reads_52 : decode cX4_reads 52 = .ok (.aload_n 0, 1) := by decide +kernel
theorem dX4_reads_53 : decode cX4_reads 53 = .ok (.getfield 109, 3) := by decide +kernel
theorem dX4_reads_56 : decode cX4_reads 56 = .ok (.ifCond .eq 8, 3) := by decide +kernel
theorem dX4_reads_59 : decode cX4_reads 59 = .ok (.bipush (-5), 2) := by decide +kernel
theorem dX4_reads_61 : decode cX4_reads 61 = .ok (.goto 7, 3) := by decide +kernel
theorem dX4_reads_64 : decode cX4_reads 64 = .ok (.aload_n 0, 1) := by decide +kernel
theorem dX4_reads_65 : decode cX4_reads 65 = .ok (.getfield 106, 3) := by decide +kernel
theorem dX4_reads_68 : decode cX4_reads 68 = .ok (.ireturn, 1) := by decide +kernel
set_option maxRecDepth 20000 in
theorem ggX4_refuses_X4_refusesCart : GoodIn wsX4_refuses wsX4_refusesCart := goodIn_r _ [6, 7, 8, 9, 10, 5, 11, 12, 13, 14, 43, 44, 45, 46, 47, 48, 49, 50, 51, 52, 53, 54, 55] (by decide +kernel) (by decide +kernel)
set_option maxRecDepth 20000 in
theorem gX4_refuses_X4_refusesCart : GoodIn wsX4_refuses (wsV RX4 58 RX4 yX4_refusesCart wsX4_refusesCart) := goodIn_app (goodIn_of _ (by decide +kernel)) ggX4_refuses_X4_refusesCart
set_option maxRecDepth 20000 in
theorem ggX4_refuses_X4_refusesOpening : GoodIn wsX4_refuses wsX4_refusesOpening := goodIn_r _ [18, 8, 9, 10, 5, 11, 7, 12, 13, 14, 19, 20, 21, 22, 43, 44, 45, 46, 47, 48, 49, 50, 51, 52, 53, 54, 55] (by decide +kernel) (by decide +kernel)
set_option maxRecDepth 20000 in
theorem gX4_refuses_X4_refusesOpening : GoodIn wsX4_refuses (wsV RX4 87 RX4 yX4_refusesOpening wsX4_refusesOpening) := goodIn_app (goodIn_of _ (by decide +kernel)) ggX4_refuses_X4_refusesOpening
set_option maxRecDepth 20000 in
theorem ggX4_refuses_X4_refusesAltering : GoodIn wsX4_refuses wsX4_refusesAltering := goodIn_r _ [26, 8, 9, 10, 5, 11, 7, 12, 13, 14, 19, 20, 21, 22, 43, 44, 45, 46, 47, 48, 49, 50, 51, 52, 53, 54, 55] (by decide +kernel) (by decide +kernel)
set_option maxRecDepth 20000 in
theorem gX4_refuses_X4_refusesAltering : GoodIn wsX4_refuses (wsV RX4 68 RX4 yX4_refusesAltering wsX4_refusesAltering) := goodIn_app (goodIn_of _ (by decide +kernel)) ggX4_refuses_X4_refusesAltering
set_option maxRecDepth 20000 in
theorem ggX4_refuses_X4_refusesSeal : GoodIn wsX4_refuses wsX4_refusesSeal := goodIn_r _ [30, 8, 9, 10, 5, 11, 7, 12, 13, 14, 31, 32, 33, 34, 19, 20, 21, 22, 35, 36, 37, 38, 39, 40, 41, 42, 43, 44, 45, 46, 47, 48, 49, 50, 51, 52, 53, 54, 55] (by decide +kernel) (by decide +kernel)
set_option maxRecDepth 20000 in
theorem gX4_refuses_X4_refusesSeal : GoodIn wsX4_refuses (wsV RX4 74 RX4 yX4_refusesSeal wsX4_refusesSeal) := goodIn_app (goodIn_of _ (by decide +kernel)) ggX4_refuses_X4_refusesSeal
theorem dX4_refuses_0 : decode cX4_refuses 0 = .ok (.aload_n 0, 1) := by decide +kernel
theorem dX4_refuses_1 : decode cX4_refuses 1 = .ok (.getfield 25, 3) := by decide +kernel
theorem dX4_refuses_4 : decode cX4_refuses 4 = .ok (.iload_n 1, 1) := by decide +kernel
theorem dX4_refuses_5 : decode cX4_refuses 5 = .ok (.iaload, 1) := by decide +kernel
theorem dX4_refuses_6 : decode cX4_refuses 6 = .ok (.lookupswitch 97 #[(99, 34), (111, 63), (120, 76)], 34) := by decide +kernel
theorem dX4_refuses_40 : decode cX4_refuses 40 = .ok (.aload_n 0, 1) := by decide +kernel
theorem dX4_refuses_41 : decode cX4_refuses 41 = .ok (.aload_n 0, 1) := by decide +kernel
theorem dX4_refuses_42 : decode cX4_refuses 42 = .ok (.getfield 25, 3) := by decide +kernel
theorem dX4_refuses_45 : decode cX4_refuses 45 = .ok (.iload_n 1, 1) := by decide +kernel
theorem dX4_refuses_46 : decode cX4_refuses 46 = .ok (.iconst 1, 1) := by decide +kernel
theorem dX4_refuses_47 : decode cX4_refuses 47 = .ok (.iadd, 1) := by decide +kernel
theorem dX4_refuses_48 : decode cX4_refuses 48 = .ok (.iaload, 1) := by decide +kernel
theorem dX4_refuses_49 : decode cX4_refuses 49 = .ok (.aload_n 0, 1) := by decide +kernel
theorem dX4_refuses_50 : decode cX4_refuses 50 = .ok (.getfield 25, 3) := by decide +kernel
theorem dX4_refuses_53 : decode cX4_refuses 53 = .ok (.iload_n 1, 1) := by decide +kernel
theorem dX4_refuses_54 : decode cX4_refuses 54 = .ok (.iconst 2, 1) := by decide +kernel
theorem dX4_refuses_55 : decode cX4_refuses 55 = .ok (.iadd, 1) := by decide +kernel
theorem dX4_refuses_56 : decode cX4_refuses 56 = .ok (.iaload, 1) := by decide +kernel
theorem dX4_refuses_57 : decode cX4_refuses 57 = .ok (.aload_n 0, 1) := by decide +kernel
theorem dX4_refuses_58 : decode cX4_refuses 58 = .ok (.getfield 25, 3) := by decide +kernel
theorem dX4_refuses_61 : decode cX4_refuses 61 = .ok (.iload_n 1, 1) := by decide +kernel
theorem dX4_refuses_62 : decode cX4_refuses 62 = .ok (.iconst 3, 1) := by decide +kernel
theorem dX4_refuses_63 : decode cX4_refuses 63 = .ok (.iadd, 1) := by decide +kernel
theorem dX4_refuses_64 : decode cX4_refuses 64 = .ok (.iaload, 1) := by decide +kernel
theorem dX4_refuses_65 : decode cX4_refuses 65 = .ok (.invokevirtual 58, 3) := by decide +kernel
theorem dX4_refuses_68 : decode cX4_refuses 68 = .ok (.ireturn, 1) := by decide +kernel
theorem dX4_refuses_69 : decode cX4_refuses 69 = .ok (.aload_n 0, 1) := by decide +kernel
theorem dX4_refuses_70 : decode cX4_refuses 70 = .ok (.aload_n 0, 1) := by decide +kernel
theorem dX4_refuses_71 : decode cX4_refuses 71 = .ok (.getfield 25, 3) := by decide +kernel
theorem dX4_refuses_74 : decode cX4_refuses 74 = .ok (.iload_n 1, 1) := by decide +kernel
theorem dX4_refuses_75 : decode cX4_refuses 75 = .ok (.iconst 1, 1) := by decide +kernel
theorem dX4_refuses_76 : decode cX4_refuses 76 = .ok (.iadd, 1) := by decide +kernel
theorem dX4_refuses_77 : decode cX4_refuses 77 = .ok (.iaload, 1) := by decide +kernel
theorem dX4_refuses_78 : decode cX4_refuses 78 = .ok (.invokevirtual 87, 3) := by decide +kernel
theorem dX4_refuses_81 : decode cX4_refuses 81 = .ok (.ireturn, 1) := by decide +kernel
theorem dX4_refuses_82 : decode cX4_refuses 82 = .ok (.aload_n 0, 1) := by decide +kernel
theorem dX4_refuses_83 : decode cX4_refuses 83 = .ok (.aload_n 0, 1) := by decide +kernel
theorem dX4_refuses_84 : decode cX4_refuses 84 = .ok (.getfield 25, 3) := by decide +kernel
theorem dX4_refuses_87 : decode cX4_refuses 87 = .ok (.iload_n 1, 1) := by decide +kernel
theorem dX4_refuses_88 : decode cX4_refuses 88 = .ok (.iconst 1, 1) := by decide +kernel
theorem dX4_refuses_89 : decode cX4_refuses 89 = .ok (.iadd, 1) := by decide +kernel
theorem dX4_refuses_90 : decode cX4_refuses 90 = .ok (.iaload, 1) := by decide +kernel
theorem dX4_refuses_91 : decode cX4_refuses 91 = .ok (.aload_n 0, 1) := by decide +kernel
theorem dX4_refuses_92 : decode cX4_refuses 92 = .ok (.getfield 25, 3) := by decide +kernel
theorem dX4_refuses_95 : decode cX4_refuses 95 = .ok (.iload_n 1, 1) := by decide +kernel
theorem dX4_refuses_96 : decode cX4_refuses 96 = .ok (.iconst 2, 1) := by decide +kernel
theorem dX4_refuses_97 : decode cX4_refuses 97 = .ok (.iadd, 1) := by decide +kernel
theorem dX4_refuses_98 : decode cX4_refuses 98 = .ok (.iaload, 1) := by decide +kernel
theorem dX4_refuses_99 : decode cX4_refuses 99 = .ok (.invokevirtual 68, 3) := by decide +kernel
theorem dX4_refuses_102 : decode cX4_refuses 102 = .ok (.ireturn, 1) := by decide +kernel
theorem dX4_refuses_103 : decode cX4_refuses 103 = .ok (.aload_n 0, 1) := by decide +kernel
theorem dX4_refuses_104 : decode cX4_refuses 104 = .ok (.aload_n 0, 1) := by decide +kernel
theorem dX4_refuses_105 : decode cX4_refuses 105 = .ok (.getfield 25, 3) := by decide +kernel
theorem dX4_refuses_108 : decode cX4_refuses 108 = .ok (.iload_n 1, 1) := by decide +kernel
theorem dX4_refuses_109 : decode cX4_refuses 109 = .ok (.iconst 1, 1) := by decide +kernel
theorem dX4_refuses_110 : decode cX4_refuses 110 = .ok (.iadd, 1) := by decide +kernel
theorem dX4_refuses_111 : decode cX4_refuses 111 = .ok (.iaload, 1) := by decide +kernel
theorem dX4_refuses_112 : decode cX4_refuses 112 = .ok (.invokevirtual 74, 3) := by decide +kernel
theorem dX4_refuses_115 : decode cX4_refuses 115 = .ok (.ireturn, 1) := by decide +kernel
set_option maxRecDepth 20000 in
theorem ggX4_does_X4_comes : GoodIn wsX4_does wsX4_comes := goodIn_r _ [6, 7, 8, 9, 10, 5, 11, 12, 13, 14, 15, 16, 17, 18, 19, 20, 21, 22, 23, 44, 45, 46, 47, 48, 49, 50, 51, 52, 53, 54, 55, 56] (by decide +kernel) (by decide +kernel)
set_option maxRecDepth 20000 in
theorem gX4_does_X4_comes : GoodIn wsX4_does (wsV RX4 65 RX4 yX4_comes wsX4_comes) := goodIn_app (goodIn_of _ (by decide +kernel)) ggX4_does_X4_comes
set_option maxRecDepth 20000 in
theorem ggX4_does_X4_opens : GoodIn wsX4_does wsX4_opens := goodIn_r _ [27, 7, 8, 9, 10, 5, 11, 28, 29, 30, 31, 16, 17, 18, 19, 12, 13, 14, 15, 20, 21, 22, 23, 32, 33, 34, 35, 36, 37, 38, 39, 40, 41, 42, 43, 44, 45, 46, 47, 48, 49, 50, 51, 52, 53, 54, 55, 56] (by decide +kernel) (by decide +kernel)
set_option maxRecDepth 20000 in
theorem gX4_does_X4_opens : GoodIn wsX4_does (wsV RX4 90 RX4 yX4_opens wsX4_opens) := goodIn_app (goodIn_of _ (by decide +kernel)) ggX4_does_X4_opens
set_option maxRecDepth 20000 in
theorem ggX4_does_X4_lay : GoodIn wsX4_does wsX4_lay := goodIn_r _ [11, 7, 44, 45, 46, 47, 48, 49, 50, 51, 52, 53, 54, 55, 56] (by decide +kernel) (by decide +kernel)
set_option maxRecDepth 20000 in
theorem gX4_does_X4_lay : GoodIn wsX4_does (wsV RX4 54 RX4 yX4_lay wsX4_lay) := goodIn_app (goodIn_of _ (by decide +kernel)) ggX4_does_X4_lay
set_option maxRecDepth 20000 in
theorem ggX4_does_X4_rightSeal : GoodIn wsX4_does wsX4_rightSeal := goodIn_r _ [15, 16, 17, 18, 5, 19, 7, 20, 21, 22, 23, 44, 45, 46, 47, 48, 49, 50, 51, 52, 53, 54, 55, 56] (by decide +kernel) (by decide +kernel)
set_option maxRecDepth 20000 in
theorem gX4_does_X4_rightSeal : GoodIn wsX4_does (wsV RX4 46 RX4 yX4_rightSeal wsX4_rightSeal) := goodIn_app (goodIn_of _ (by decide +kernel)) ggX4_does_X4_rightSeal
theorem dX4_does_0 : decode cX4_does 0 = .ok (.aload_n 0, 1) := by decide +kernel
theorem dX4_does_1 : decode cX4_does 1 = .ok (.getfield 25, 3) := by decide +kernel
theorem dX4_does_4 : decode cX4_does 4 = .ok (.iload_n 1, 1) := by decide +kernel
theorem dX4_does_5 : decode cX4_does 5 = .ok (.iaload, 1) := by decide +kernel
theorem dX4_does_6 : decode cX4_does 6 = .ok (.lookupswitch 106 #[(99, 34), (111, 66), (120, 82)], 34) := by decide +kernel
theorem dX4_does_40 : decode cX4_does 40 = .ok (.aload_n 0, 1) := by decide +kernel
theorem dX4_does_41 : decode cX4_does 41 = .ok (.aload_n 0, 1) := by decide +kernel
theorem dX4_does_42 : decode cX4_does 42 = .ok (.getfield 25, 3) := by decide +kernel
theorem dX4_does_45 : decode cX4_does 45 = .ok (.iload_n 1, 1) := by decide +kernel
theorem dX4_does_46 : decode cX4_does 46 = .ok (.iconst 1, 1) := by decide +kernel
theorem dX4_does_47 : decode cX4_does 47 = .ok (.iadd, 1) := by decide +kernel
theorem dX4_does_48 : decode cX4_does 48 = .ok (.iaload, 1) := by decide +kernel
theorem dX4_does_49 : decode cX4_does 49 = .ok (.aload_n 0, 1) := by decide +kernel
theorem dX4_does_50 : decode cX4_does 50 = .ok (.getfield 25, 3) := by decide +kernel
theorem dX4_does_53 : decode cX4_does 53 = .ok (.iload_n 1, 1) := by decide +kernel
theorem dX4_does_54 : decode cX4_does 54 = .ok (.iconst 2, 1) := by decide +kernel
theorem dX4_does_55 : decode cX4_does 55 = .ok (.iadd, 1) := by decide +kernel
theorem dX4_does_56 : decode cX4_does 56 = .ok (.iaload, 1) := by decide +kernel
theorem dX4_does_57 : decode cX4_does 57 = .ok (.aload_n 0, 1) := by decide +kernel
theorem dX4_does_58 : decode cX4_does 58 = .ok (.getfield 25, 3) := by decide +kernel
theorem dX4_does_61 : decode cX4_does 61 = .ok (.iload_n 1, 1) := by decide +kernel
theorem dX4_does_62 : decode cX4_does 62 = .ok (.iconst 3, 1) := by decide +kernel
theorem dX4_does_63 : decode cX4_does 63 = .ok (.iadd, 1) := by decide +kernel
theorem dX4_does_64 : decode cX4_does 64 = .ok (.iaload, 1) := by decide +kernel
theorem dX4_does_65 : decode cX4_does 65 = .ok (.invokevirtual 65, 3) := by decide +kernel
theorem dX4_does_68 : decode cX4_does 68 = .ok (.pop, 1) := by decide +kernel
theorem dX4_does_69 : decode cX4_does 69 = .ok (.goto 68, 3) := by decide +kernel
theorem dX4_does_72 : decode cX4_does 72 = .ok (.aload_n 0, 1) := by decide +kernel
theorem dX4_does_73 : decode cX4_does 73 = .ok (.aload_n 0, 1) := by decide +kernel
theorem dX4_does_74 : decode cX4_does 74 = .ok (.getfield 25, 3) := by decide +kernel
theorem dX4_does_77 : decode cX4_does 77 = .ok (.iload_n 1, 1) := by decide +kernel
theorem dX4_does_78 : decode cX4_does 78 = .ok (.iconst 1, 1) := by decide +kernel
theorem dX4_does_79 : decode cX4_does 79 = .ok (.iadd, 1) := by decide +kernel
theorem dX4_does_80 : decode cX4_does 80 = .ok (.iaload, 1) := by decide +kernel
theorem dX4_does_81 : decode cX4_does 81 = .ok (.invokevirtual 90, 3) := by decide +kernel
theorem dX4_does_84 : decode cX4_does 84 = .ok (.pop, 1) := by decide +kernel
theorem dX4_does_85 : decode cX4_does 85 = .ok (.goto 52, 3) := by decide +kernel
theorem dX4_does_88 : decode cX4_does 88 = .ok (.aload_n 0, 1) := by decide +kernel
theorem dX4_does_89 : decode cX4_does 89 = .ok (.aload_n 0, 1) := by decide +kernel
theorem dX4_does_90 : decode cX4_does 90 = .ok (.getfield 25, 3) := by decide +kernel
theorem dX4_does_93 : decode cX4_does 93 = .ok (.iload_n 1, 1) := by decide +kernel
theorem dX4_does_94 : decode cX4_does 94 = .ok (.iconst 1, 1) := by decide +kernel
theorem dX4_does_95 : decode cX4_does 95 = .ok (.iadd, 1) := by decide +kernel
theorem dX4_does_96 : decode cX4_does 96 = .ok (.iaload, 1) := by decide +kernel
theorem dX4_does_97 : decode cX4_does 97 = .ok (.iconst 0, 1) := by decide +kernel
theorem dX4_does_98 : decode cX4_does 98 = .ok (.aload_n 0, 1) := by decide +kernel
theorem dX4_does_99 : decode cX4_does 99 = .ok (.getfield 25, 3) := by decide +kernel
theorem dX4_does_102 : decode cX4_does 102 = .ok (.iload_n 1, 1) := by decide +kernel
theorem dX4_does_103 : decode cX4_does 103 = .ok (.iconst 2, 1) := by decide +kernel
theorem dX4_does_104 : decode cX4_does 104 = .ok (.iadd, 1) := by decide +kernel
theorem dX4_does_105 : decode cX4_does 105 = .ok (.iaload, 1) := by decide +kernel
theorem dX4_does_106 : decode cX4_does 106 = .ok (.invokevirtual 54, 3) := by decide +kernel
theorem dX4_does_109 : decode cX4_does 109 = .ok (.goto 28, 3) := by decide +kernel
theorem dX4_does_112 : decode cX4_does 112 = .ok (.aload_n 0, 1) := by decide +kernel
theorem dX4_does_113 : decode cX4_does 113 = .ok (.aload_n 0, 1) := by decide +kernel
theorem dX4_does_114 : decode cX4_does 114 = .ok (.getfield 25, 3) := by decide +kernel
theorem dX4_does_117 : decode cX4_does 117 = .ok (.iload_n 1, 1) := by decide +kernel
theorem dX4_does_118 : decode cX4_does 118 = .ok (.iconst 1, 1) := by decide +kernel
theorem dX4_does_119 : decode cX4_does 119 = .ok (.iadd, 1) := by decide +kernel
theorem dX4_does_120 : decode cX4_does 120 = .ok (.iaload, 1) := by decide +kernel
theorem dX4_does_121 : decode cX4_does 121 = .ok (.iconst 3, 1) := by decide +kernel
theorem dX4_does_122 : decode cX4_does 122 = .ok (.aload_n 0, 1) := by decide +kernel
theorem dX4_does_123 : decode cX4_does 123 = .ok (.aload_n 0, 1) := by decide +kernel
theorem dX4_does_124 : decode cX4_does 124 = .ok (.getfield 25, 3) := by decide +kernel
theorem dX4_does_127 : decode cX4_does 127 = .ok (.iload_n 1, 1) := by decide +kernel
theorem dX4_does_128 : decode cX4_does 128 = .ok (.iconst 1, 1) := by decide +kernel
theorem dX4_does_129 : decode cX4_does 129 = .ok (.iadd, 1) := by decide +kernel
theorem dX4_does_130 : decode cX4_does 130 = .ok (.iaload, 1) := by decide +kernel
theorem dX4_does_131 : decode cX4_does 131 = .ok (.invokevirtual 46, 3) := by decide +kernel
theorem dX4_does_134 : decode cX4_does 134 = .ok (.invokevirtual 54, 3) := by decide +kernel
theorem dX4_does_137 : decode cX4_does 137 = .ok (.return_, 1) := by decide +kernel
set_option maxRecDepth 20000 in
theorem ggX4_perform_X4_reads : GoodIn wsX4_perform wsX4_reads := goodIn_r _ [10, 11, 2, 12, 13, 14, 15, 16, 9, 17, 18, 19, 20, 21, 22, 23, 24, 25, 26, 27, 28, 29, 30, 31, 32, 33, 34, 35, 36, 37, 38, 120, 121, 122, 123, 124, 125, 126, 127, 128, 129, 130, 131, 132] (by decide +kernel) (by decide +kernel)
set_option maxRecDepth 20000 in
theorem gX4_perform_X4_reads : GoodIn wsX4_perform (wsV RX4 132 RX4 yX4_reads wsX4_reads) := goodIn_app (goodIn_of _ (by decide +kernel)) ggX4_perform_X4_reads
set_option maxRecDepth 20000 in
theorem ggX4_perform_X4_putAside : GoodIn wsX4_perform wsX4_putAside := goodIn_r _ [42, 5, 43, 120, 121, 122, 123, 124, 125, 126, 127, 128, 129, 130, 131, 132] (by decide +kernel) (by decide +kernel)
set_option maxRecDepth 20000 in
theorem gX4_perform_X4_putAside : GoodIn wsX4_perform (wsV RX4 135 RX4 yX4_putAside wsX4_putAside) := goodIn_app (goodIn_of _ (by decide +kernel)) ggX4_perform_X4_putAside
set_option maxRecDepth 20000 in
theorem ggX4_perform_X4_refuses : GoodIn wsX4_perform wsX4_refuses := goodIn_r _ [47, 18, 48, 49, 50, 9, 51, 43, 52, 53, 54, 55, 32, 33, 34, 56, 57, 58, 59, 60, 61, 62, 63, 64, 65, 66, 67, 68, 69, 70, 71, 72, 73, 74, 75, 76, 77, 78, 79, 80, 81, 82, 83, 120, 121, 122, 123, 124, 125, 126, 127, 128, 129, 130, 131, 132] (by decide +kernel) (by decide +kernel)
set_option maxRecDepth 20000 in
theorem gX4_perform_X4_refuses : GoodIn wsX4_perform (wsV RX4 138 RX4 yX4_refuses wsX4_refuses) := goodIn_app (goodIn_of _ (by decide +kernel)) ggX4_perform_X4_refuses
set_option maxRecDepth 20000 in
theorem ggX4_perform_X4_does : GoodIn wsX4_perform wsX4_does := goodIn_r _ [87, 18, 88, 89, 90, 9, 91, 43, 92, 93, 94, 95, 76, 77, 78, 79, 60, 61, 62, 63, 80, 81, 82, 83, 96, 97, 98, 99, 72, 73, 74, 75, 100, 101, 102, 103, 104, 105, 106, 107, 108, 109, 110, 111, 120, 121, 122, 123, 124, 125, 126, 127, 128, 129, 130, 131, 132] (by decide +kernel) (by decide +kernel)
set_option maxRecDepth 20000 in
theorem gX4_perform_X4_does : GoodIn wsX4_perform (wsV RX4 141 RX4 yX4_does wsX4_does) := goodIn_app (goodIn_of _ (by decide +kernel)) ggX4_perform_X4_does
set_option maxRecDepth 20000 in
theorem ggX4_perform_X4_takeBack : GoodIn wsX4_perform wsX4_takeBack := goodIn_r _ [115, 43, 5, 120, 121, 122, 123, 124, 125, 126, 127, 128, 129, 130, 131, 132] (by decide +kernel) (by decide +kernel)
set_option maxRecDepth 20000 in
theorem gX4_perform_X4_takeBack : GoodIn wsX4_perform (wsV RX4 144 RX4 yX4_takeBack wsX4_takeBack) := goodIn_app (goodIn_of _ (by decide +kernel)) ggX4_perform_X4_takeBack
set_option maxRecDepth 20000 in
theorem ggX4_perform_X4_records : GoodIn wsX4_perform wsX4_records := goodIn_r _ [119, 4, 3, 43, 120, 121, 122, 123, 124, 125, 126, 127, 128, 129, 130, 131, 132] (by decide +kernel) (by decide +kernel)
set_option maxRecDepth 20000 in
theorem gX4_perform_X4_records : GoodIn wsX4_perform (wsV RX4 62 RX4 yX4_records wsX4_records) := goodIn_app (goodIn_of _ (by decide +kernel)) ggX4_perform_X4_records
theorem dX4_perform_0 : decode cX4_perform 0 = .ok (.aload_n 0, 1) := by decide +kernel
theorem dX4_perform_1 : decode cX4_perform 1 = .ok (.iconst 0, 1) := by decide +kernel
theorem dX4_perform_2 : decode cX4_perform 2 = .ok (.putfield 28, 3) := by decide +kernel
theorem dX4_perform_5 : decode cX4_perform 5 = .ok (.aload_n 0, 1) := by decide +kernel
theorem dX4_perform_6 : decode cX4_perform 6 = .ok (.invokevirtual 132, 3) := by decide +kernel
theorem dX4_perform_9 : decode cX4_perform 9 = .ok (.istore_n 1, 1) := by decide +kernel
theorem dX4_perform_10 : decode cX4_perform 10 = .ok (.iload_n 1, 1) := by decide +kernel
theorem dX4_perform_11 : decode cX4_perform 11 = .ok (.bipush (-5), 2) := by decide +kernel
theorem dX4_perform_13 : decode cX4_perform 13 = .ok (.if_icmp .eq 8, 3) := by decide +kernel
theorem dX4_perform_16 : decode cX4_perform 16 = .ok (.bipush (-100), 2) := by decide +kernel
theorem dX4_perform_18 : decode cX4_perform 18 = .ok (.iload_n 1, 1) := by decide +kernel
theorem dX4_perform_19 : decode cX4_perform 19 = .ok (.isub, 1) := by decide +kernel
theorem dX4_perform_20 : decode cX4_perform 20 = .ok (.ireturn, 1) := by decide +kernel
theorem dX4_perform_21 : decode cX4_perform 21 = .ok (.aload_n 0, 1) := by decide +kernel
theorem dX4_perform_22 : decode cX4_perform 22 = .ok (.invokevirtual 135, 3) := by decide +kernel
theorem dX4_perform_25 : decode cX4_perform 25 = .ok (.iconst 0, 1) := by decide +kernel
theorem dX4_perform_26 : decode cX4_perform 26 = .ok (.istore_n 2, 1) := by decide +kernel
theorem dX4_perform_27 : decode cX4_perform 27 = .ok (.iconst 0, 1) := by decide +kernel
theorem dX4_perform_28 : decode cX4_perform 28 = .ok (.istore_n 3, 1) := by decide +kernel
theorem dX4_perform_29 : decode cX4_perform 29 = .ok (.iload_n 3, 1) := by decide +kernel
theorem dX4_perform_30 : decode cX4_perform 30 = .ok (.aload_n 0, 1) := by decide +kernel
theorem dX4_perform_31 : decode cX4_perform 31 = .ok (.getfield 123, 3) := by decide +kernel
theorem dX4_perform_34 : decode cX4_perform 34 = .ok (.if_icmp .ge 48, 3) := by decide +kernel
theorem dX4_perform_37 : decode cX4_perform 37 = .ok (.iload_n 2, 1) := by decide +kernel
theorem dX4_perform_38 : decode cX4_perform 38 = .ok (.ifCond .ne 44, 3) := by decide +kernel
theorem dX4_perform_41 : decode cX4_perform 41 = .ok (.aload_n 0, 1) := by decide +kernel
theorem dX4_perform_42 : decode cX4_perform 42 = .ok (.iconst 4, 1) := by decide +kernel
theorem dX4_perform_43 : decode cX4_perform 43 = .ok (.iload_n 3, 1) := by decide +kernel
theorem dX4_perform_44 : decode cX4_perform 44 = .ok (.imul, 1) := by decide +kernel
theorem dX4_perform_45 : decode cX4_perform 45 = .ok (.invokevirtual 138, 3) := by decide +kernel
theorem dX4_perform_48 : decode cX4_perform 48 = .ok (.istore 4, 2) := by decide +kernel
theorem dX4_perform_50 : decode cX4_perform 50 = .ok (.iload 4, 2) := by decide +kernel
theorem dX4_perform_52 : decode cX4_perform 52 = .ok (.bipush (-5), 2) := by decide +kernel
theorem dX4_perform_54 : decode cX4_perform 54 = .ok (.if_icmp .ne 7, 3) := by decide +kernel
theorem dX4_perform_57 : decode cX4_perform 57 = .ok (.iconst 0, 1) := by decide +kernel
theorem dX4_perform_58 : decode cX4_perform 58 = .ok (.goto 5, 3) := by decide +kernel
theorem dX4_perform_61 : decode cX4_perform 61 = .ok (.iload 4, 2) := by decide +kernel
theorem dX4_perform_63 : decode cX4_perform 63 = .ok (.istore_n 2, 1) := by decide +kernel
theorem dX4_perform_64 : decode cX4_perform 64 = .ok (.iload 4, 2) := by decide +kernel
theorem dX4_perform_66 : decode cX4_perform 66 = .ok (.ifCond .ne 10, 3) := by decide +kernel
theorem dX4_perform_69 : decode cX4_perform 69 = .ok (.aload_n 0, 1) := by decide +kernel
theorem dX4_perform_70 : decode cX4_perform 70 = .ok (.iconst 4, 1) := by decide +kernel
theorem dX4_perform_71 : decode cX4_perform 71 = .ok (.iload_n 3, 1) := by decide +kernel
theorem dX4_perform_72 : decode cX4_perform 72 = .ok (.imul, 1) := by decide +kernel
theorem dX4_perform_73 : decode cX4_perform 73 = .ok (.invokevirtual 141, 3) := by decide +kernel
theorem dX4_perform_76 : decode cX4_perform 76 = .ok (.iinc 3 1, 3) := by decide +kernel
theorem dX4_perform_79 : decode cX4_perform 79 = .ok (.goto (-50), 3) := by decide +kernel
theorem dX4_perform_82 : decode cX4_perform 82 = .ok (.iload_n 2, 1) := by decide +kernel
theorem dX4_perform_83 : decode cX4_perform 83 = .ok (.ifCond .eq 9, 3) := by decide +kernel
theorem dX4_perform_86 : decode cX4_perform 86 = .ok (.aload_n 0, 1) := by decide +kernel
theorem dX4_perform_87 : decode cX4_perform 87 = .ok (.invokevirtual 144, 3) := by decide +kernel
theorem dX4_perform_90 : decode cX4_perform 90 = .ok (.iload_n 2, 1) := by decide +kernel
theorem dX4_perform_91 : decode cX4_perform 91 = .ok (.ireturn, 1) := by decide +kernel
theorem dX4_perform_92 : decode cX4_perform 92 = .ok (.aload_n 0, 1) := by decide +kernel
theorem dX4_perform_93 : decode cX4_perform 93 = .ok (.invokevirtual 62, 3) := by decide +kernel
theorem dX4_perform_96 : decode cX4_perform 96 = .ok (.iconst 0, 1) := by decide +kernel
theorem dX4_perform_97 : decode cX4_perform 97 = .ok (.istore_n 3, 1) := by decide +kernel
theorem dX4_perform_98 : decode cX4_perform 98 = .ok (.iload_n 3, 1) := by decide +kernel
theorem dX4_perform_99 : decode cX4_perform 99 = .ok (.sipush 200, 3) := by decide +kernel
theorem dX4_perform_102 : decode cX4_perform 102 = .ok (.if_icmp .ge 32, 3) := by decide +kernel
theorem dX4_perform_105 : decode cX4_perform 105 = .ok (.aload_n 0, 1) := by decide +kernel
theorem dX4_perform_106 : decode cX4_perform 106 = .ok (.getfield 16, 3) := by decide +kernel
theorem dX4_perform_109 : decode cX4_perform 109 = .ok (.sipush 200, 3) := by decide +kernel
theorem dX4_perform_112 : decode cX4_perform 112 = .ok (.aload_n 0, 1) := by decide +kernel
theorem dX4_perform_113 : decode cX4_perform 113 = .ok (.getfield 36, 3) := by decide +kernel
theorem dX4_perform_116 : decode cX4_perform 116 = .ok (.iconst 1, 1) := by decide +kernel
theorem dX4_perform_117 : decode cX4_perform 117 = .ok (.isub, 1) := by decide +kernel
theorem dX4_perform_118 : decode cX4_perform 118 = .ok (.imul, 1) := by decide +kernel
theorem dX4_perform_119 : decode cX4_perform 119 = .ok (.iload_n 3, 1) := by decide +kernel
theorem dX4_perform_120 : decode cX4_perform 120 = .ok (.iadd, 1) := by decide +kernel
theorem dX4_perform_121 : decode cX4_perform 121 = .ok (.aload_n 0, 1) := by decide +kernel
theorem dX4_perform_122 : decode cX4_perform 122 = .ok (.getfield 13, 3) := by decide +kernel
theorem dX4_perform_125 : decode cX4_perform 125 = .ok (.iload_n 3, 1) := by decide +kernel
theorem dX4_perform_126 : decode cX4_perform 126 = .ok (.iaload, 1) := by decide +kernel
theorem dX4_perform_127 : decode cX4_perform 127 = .ok (.iastore, 1) := by decide +kernel
theorem dX4_perform_128 : decode cX4_perform 128 = .ok (.iinc 3 1, 3) := by decide +kernel
theorem dX4_perform_131 : decode cX4_perform 131 = .ok (.goto (-33), 3) := by decide +kernel
theorem dX4_perform_134 : decode cX4_perform 134 = .ok (.aload_n 0, 1) := by decide +kernel
theorem dX4_perform_135 : decode cX4_perform 135 = .ok (.getfield 123, 3) := by decide +kernel
theorem dX4_perform_138 : decode cX4_perform 138 = .ok (.ireturn, 1) := by decide +kernel
theorem dX4_undo_0 : decode cX4_undo 0 = .ok (.aload_n 0, 1) := by decide +kernel
theorem dX4_undo_1 : decode cX4_undo 1 = .ok (.iconst 0, 1) := by decide +kernel
theorem dX4_undo_2 : decode cX4_undo 2 = .ok (.putfield 28, 3) := by decide +kernel
theorem dX4_undo_5 : decode cX4_undo 5 = .ok (.aload_n 0, 1) := by decide +kernel
theorem dX4_undo_6 : decode cX4_undo 6 = .ok (.getfield 36, 3) := by decide +kernel
theorem dX4_undo_9 : decode cX4_undo 9 = .ok (.ifCond .ne 6, 3) := by decide +kernel
theorem dX4_undo_12 : decode cX4_undo 12 = .ok (.bipush (-5), 2) := by decide +kernel
theorem dX4_undo_14 : decode cX4_undo 14 = .ok (.ireturn, 1) := by decide +kernel
theorem dX4_undo_15 : decode cX4_undo 15 = .ok (.aload_n 0, 1) := by decide +kernel
theorem dX4_undo_16 : decode cX4_undo 16 = .ok (.dup, 1) := by decide +kernel
theorem dX4_undo_17 : decode cX4_undo 17 = .ok (.getfield 36, 3) := by decide +kernel
theorem dX4_undo_20 : decode cX4_undo 20 = .ok (.iconst 1, 1) := by decide +kernel
theorem dX4_undo_21 : decode cX4_undo 21 = .ok (.isub, 1) := by decide +kernel
theorem dX4_undo_22 : decode cX4_undo 22 = .ok (.putfield 36, 3) := by decide +kernel
theorem dX4_undo_25 : decode cX4_undo 25 = .ok (.iconst 0, 1) := by decide +kernel
theorem dX4_undo_26 : decode cX4_undo 26 = .ok (.istore_n 1, 1) := by decide +kernel
theorem dX4_undo_27 : decode cX4_undo 27 = .ok (.iload_n 1, 1) := by decide +kernel
theorem dX4_undo_28 : decode cX4_undo 28 = .ok (.sipush 200, 3) := by decide +kernel
theorem dX4_undo_31 : decode cX4_undo 31 = .ok (.if_icmp .ge 30, 3) := by decide +kernel
theorem dX4_undo_34 : decode cX4_undo 34 = .ok (.aload_n 0, 1) := by decide +kernel
theorem dX4_undo_35 : decode cX4_undo 35 = .ok (.getfield 7, 3) := by decide +kernel
theorem dX4_undo_38 : decode cX4_undo 38 = .ok (.iload_n 1, 1) := by decide +kernel
theorem dX4_undo_39 : decode cX4_undo 39 = .ok (.aload_n 0, 1) := by decide +kernel
theorem dX4_undo_40 : decode cX4_undo 40 = .ok (.getfield 16, 3) := by decide +kernel
theorem dX4_undo_43 : decode cX4_undo 43 = .ok (.sipush 200, 3) := by decide +kernel
theorem dX4_undo_46 : decode cX4_undo 46 = .ok (.aload_n 0, 1) := by decide +kernel
theorem dX4_undo_47 : decode cX4_undo 47 = .ok (.getfield 36, 3) := by decide +kernel
theorem dX4_undo_50 : decode cX4_undo 50 = .ok (.imul, 1) := by decide +kernel
theorem dX4_undo_51 : decode cX4_undo 51 = .ok (.iload_n 1, 1) := by decide +kernel
theorem dX4_undo_52 : decode cX4_undo 52 = .ok (.iadd, 1) := by decide +kernel
theorem dX4_undo_53 : decode cX4_undo 53 = .ok (.iaload, 1) := by decide +kernel
theorem dX4_undo_54 : decode cX4_undo 54 = .ok (.iastore, 1) := by decide +kernel
theorem dX4_undo_55 : decode cX4_undo 55 = .ok (.iinc 1 1, 3) := by decide +kernel
theorem dX4_undo_58 : decode cX4_undo 58 = .ok (.goto (-31), 3) := by decide +kernel
theorem dX4_undo_61 : decode cX4_undo 61 = .ok (.aload_n 0, 1) := by decide +kernel
theorem dX4_undo_62 : decode cX4_undo 62 = .ok (.getfield 36, 3) := by decide +kernel
theorem dX4_undo_65 : decode cX4_undo 65 = .ok (.ireturn, 1) := by decide +kernel
theorem dX4_keep_0 : decode cX4_keep 0 = .ok (.aload_n 0, 1) := by decide +kernel
theorem dX4_keep_1 : decode cX4_keep 1 = .ok (.iconst 0, 1) := by decide +kernel
theorem dX4_keep_2 : decode cX4_keep 2 = .ok (.putfield 28, 3) := by decide +kernel
theorem dX4_keep_5 : decode cX4_keep 5 = .ok (.iconst 0, 1) := by decide +kernel
theorem dX4_keep_6 : decode cX4_keep 6 = .ok (.istore_n 1, 1) := by decide +kernel
theorem dX4_keep_7 : decode cX4_keep 7 = .ok (.iload_n 1, 1) := by decide +kernel
theorem dX4_keep_8 : decode cX4_keep 8 = .ok (.sipush 200, 3) := by decide +kernel
theorem dX4_keep_11 : decode cX4_keep 11 = .ok (.if_icmp .ge 21, 3) := by decide +kernel
theorem dX4_keep_14 : decode cX4_keep 14 = .ok (.aload_n 0, 1) := by decide +kernel
theorem dX4_keep_15 : decode cX4_keep 15 = .ok (.getfield 19, 3) := by decide +kernel
theorem dX4_keep_18 : decode cX4_keep 18 = .ok (.iload_n 1, 1) := by decide +kernel
theorem dX4_keep_19 : decode cX4_keep 19 = .ok (.aload_n 0, 1) := by decide +kernel
theorem dX4_keep_20 : decode cX4_keep 20 = .ok (.getfield 7, 3) := by decide +kernel
theorem dX4_keep_23 : decode cX4_keep 23 = .ok (.iload_n 1, 1) := by decide +kernel
theorem dX4_keep_24 : decode cX4_keep 24 = .ok (.iaload, 1) := by decide +kernel
theorem dX4_keep_25 : decode cX4_keep 25 = .ok (.iastore, 1) := by decide +kernel
theorem dX4_keep_26 : decode cX4_keep 26 = .ok (.iinc 1 1, 3) := by decide +kernel
theorem dX4_keep_29 : decode cX4_keep 29 = .ok (.goto (-22), 3) := by decide +kernel
theorem dX4_keep_32 : decode cX4_keep 32 = .ok (.aload_n 0, 1) := by decide +kernel
theorem dX4_keep_33 : decode cX4_keep 33 = .ok (.iconst 1, 1) := by decide +kernel
theorem dX4_keep_34 : decode cX4_keep 34 = .ok (.putfield 147, 3) := by decide +kernel
theorem dX4_keep_37 : decode cX4_keep 37 = .ok (.aload_n 0, 1) := by decide +kernel
theorem dX4_keep_38 : decode cX4_keep 38 = .ok (.getfield 7, 3) := by decide +kernel
theorem dX4_keep_41 : decode cX4_keep 41 = .ok (.iconst 5, 1) := by decide +kernel
theorem dX4_keep_42 : decode cX4_keep 42 = .ok (.iaload, 1) := by decide +kernel
theorem dX4_keep_43 : decode cX4_keep 43 = .ok (.ireturn, 1) := by decide +kernel
set_option maxRecDepth 20000 in
theorem ggX4_restore_X4_records : GoodIn wsX4_restore wsX4_records := goodIn_r _ [9, 10, 11, 3, 12, 13, 14, 15, 16, 17, 18, 19, 20, 21, 22, 23, 24] (by decide +kernel) (by decide +kernel)
set_option maxRecDepth 20000 in
theorem gX4_restore_X4_records : GoodIn wsX4_restore (wsV RX4 62 RX4 yX4_records wsX4_records) := goodIn_app (goodIn_of _ (by decide +kernel)) ggX4_restore_X4_records
theorem dX4_restore_0 : decode cX4_restore 0 = .ok (.aload_n 0, 1) := by decide +kernel
theorem dX4_restore_1 : decode cX4_restore 1 = .ok (.iconst 0, 1) := by decide +kernel
theorem dX4_restore_2 : decode cX4_restore 2 = .ok (.putfield 28, 3) := by decide +kernel
theorem dX4_restore_5 : decode cX4_restore 5 = .ok (.aload_n 0, 1) := by decide +kernel
theorem dX4_restore_6 : decode cX4_restore 6 = .ok (.getfield 147, 3) := by decide +kernel
theorem dX4_restore_9 : decode cX4_restore 9 = .ok (.ifCond .ne 6, 3) := by decide +kernel
theorem dX4_restore_12 : decode cX4_restore 12 = .ok (.bipush (-5), 2) := by decide +kernel
theorem dX4_restore_14 : decode cX4_restore 14 = .ok (.ireturn, 1) := by decide +kernel
theorem dX4_restore_15 : decode cX4_restore 15 = .ok (.aload_n 0, 1) := by decide +kernel
theorem dX4_restore_16 : decode cX4_restore 16 = .ok (.invokevirtual 62, 3) := by decide +kernel
theorem dX4_restore_19 : decode cX4_restore 19 = .ok (.iconst 0, 1) := by decide +kernel
theorem dX4_restore_20 : decode cX4_restore 20 = .ok (.istore_n 1, 1) := by decide +kernel
theorem dX4_restore_21 : decode cX4_restore 21 = .ok (.iload_n 1, 1) := by decide +kernel
theorem dX4_restore_22 : decode cX4_restore 22 = .ok (.sipush 200, 3) := by decide +kernel
theorem dX4_restore_25 : decode cX4_restore 25 = .ok (.if_icmp .ge 21, 3) := by decide +kernel
theorem dX4_restore_28 : decode cX4_restore 28 = .ok (.aload_n 0, 1) := by decide +kernel
theorem dX4_restore_29 : decode cX4_restore 29 = .ok (.getfield 7, 3) := by decide +kernel
theorem dX4_restore_32 : decode cX4_restore 32 = .ok (.iload_n 1, 1) := by decide +kernel
theorem dX4_restore_33 : decode cX4_restore 33 = .ok (.aload_n 0, 1) := by decide +kernel
theorem dX4_restore_34 : decode cX4_restore 34 = .ok (.getfield 19, 3) := by decide +kernel
theorem dX4_restore_37 : decode cX4_restore 37 = .ok (.iload_n 1, 1) := by decide +kernel
theorem dX4_restore_38 : decode cX4_restore 38 = .ok (.iaload, 1) := by decide +kernel
theorem dX4_restore_39 : decode cX4_restore 39 = .ok (.iastore, 1) := by decide +kernel
theorem dX4_restore_40 : decode cX4_restore 40 = .ok (.iinc 1 1, 3) := by decide +kernel
theorem dX4_restore_43 : decode cX4_restore 43 = .ok (.goto (-22), 3) := by decide +kernel
theorem dX4_restore_46 : decode cX4_restore 46 = .ok (.aload_n 0, 1) := by decide +kernel
theorem dX4_restore_47 : decode cX4_restore 47 = .ok (.getfield 7, 3) := by decide +kernel
theorem dX4_restore_50 : decode cX4_restore 50 = .ok (.iconst 5, 1) := by decide +kernel
theorem dX4_restore_51 : decode cX4_restore 51 = .ok (.iaload, 1) := by decide +kernel
theorem dX4_restore_52 : decode cX4_restore 52 = .ok (.ireturn, 1) := by decide +kernel
set_option maxRecDepth 20000 in
theorem ggX4_inChains_X4_isInChain : GoodIn wsX4_inChains wsX4_isInChain := goodIn_r _ [6, 7, 8, 9, 5, 10, 1, 11, 12, 13, 14, 15, 16, 17, 18, 19, 20, 21, 22, 23] (by decide +kernel) (by decide +kernel)
set_option maxRecDepth 20000 in
theorem gX4_inChains_X4_isInChain : GoodIn wsX4_inChains (wsV RX4 150 RX4 yX4_isInChain wsX4_isInChain) := goodIn_app (goodIn_of _ (by decide +kernel)) ggX4_inChains_X4_isInChain
theorem dX4_inChains_0 : decode cX4_inChains 0 = .ok (.iconst 0, 1) := by decide +kernel
theorem dX4_inChains_1 : decode cX4_inChains 1 = .ok (.istore_n 2, 1) := by decide +kernel
theorem dX4_inChains_2 : decode cX4_inChains 2 = .ok (.iconst 0, 1) := by decide +kernel
theorem dX4_inChains_3 : decode cX4_inChains 3 = .ok (.istore_n 3, 1) := by decide +kernel
theorem dX4_inChains_4 : decode cX4_inChains 4 = .ok (.iload_n 3, 1) := by decide +kernel
theorem dX4_inChains_5 : decode cX4_inChains 5 = .ok (.aload_n 0, 1) := by decide +kernel
theorem dX4_inChains_6 : decode cX4_inChains 6 = .ok (.getfield 7, 3) := by decide +kernel
theorem dX4_inChains_9 : decode cX4_inChains 9 = .ok (.iconst 5, 1) := by decide +kernel
theorem dX4_inChains_10 : decode cX4_inChains 10 = .ok (.iaload, 1) := by decide +kernel
theorem dX4_inChains_11 : decode cX4_inChains 11 = .ok (.if_icmp .ge 26, 3) := by decide +kernel
theorem dX4_inChains_14 : decode cX4_inChains 14 = .ok (.iload_n 2, 1) := by decide +kernel
theorem dX4_inChains_15 : decode cX4_inChains 15 = .ok (.aload_n 0, 1) := by decide +kernel
theorem dX4_inChains_16 : decode cX4_inChains 16 = .ok (.iload_n 1, 1) := by decide +kernel
theorem dX4_inChains_17 : decode cX4_inChains 17 = .ok (.iload_n 3, 1) := by decide +kernel
theorem dX4_inChains_18 : decode cX4_inChains 18 = .ok (.invokevirtual 150, 3) := by decide +kernel
theorem dX4_inChains_21 : decode cX4_inChains 21 = .ok (.ifCond .eq 7, 3) := by decide +kernel
theorem dX4_inChains_24 : decode cX4_inChains 24 = .ok (.iconst 1, 1) := by decide +kernel
theorem dX4_inChains_25 : decode cX4_inChains 25 = .ok (.goto 4, 3) := by decide +kernel
theorem dX4_inChains_28 : decode cX4_inChains 28 = .ok (.iconst 0, 1) := by decide +kernel
theorem dX4_inChains_29 : decode cX4_inChains 29 = .ok (.iadd, 1) := by decide +kernel
theorem dX4_inChains_30 : decode cX4_inChains 30 = .ok (.istore_n 2, 1) := by decide +kernel
theorem dX4_inChains_31 : decode cX4_inChains 31 = .ok (.iinc 3 1, 3) := by decide +kernel
theorem dX4_inChains_34 : decode cX4_inChains 34 = .ok (.goto (-30), 3) := by decide +kernel
theorem dX4_inChains_37 : decode cX4_inChains 37 = .ok (.iload_n 2, 1) := by decide +kernel
theorem dX4_inChains_38 : decode cX4_inChains 38 = .ok (.ireturn, 1) := by decide +kernel
set_option maxRecDepth 20000 in
theorem ggX4_whyNot_X4_of : GoodIn wsX4_whyNot wsX4_of := goodIn_r _ [6, 1, 11, 12, 13, 14, 15, 16, 17, 18, 19, 20, 21, 22, 23] (by decide +kernel) (by decide +kernel)
set_option maxRecDepth 20000 in
theorem gX4_whyNot_X4_of : GoodIn wsX4_whyNot (wsV RX4 39 RX4 yX4_of wsX4_of) := goodIn_app (goodIn_of _ (by decide +kernel)) ggX4_whyNot_X4_of
set_option maxRecDepth 20000 in
theorem ggX4_whyNot_X4_vouchers : GoodIn wsX4_whyNot wsX4_vouchers := goodIn_r _ [10, 1, 2, 3, 4, 5, 6, 11, 12, 13, 14, 15, 16, 17, 18, 19, 20, 21, 22, 23] (by decide +kernel) (by decide +kernel)
set_option maxRecDepth 20000 in
theorem gX4_whyNot_X4_vouchers : GoodIn wsX4_whyNot (wsV RX4 154 RX4 yX4_vouchers wsX4_vouchers) := goodIn_app (goodIn_of _ (by decide +kernel)) ggX4_whyNot_X4_vouchers
theorem dX4_whyNot_0 : decode cX4_whyNot 0 = .ok (.aload_n 0, 1) := by decide +kernel
theorem dX4_whyNot_1 : decode cX4_whyNot 1 = .ok (.iload_n 1, 1) := by decide +kernel
theorem dX4_whyNot_2 : decode cX4_whyNot 2 = .ok (.iconst 5, 1) := by decide +kernel
theorem dX4_whyNot_3 : decode cX4_whyNot 3 = .ok (.invokevirtual 39, 3) := by decide +kernel
theorem dX4_whyNot_6 : decode cX4_whyNot 6 = .ok (.iconst 1, 1) := by decide +kernel
theorem dX4_whyNot_7 : decode cX4_whyNot 7 = .ok (.if_icmp .ne 5, 3) := by decide +kernel
theorem dX4_whyNot_10 : decode cX4_whyNot 10 = .ok (.iconst 0, 1) := by decide +kernel
theorem dX4_whyNot_11 : decode cX4_whyNot 11 = .ok (.ireturn, 1) := by decide +kernel
theorem dX4_whyNot_12 : decode cX4_whyNot 12 = .ok (.aload_n 0, 1) := by decide +kernel
theorem dX4_whyNot_13 : decode cX4_whyNot 13 = .ok (.iload_n 1, 1) := by decide +kernel
theorem dX4_whyNot_14 : decode cX4_whyNot 14 = .ok (.bipush 6, 2) := by decide +kernel
theorem dX4_whyNot_16 : decode cX4_whyNot 16 = .ok (.invokevirtual 39, 3) := by decide +kernel
theorem dX4_whyNot_19 : decode cX4_whyNot 19 = .ok (.iconst 1, 1) := by decide +kernel
theorem dX4_whyNot_20 : decode cX4_whyNot 20 = .ok (.if_icmp .ne 5, 3) := by decide +kernel
theorem dX4_whyNot_23 : decode cX4_whyNot 23 = .ok (.iconst 1, 1) := by decide +kernel
theorem dX4_whyNot_24 : decode cX4_whyNot 24 = .ok (.ireturn, 1) := by decide +kernel
theorem dX4_whyNot_25 : decode cX4_whyNot 25 = .ok (.iconst 0, 1) := by decide +kernel
theorem dX4_whyNot_26 : decode cX4_whyNot 26 = .ok (.istore_n 2, 1) := by decide +kernel
theorem dX4_whyNot_27 : decode cX4_whyNot 27 = .ok (.iconst 0, 1) := by decide +kernel
theorem dX4_whyNot_28 : decode cX4_whyNot 28 = .ok (.istore_n 3, 1) := by decide +kernel
theorem dX4_whyNot_29 : decode cX4_whyNot 29 = .ok (.iload_n 3, 1) := by decide +kernel
theorem dX4_whyNot_30 : decode cX4_whyNot 30 = .ok (.aload_n 0, 1) := by decide +kernel
theorem dX4_whyNot_31 : decode cX4_whyNot 31 = .ok (.getfield 7, 3) := by decide +kernel
theorem dX4_whyNot_34 : decode cX4_whyNot 34 = .ok (.iconst 5, 1) := by decide +kernel
theorem dX4_whyNot_35 : decode cX4_whyNot 35 = .ok (.iaload, 1) := by decide +kernel
theorem dX4_whyNot_36 : decode cX4_whyNot 36 = .ok (.if_icmp .ge 37, 3) := by decide +kernel
theorem dX4_whyNot_39 : decode cX4_whyNot 39 = .ok (.iload_n 2, 1) := by decide +kernel
theorem dX4_whyNot_40 : decode cX4_whyNot 40 = .ok (.aload_n 0, 1) := by decide +kernel
theorem dX4_whyNot_41 : decode cX4_whyNot 41 = .ok (.iload_n 3, 1) := by decide +kernel
theorem dX4_whyNot_42 : decode cX4_whyNot 42 = .ok (.iconst 2, 1) := by decide +kernel
theorem dX4_whyNot_43 : decode cX4_whyNot 43 = .ok (.invokevirtual 39, 3) := by decide +kernel
theorem dX4_whyNot_46 : decode cX4_whyNot 46 = .ok (.iload_n 1, 1) := by decide +kernel
theorem dX4_whyNot_47 : decode cX4_whyNot 47 = .ok (.if_icmp .ne 17, 3) := by decide +kernel
theorem dX4_whyNot_50 : decode cX4_whyNot 50 = .ok (.aload_n 0, 1) := by decide +kernel
theorem dX4_whyNot_51 : decode cX4_whyNot 51 = .ok (.iload_n 3, 1) := by decide +kernel
theorem dX4_whyNot_52 : decode cX4_whyNot 52 = .ok (.iconst 5, 1) := by decide +kernel
theorem dX4_whyNot_53 : decode cX4_whyNot 53 = .ok (.invokevirtual 39, 3) := by decide +kernel
theorem dX4_whyNot_56 : decode cX4_whyNot 56 = .ok (.iconst 1, 1) := by decide +kernel
theorem dX4_whyNot_57 : decode cX4_whyNot 57 = .ok (.if_icmp .ne 7, 3) := by decide +kernel
theorem dX4_whyNot_60 : decode cX4_whyNot 60 = .ok (.iconst 1, 1) := by decide +kernel
theorem dX4_whyNot_61 : decode cX4_whyNot 61 = .ok (.goto 4, 3) := by decide +kernel
theorem dX4_whyNot_64 : decode cX4_whyNot 64 = .ok (.iconst 0, 1) := by decide +kernel
theorem dX4_whyNot_65 : decode cX4_whyNot 65 = .ok (.iadd, 1) := by decide +kernel
theorem dX4_whyNot_66 : decode cX4_whyNot 66 = .ok (.istore_n 2, 1) := by decide +kernel
theorem dX4_whyNot_67 : decode cX4_whyNot 67 = .ok (.iinc 3 1, 3) := by decide +kernel
theorem dX4_whyNot_70 : decode cX4_whyNot 70 = .ok (.goto (-41), 3) := by decide +kernel
theorem dX4_whyNot_73 : decode cX4_whyNot 73 = .ok (.aload_n 0, 1) := by decide +kernel
theorem dX4_whyNot_74 : decode cX4_whyNot 74 = .ok (.iload_n 1, 1) := by decide +kernel
theorem dX4_whyNot_75 : decode cX4_whyNot 75 = .ok (.invokevirtual 154, 3) := by decide +kernel
theorem dX4_whyNot_78 : decode cX4_whyNot 78 = .ok (.ifCond .ne 7, 3) := by decide +kernel
theorem dX4_whyNot_81 : decode cX4_whyNot 81 = .ok (.iconst 2, 1) := by decide +kernel
theorem dX4_whyNot_82 : decode cX4_whyNot 82 = .ok (.goto 12, 3) := by decide +kernel
theorem dX4_whyNot_85 : decode cX4_whyNot 85 = .ok (.iload_n 2, 1) := by decide +kernel
theorem dX4_whyNot_86 : decode cX4_whyNot 86 = .ok (.ifCond .ne 7, 3) := by decide +kernel
theorem dX4_whyNot_89 : decode cX4_whyNot 89 = .ok (.iconst 3, 1) := by decide +kernel
theorem dX4_whyNot_90 : decode cX4_whyNot 90 = .ok (.goto 4, 3) := by decide +kernel
theorem dX4_whyNot_93 : decode cX4_whyNot 93 = .ok (.iconst 4, 1) := by decide +kernel
theorem dX4_whyNot_94 : decode cX4_whyNot 94 = .ok (.ireturn, 1) := by decide +kernel
set_option maxRecDepth 20000 in
theorem ggX4_cart_X4_isCart : GoodIn wsX4_cart wsX4_isCart := goodIn_r _ [6, 7, 8, 9, 5, 10, 47, 48, 49, 50, 51, 52, 53, 54, 55, 56, 57, 58, 59] (by decide +kernel) (by decide +kernel)
set_option maxRecDepth 20000 in
theorem gX4_cart_X4_isCart : GoodIn wsX4_cart (wsV RX4 50 RX4 yX4_isCart wsX4_isCart) := goodIn_app (goodIn_of _ (by decide +kernel)) ggX4_cart_X4_isCart
set_option maxRecDepth 20000 in
theorem ggX4_cart_X4_of : GoodIn wsX4_cart wsX4_of := goodIn_r _ [14, 7, 47, 48, 49, 50, 51, 52, 53, 54, 55, 56, 57, 58, 59] (by decide +kernel) (by decide +kernel)
set_option maxRecDepth 20000 in
theorem gX4_cart_X4_of : GoodIn wsX4_cart (wsV RX4 39 RX4 yX4_of wsX4_of) := goodIn_app (goodIn_of _ (by decide +kernel)) ggX4_cart_X4_of
set_option maxRecDepth 20000 in
theorem ggX4_cart_X4_rightSeal : GoodIn wsX4_cart wsX4_rightSeal := goodIn_r _ [18, 11, 12, 13, 5, 14, 7, 19, 20, 21, 22, 47, 48, 49, 50, 51, 52, 53, 54, 55, 56, 57, 58, 59] (by decide +kernel) (by decide +kernel)
set_option maxRecDepth 20000 in
theorem gX4_cart_X4_rightSeal : GoodIn wsX4_cart (wsV RX4 46 RX4 yX4_rightSeal wsX4_rightSeal) := goodIn_app (goodIn_of _ (by decide +kernel)) ggX4_cart_X4_rightSeal
set_option maxRecDepth 20000 in
theorem ggX4_cart_X4_isWhole : GoodIn wsX4_cart wsX4_isWhole := goodIn_r _ [26, 11, 12, 13, 5, 14, 7, 15, 16, 17, 18, 19, 20, 21, 22, 47, 48, 49, 50, 51, 52, 53, 54, 55, 56, 57, 58, 59] (by decide +kernel) (by decide +kernel)
set_option maxRecDepth 20000 in
theorem gX4_cart_X4_isWhole : GoodIn wsX4_cart (wsV RX4 71 RX4 yX4_isWhole wsX4_isWhole) := goodIn_app (goodIn_of _ (by decide +kernel)) ggX4_cart_X4_isWhole
set_option maxRecDepth 20000 in
theorem ggX4_cart_X4_depth : GoodIn wsX4_cart wsX4_depth := goodIn_r _ [30, 11, 12, 13, 5, 14, 7, 47, 48, 49, 50, 51, 52, 53, 54, 55, 56, 57, 58, 59] (by decide +kernel) (by decide +kernel)
set_option maxRecDepth 20000 in
theorem gX4_cart_X4_depth : GoodIn wsX4_cart (wsV RX4 157 RX4 yX4_depth wsX4_depth) := goodIn_app (goodIn_of _ (by decide +kernel)) ggX4_cart_X4_depth
set_option maxRecDepth 20000 in
theorem ggX4_cart_X4_vouchers : GoodIn wsX4_cart wsX4_vouchers := goodIn_r _ [34, 7, 11, 12, 13, 5, 14, 47, 48, 49, 50, 51, 52, 53, 54, 55, 56, 57, 58, 59] (by decide +kernel) (by decide +kernel)
set_option maxRecDepth 20000 in
theorem gX4_cart_X4_vouchers : GoodIn wsX4_cart (wsV RX4 154 RX4 yX4_vouchers wsX4_vouchers) := goodIn_app (goodIn_of _ (by decide +kernel)) ggX4_cart_X4_vouchers
set_option maxRecDepth 20000 in
theorem ggX4_cart_X4_inChains : GoodIn wsX4_cart wsX4_inChains := goodIn_r _ [38, 7, 39, 40, 41, 5, 42, 11, 12, 13, 14, 47, 48, 49, 50, 51, 52, 53, 54, 55, 56, 57, 58, 59] (by decide +kernel) (by decide +kernel)
set_option maxRecDepth 20000 in
theorem gX4_cart_X4_inChains : GoodIn wsX4_cart (wsV RX4 160 RX4 yX4_inChains wsX4_inChains) := goodIn_app (goodIn_of _ (by decide +kernel)) ggX4_cart_X4_inChains
set_option maxRecDepth 20000 in
theorem ggX4_cart_X4_whyNot : GoodIn wsX4_cart wsX4_whyNot := goodIn_r _ [46, 7, 11, 12, 13, 5, 14, 31, 32, 33, 34, 47, 48, 49, 50, 51, 52, 53, 54, 55, 56, 57, 58, 59] (by decide +kernel) (by decide +kernel)
set_option maxRecDepth 20000 in
theorem gX4_cart_X4_whyNot : GoodIn wsX4_cart (wsV RX4 163 RX4 yX4_whyNot wsX4_whyNot) := goodIn_app (goodIn_of _ (by decide +kernel)) ggX4_cart_X4_whyNot
theorem dX4_cart_0 : decode cX4_cart 0 = .ok (.aload_n 0, 1) := by decide +kernel
theorem dX4_cart_1 : decode cX4_cart 1 = .ok (.iconst 0, 1) := by decide +kernel
theorem dX4_cart_2 : decode cX4_cart 2 = .ok (.putfield 28, 3) := by decide +kernel
theorem dX4_cart_5 : decode cX4_cart 5 = .ok (.aload_n 0, 1) := by decide +kernel
theorem dX4_cart_6 : decode cX4_cart 6 = .ok (.iload_n 1, 1) := by decide +kernel
theorem dX4_cart_7 : decode cX4_cart 7 = .ok (.invokevirtual 50, 3) := by decide +kernel
theorem dX4_cart_10 : decode cX4_cart 10 = .ok (.ifCond .ne 5, 3) := by decide +kernel
theorem dX4_cart_13 : decode cX4_cart 13 = .ok (.iconst (-1), 1) := by decide +kernel
theorem dX4_cart_14 : decode cX4_cart 14 = .ok (.ireturn, 1) := by decide +kernel
theorem dX4_cart_15 : decode cX4_cart 15 = .ok (.iload_n 2, 1) := by decide +kernel
theorem dX4_cart_16 : decode cX4_cart 16 = .ok (.tableswitch 191 0 12 #[68, 75, 97, 118, 125, 131, 145, 152, 159, 167, 173, 179, 185], 68) := by decide +kernel
theorem dX4_cart_84 : decode cX4_cart 84 = .ok (.aload_n 0, 1) := by decide +kernel
theorem dX4_cart_85 : decode cX4_cart 85 = .ok (.iload_n 1, 1) := by decide +kernel
theorem dX4_cart_86 : decode cX4_cart 86 = .ok (.iconst 0, 1) := by decide +kernel
theorem dX4_cart_87 : decode cX4_cart 87 = .ok (.invokevirtual 39, 3) := by decide +kernel
theorem dX4_cart_90 : decode cX4_cart 90 = .ok (.ireturn, 1) := by decide +kernel
theorem dX4_cart_91 : decode cX4_cart 91 = .ok (.aload_n 0, 1) := by decide +kernel
theorem dX4_cart_92 : decode cX4_cart 92 = .ok (.iload_n 1, 1) := by decide +kernel
theorem dX4_cart_93 : decode cX4_cart 93 = .ok (.iconst 4, 1) := by decide +kernel
theorem dX4_cart_94 : decode cX4_cart 94 = .ok (.invokevirtual 39, 3) := by decide +kernel
theorem dX4_cart_97 : decode cX4_cart 97 = .ok (.iconst 1, 1) := by decide +kernel
theorem dX4_cart_98 : decode cX4_cart 98 = .ok (.if_icmp .ne 12, 3) := by decide +kernel
theorem dX4_cart_101 : decode cX4_cart 101 = .ok (.aload_n 0, 1) := by decide +kernel
theorem dX4_cart_102 : decode cX4_cart 102 = .ok (.iload_n 1, 1) := by decide +kernel
theorem dX4_cart_103 : decode cX4_cart 103 = .ok (.iconst 1, 1) := by decide +kernel
theorem dX4_cart_104 : decode cX4_cart 104 = .ok (.invokevirtual 39, 3) := by decide +kernel
theorem dX4_cart_107 : decode cX4_cart 107 = .ok (.goto 5, 3) := by decide +kernel
theorem dX4_cart_110 : decode cX4_cart 110 = .ok (.bipush (-5), 2) := by decide +kernel
theorem dX4_cart_112 : decode cX4_cart 112 = .ok (.ireturn, 1) := by decide +kernel
theorem dX4_cart_113 : decode cX4_cart 113 = .ok (.aload_n 0, 1) := by decide +kernel
theorem dX4_cart_114 : decode cX4_cart 114 = .ok (.iload_n 1, 1) := by decide +kernel
theorem dX4_cart_115 : decode cX4_cart 115 = .ok (.iconst 2, 1) := by decide +kernel
theorem dX4_cart_116 : decode cX4_cart 116 = .ok (.invokevirtual 39, 3) := by decide +kernel
theorem dX4_cart_119 : decode cX4_cart 119 = .ok (.ifCond .ge 8, 3) := by decide +kernel
theorem dX4_cart_122 : decode cX4_cart 122 = .ok (.bipush (-5), 2) := by decide +kernel
theorem dX4_cart_124 : decode cX4_cart 124 = .ok (.goto 9, 3) := by decide +kernel
theorem dX4_cart_127 : decode cX4_cart 127 = .ok (.aload_n 0, 1) := by decide +kernel
theorem dX4_cart_128 : decode cX4_cart 128 = .ok (.iload_n 1, 1) := by decide +kernel
theorem dX4_cart_129 : decode cX4_cart 129 = .ok (.iconst 2, 1) := by decide +kernel
theorem dX4_cart_130 : decode cX4_cart 130 = .ok (.invokevirtual 39, 3) := by decide +kernel
theorem dX4_cart_133 : decode cX4_cart 133 = .ok (.ireturn, 1) := by decide +kernel
theorem dX4_cart_134 : decode cX4_cart 134 = .ok (.aload_n 0, 1) := by decide +kernel
theorem dX4_cart_135 : decode cX4_cart 135 = .ok (.iload_n 1, 1) := by decide +kernel
theorem dX4_cart_136 : decode cX4_cart 136 = .ok (.iconst 3, 1) := by decide +kernel
theorem dX4_cart_137 : decode cX4_cart 137 = .ok (.invokevirtual 39, 3) := by decide +kernel
theorem dX4_cart_140 : decode cX4_cart 140 = .ok (.ireturn, 1) := by decide +kernel
theorem dX4_cart_141 : decode cX4_cart 141 = .ok (.aload_n 0, 1) := by decide +kernel
theorem dX4_cart_142 : decode cX4_cart 142 = .ok (.iload_n 1, 1) := by decide +kernel
theorem dX4_cart_143 : decode cX4_cart 143 = .ok (.invokevirtual 46, 3) := by decide +kernel
theorem dX4_cart_146 : decode cX4_cart 146 = .ok (.ireturn, 1) := by decide +kernel
theorem dX4_cart_147 : decode cX4_cart 147 = .ok (.aload_n 0, 1) := by decide +kernel
theorem dX4_cart_148 : decode cX4_cart 148 = .ok (.iload_n 1, 1) := by decide +kernel
theorem dX4_cart_149 : decode cX4_cart 149 = .ok (.invokevirtual 71, 3) := by decide +kernel
theorem dX4_cart_152 : decode cX4_cart 152 = .ok (.ifCond .eq 7, 3) := by decide +kernel
theorem dX4_cart_155 : decode cX4_cart 155 = .ok (.iconst 1, 1) := by decide +kernel
theorem dX4_cart_156 : decode cX4_cart 156 = .ok (.goto 4, 3) := by decide +kernel
theorem dX4_cart_159 : decode cX4_cart 159 = .ok (.iconst 0, 1) := by decide +kernel
theorem dX4_cart_160 : decode cX4_cart 160 = .ok (.ireturn, 1) := by decide +kernel
theorem dX4_cart_161 : decode cX4_cart 161 = .ok (.aload_n 0, 1) := by decide +kernel
theorem dX4_cart_162 : decode cX4_cart 162 = .ok (.iload_n 1, 1) := by decide +kernel
theorem dX4_cart_163 : decode cX4_cart 163 = .ok (.iconst 4, 1) := by decide +kernel
theorem dX4_cart_164 : decode cX4_cart 164 = .ok (.invokevirtual 39, 3) := by decide +kernel
theorem dX4_cart_167 : decode cX4_cart 167 = .ok (.ireturn, 1) := by decide +kernel
theorem dX4_cart_168 : decode cX4_cart 168 = .ok (.aload_n 0, 1) := by decide +kernel
theorem dX4_cart_169 : decode cX4_cart 169 = .ok (.iload_n 1, 1) := by decide +kernel
theorem dX4_cart_170 : decode cX4_cart 170 = .ok (.iconst 5, 1) := by decide +kernel
theorem dX4_cart_171 : decode cX4_cart 171 = .ok (.invokevirtual 39, 3) := by decide +kernel
theorem dX4_cart_174 : decode cX4_cart 174 = .ok (.ireturn, 1) := by decide +kernel
theorem dX4_cart_175 : decode cX4_cart 175 = .ok (.aload_n 0, 1) := by decide +kernel
theorem dX4_cart_176 : decode cX4_cart 176 = .ok (.iload_n 1, 1) := by decide +kernel
theorem dX4_cart_177 : decode cX4_cart 177 = .ok (.bipush 7, 2) := by decide +kernel
theorem dX4_cart_179 : decode cX4_cart 179 = .ok (.invokevirtual 39, 3) := by decide +kernel
theorem dX4_cart_182 : decode cX4_cart 182 = .ok (.ireturn, 1) := by decide +kernel
theorem dX4_cart_183 : decode cX4_cart 183 = .ok (.aload_n 0, 1) := by decide +kernel
theorem dX4_cart_184 : decode cX4_cart 184 = .ok (.iload_n 1, 1) := by decide +kernel
theorem dX4_cart_185 : decode cX4_cart 185 = .ok (.invokevirtual 157, 3) := by decide +kernel
theorem dX4_cart_188 : decode cX4_cart 188 = .ok (.ireturn, 1) := by decide +kernel
theorem dX4_cart_189 : decode cX4_cart 189 = .ok (.aload_n 0, 1) := by decide +kernel
theorem dX4_cart_190 : decode cX4_cart 190 = .ok (.iload_n 1, 1) := by decide +kernel
theorem dX4_cart_191 : decode cX4_cart 191 = .ok (.invokevirtual 154, 3) := by decide +kernel
theorem dX4_cart_194 : decode cX4_cart 194 = .ok (.ireturn, 1) := by decide +kernel
theorem dX4_cart_195 : decode cX4_cart 195 = .ok (.aload_n 0, 1) := by decide +kernel
theorem dX4_cart_196 : decode cX4_cart 196 = .ok (.iload_n 1, 1) := by decide +kernel
theorem dX4_cart_197 : decode cX4_cart 197 = .ok (.invokevirtual 160, 3) := by decide +kernel
theorem dX4_cart_200 : decode cX4_cart 200 = .ok (.ireturn, 1) := by decide +kernel
theorem dX4_cart_201 : decode cX4_cart 201 = .ok (.aload_n 0, 1) := by decide +kernel
theorem dX4_cart_202 : decode cX4_cart 202 = .ok (.iload_n 1, 1) := by decide +kernel
theorem dX4_cart_203 : decode cX4_cart 203 = .ok (.invokevirtual 163, 3) := by decide +kernel
theorem dX4_cart_206 : decode cX4_cart 206 = .ok (.ireturn, 1) := by decide +kernel
theorem dX4_cart_207 : decode cX4_cart 207 = .ok (.bipush (-2), 2) := by decide +kernel
theorem dX4_cart_209 : decode cX4_cart 209 = .ok (.ireturn, 1) := by decide +kernel
set_option maxRecDepth 20000 in
theorem ggX4_chain_X4_isCart : GoodIn wsX4_chain wsX4_isCart := goodIn_r _ [6, 7, 8, 9, 5, 10, 15, 16, 17, 18, 19, 20, 21, 22, 23, 24, 25, 26, 27] (by decide +kernel) (by decide +kernel)
set_option maxRecDepth 20000 in
theorem gX4_chain_X4_isCart : GoodIn wsX4_chain (wsV RX4 50 RX4 yX4_isCart wsX4_isCart) := goodIn_app (goodIn_of _ (by decide +kernel)) ggX4_chain_X4_isCart
set_option maxRecDepth 20000 in
theorem ggX4_chain_X4_of : GoodIn wsX4_chain wsX4_of := goodIn_r _ [14, 7, 15, 16, 17, 18, 19, 20, 21, 22, 23, 24, 25, 26, 27] (by decide +kernel) (by decide +kernel)
set_option maxRecDepth 20000 in
theorem gX4_chain_X4_of : GoodIn wsX4_chain (wsV RX4 39 RX4 yX4_of wsX4_of) := goodIn_app (goodIn_of _ (by decide +kernel)) ggX4_chain_X4_of
theorem dX4_chain_0 : decode cX4_chain 0 = .ok (.aload_n 0, 1) := by decide +kernel
theorem dX4_chain_1 : decode cX4_chain 1 = .ok (.iconst 0, 1) := by decide +kernel
theorem dX4_chain_2 : decode cX4_chain 2 = .ok (.putfield 28, 3) := by decide +kernel
theorem dX4_chain_5 : decode cX4_chain 5 = .ok (.aload_n 0, 1) := by decide +kernel
theorem dX4_chain_6 : decode cX4_chain 6 = .ok (.iload_n 1, 1) := by decide +kernel
theorem dX4_chain_7 : decode cX4_chain 7 = .ok (.invokevirtual 50, 3) := by decide +kernel
theorem dX4_chain_10 : decode cX4_chain 10 = .ok (.ifCond .ne 5, 3) := by decide +kernel
theorem dX4_chain_13 : decode cX4_chain 13 = .ok (.iconst (-1), 1) := by decide +kernel
theorem dX4_chain_14 : decode cX4_chain 14 = .ok (.ireturn, 1) := by decide +kernel
theorem dX4_chain_15 : decode cX4_chain 15 = .ok (.iload_n 2, 1) := by decide +kernel
theorem dX4_chain_16 : decode cX4_chain 16 = .ok (.ifCond .ge 6, 3) := by decide +kernel
theorem dX4_chain_19 : decode cX4_chain 19 = .ok (.bipush (-2), 2) := by decide +kernel
theorem dX4_chain_21 : decode cX4_chain 21 = .ok (.ireturn, 1) := by decide +kernel
theorem dX4_chain_22 : decode cX4_chain 22 = .ok (.iload_n 1, 1) := by decide +kernel
theorem dX4_chain_23 : decode cX4_chain 23 = .ok (.istore_n 3, 1) := by decide +kernel
theorem dX4_chain_24 : decode cX4_chain 24 = .ok (.iconst 0, 1) := by decide +kernel
theorem dX4_chain_25 : decode cX4_chain 25 = .ok (.istore 4, 2) := by decide +kernel
theorem dX4_chain_27 : decode cX4_chain 27 = .ok (.iload 4, 2) := by decide +kernel
theorem dX4_chain_29 : decode cX4_chain 29 = .ok (.iload_n 2, 1) := by decide +kernel
theorem dX4_chain_30 : decode cX4_chain 30 = .ok (.if_icmp .ge 20, 3) := by decide +kernel
theorem dX4_chain_33 : decode cX4_chain 33 = .ok (.iload_n 3, 1) := by decide +kernel
theorem dX4_chain_34 : decode cX4_chain 34 = .ok (.ifCond .lt 16, 3) := by decide +kernel
theorem dX4_chain_37 : decode cX4_chain 37 = .ok (.aload_n 0, 1) := by decide +kernel
theorem dX4_chain_38 : decode cX4_chain 38 = .ok (.iload_n 3, 1) := by decide +kernel
theorem dX4_chain_39 : decode cX4_chain 39 = .ok (.iconst 2, 1) := by decide +kernel
theorem dX4_chain_40 : decode cX4_chain 40 = .ok (.invokevirtual 39, 3) := by decide +kernel
theorem dX4_chain_43 : decode cX4_chain 43 = .ok (.istore_n 3, 1) := by decide +kernel
theorem dX4_chain_44 : decode cX4_chain 44 = .ok (.iinc 4 1, 3) := by decide +kernel
theorem dX4_chain_47 : decode cX4_chain 47 = .ok (.goto (-20), 3) := by decide +kernel
theorem dX4_chain_50 : decode cX4_chain 50 = .ok (.iload_n 3, 1) := by decide +kernel
theorem dX4_chain_51 : decode cX4_chain 51 = .ok (.ifCond .ge 8, 3) := by decide +kernel
theorem dX4_chain_54 : decode cX4_chain 54 = .ok (.bipush (-5), 2) := by decide +kernel
theorem dX4_chain_56 : decode cX4_chain 56 = .ok (.goto 4, 3) := by decide +kernel
theorem dX4_chain_59 : decode cX4_chain 59 = .ok (.iload_n 3, 1) := by decide +kernel
theorem dX4_chain_60 : decode cX4_chain 60 = .ok (.ireturn, 1) := by decide +kernel
set_option maxRecDepth 20000 in
theorem ggX4_brokenIn_X4_isCart : GoodIn wsX4_brokenIn wsX4_isCart := goodIn_r _ [6, 7, 8, 9, 5, 10, 27, 28, 29, 30, 31, 32, 33, 34, 35, 36, 37, 38, 39] (by decide +kernel) (by decide +kernel)
set_option maxRecDepth 20000 in
theorem gX4_brokenIn_X4_isCart : GoodIn wsX4_brokenIn (wsV RX4 50 RX4 yX4_isCart wsX4_isCart) := goodIn_app (goodIn_of _ (by decide +kernel)) ggX4_brokenIn_X4_isCart
set_option maxRecDepth 20000 in
theorem ggX4_brokenIn_X4_isWhole : GoodIn wsX4_brokenIn wsX4_isWhole := goodIn_r _ [14, 15, 16, 17, 5, 18, 7, 19, 20, 21, 22, 23, 24, 25, 26, 27, 28, 29, 30, 31, 32, 33, 34, 35, 36, 37, 38, 39] (by decide +kernel) (by decide +kernel)
set_option maxRecDepth 20000 in
theorem gX4_brokenIn_X4_isWhole : GoodIn wsX4_brokenIn (wsV RX4 71 RX4 yX4_isWhole wsX4_isWhole) := goodIn_app (goodIn_of _ (by decide +kernel)) ggX4_brokenIn_X4_isWhole
set_option maxRecDepth 20000 in
theorem ggX4_brokenIn_X4_of : GoodIn wsX4_brokenIn wsX4_of := goodIn_r _ [18, 7, 27, 28, 29, 30, 31, 32, 33, 34, 35, 36, 37, 38, 39] (by decide +kernel) (by decide +kernel)
set_option maxRecDepth 20000 in
theorem gX4_brokenIn_X4_of : GoodIn wsX4_brokenIn (wsV RX4 39 RX4 yX4_of wsX4_of) := goodIn_app (goodIn_of _ (by decide +kernel)) ggX4_brokenIn_X4_of
theorem dX4_brokenIn_0 : decode cX4_brokenIn 0 = .ok (.aload_n 0, 1) := by decide +kernel
theorem dX4_brokenIn_1 : decode cX4_brokenIn 1 = .ok (.iconst 0, 1) := by decide +kernel
theorem dX4_brokenIn_2 : decode cX4_brokenIn 2 = .ok (.putfield 28, 3) := by decide +kernel
theorem dX4_brokenIn_5 : decode cX4_brokenIn 5 = .ok (.aload_n 0, 1) := by decide +kernel
theorem dX4_brokenIn_6 : decode cX4_brokenIn 6 = .ok (.iload_n 1, 1) := by decide +kernel
theorem dX4_brokenIn_7 : decode cX4_brokenIn 7 = .ok (.invokevirtual 50, 3) := by decide +kernel
theorem dX4_brokenIn_10 : decode cX4_brokenIn 10 = .ok (.ifCond .ne 5, 3) := by decide +kernel
theorem dX4_brokenIn_13 : decode cX4_brokenIn 13 = .ok (.iconst (-1), 1) := by decide +kernel
theorem dX4_brokenIn_14 : decode cX4_brokenIn 14 = .ok (.ireturn, 1) := by decide +kernel
theorem dX4_brokenIn_15 : decode cX4_brokenIn 15 = .ok (.iload_n 1, 1) := by decide +kernel
theorem dX4_brokenIn_16 : decode cX4_brokenIn 16 = .ok (.istore_n 2, 1) := by decide +kernel
theorem dX4_brokenIn_17 : decode cX4_brokenIn 17 = .ok (.iload_n 2, 1) := by decide +kernel
theorem dX4_brokenIn_18 : decode cX4_brokenIn 18 = .ok (.ifCond .lt 21, 3) := by decide +kernel
theorem dX4_brokenIn_21 : decode cX4_brokenIn 21 = .ok (.aload_n 0, 1) := by decide +kernel
theorem dX4_brokenIn_22 : decode cX4_brokenIn 22 = .ok (.iload_n 2, 1) := by decide +kernel
theorem dX4_brokenIn_23 : decode cX4_brokenIn 23 = .ok (.invokevirtual 71, 3) := by decide +kernel
theorem dX4_brokenIn_26 : decode cX4_brokenIn 26 = .ok (.ifCond .eq 13, 3) := by decide +kernel
theorem dX4_brokenIn_29 : decode cX4_brokenIn 29 = .ok (.aload_n 0, 1) := by decide +kernel
theorem dX4_brokenIn_30 : decode cX4_brokenIn 30 = .ok (.iload_n 2, 1) := by decide +kernel
theorem dX4_brokenIn_31 : decode cX4_brokenIn 31 = .ok (.iconst 2, 1) := by decide +kernel
theorem dX4_brokenIn_32 : decode cX4_brokenIn 32 = .ok (.invokevirtual 39, 3) := by decide +kernel
theorem dX4_brokenIn_35 : decode cX4_brokenIn 35 = .ok (.istore_n 2, 1) := by decide +kernel
theorem dX4_brokenIn_36 : decode cX4_brokenIn 36 = .ok (.goto (-19), 3) := by decide +kernel
theorem dX4_brokenIn_39 : decode cX4_brokenIn 39 = .ok (.iload_n 2, 1) := by decide +kernel
theorem dX4_brokenIn_40 : decode cX4_brokenIn 40 = .ok (.ifCond .ge 8, 3) := by decide +kernel
theorem dX4_brokenIn_43 : decode cX4_brokenIn 43 = .ok (.bipush (-5), 2) := by decide +kernel
theorem dX4_brokenIn_45 : decode cX4_brokenIn 45 = .ok (.goto 4, 3) := by decide +kernel
theorem dX4_brokenIn_48 : decode cX4_brokenIn 48 = .ok (.iload_n 2, 1) := by decide +kernel
theorem dX4_brokenIn_49 : decode cX4_brokenIn 49 = .ok (.ireturn, 1) := by decide +kernel
set_option maxRecDepth 20000 in
theorem ggX4_sumOf_X4_of : GoodIn wsX4_sumOf wsX4_of := goodIn_r _ [6, 1, 7, 8, 9, 10, 11, 12, 13, 14, 15, 16, 17, 18, 19] (by decide +kernel) (by decide +kernel)
set_option maxRecDepth 20000 in
theorem gX4_sumOf_X4_of : GoodIn wsX4_sumOf (wsV RX4 39 RX4 yX4_of wsX4_of) := goodIn_app (goodIn_of _ (by decide +kernel)) ggX4_sumOf_X4_of
theorem dX4_sumOf_0 : decode cX4_sumOf 0 = .ok (.iconst 0, 1) := by decide +kernel
theorem dX4_sumOf_1 : decode cX4_sumOf 1 = .ok (.istore_n 2, 1) := by decide +kernel
theorem dX4_sumOf_2 : decode cX4_sumOf 2 = .ok (.iconst 0, 1) := by decide +kernel
theorem dX4_sumOf_3 : decode cX4_sumOf 3 = .ok (.istore_n 3, 1) := by decide +kernel
theorem dX4_sumOf_4 : decode cX4_sumOf 4 = .ok (.iload_n 3, 1) := by decide +kernel
theorem dX4_sumOf_5 : decode cX4_sumOf 5 = .ok (.aload_n 0, 1) := by decide +kernel
theorem dX4_sumOf_6 : decode cX4_sumOf 6 = .ok (.getfield 7, 3) := by decide +kernel
theorem dX4_sumOf_9 : decode cX4_sumOf 9 = .ok (.iconst 5, 1) := by decide +kernel
theorem dX4_sumOf_10 : decode cX4_sumOf 10 = .ok (.iaload, 1) := by decide +kernel
theorem dX4_sumOf_11 : decode cX4_sumOf 11 = .ok (.if_icmp .ge 18, 3) := by decide +kernel
theorem dX4_sumOf_14 : decode cX4_sumOf 14 = .ok (.iload_n 2, 1) := by decide +kernel
theorem dX4_sumOf_15 : decode cX4_sumOf 15 = .ok (.aload_n 0, 1) := by decide +kernel
theorem dX4_sumOf_16 : decode cX4_sumOf 16 = .ok (.iload_n 3, 1) := by decide +kernel
theorem dX4_sumOf_17 : decode cX4_sumOf 17 = .ok (.iload_n 1, 1) := by decide +kernel
theorem dX4_sumOf_18 : decode cX4_sumOf 18 = .ok (.invokevirtual 39, 3) := by decide +kernel
theorem dX4_sumOf_21 : decode cX4_sumOf 21 = .ok (.iadd, 1) := by decide +kernel
theorem dX4_sumOf_22 : decode cX4_sumOf 22 = .ok (.istore_n 2, 1) := by decide +kernel
theorem dX4_sumOf_23 : decode cX4_sumOf 23 = .ok (.iinc 3 1, 3) := by decide +kernel
theorem dX4_sumOf_26 : decode cX4_sumOf 26 = .ok (.goto (-22), 3) := by decide +kernel
theorem dX4_sumOf_29 : decode cX4_sumOf 29 = .ok (.iload_n 2, 1) := by decide +kernel
theorem dX4_sumOf_30 : decode cX4_sumOf 30 = .ok (.ireturn, 1) := by decide +kernel
set_option maxRecDepth 20000 in
theorem ggX4_brokenMany_X4_isWhole : GoodIn wsX4_brokenMany wsX4_isWhole := goodIn_r _ [6, 7, 8, 9, 5, 10, 1, 11, 12, 13, 14, 15, 16, 17, 18, 19, 20, 21, 22, 23, 24, 25, 26, 27, 28, 29, 30, 31] (by decide +kernel) (by decide +kernel)
set_option maxRecDepth 20000 in
theorem gX4_brokenMany_X4_isWhole : GoodIn wsX4_brokenMany (wsV RX4 71 RX4 yX4_isWhole wsX4_isWhole) := goodIn_app (goodIn_of _ (by decide +kernel)) ggX4_brokenMany_X4_isWhole
theorem dX4_brokenMany_0 : decode cX4_brokenMany 0 = .ok (.iconst 0, 1) := by decide +kernel
theorem dX4_brokenMany_1 : decode cX4_brokenMany 1 = .ok (.istore_n 1, 1) := by decide +kernel
theorem dX4_brokenMany_2 : decode cX4_brokenMany 2 = .ok (.iconst 0, 1) := by decide +kernel
theorem dX4_brokenMany_3 : decode cX4_brokenMany 3 = .ok (.istore_n 2, 1) := by decide +kernel
theorem dX4_brokenMany_4 : decode cX4_brokenMany 4 = .ok (.iload_n 2, 1) := by decide +kernel
theorem dX4_brokenMany_5 : decode cX4_brokenMany 5 = .ok (.aload_n 0, 1) := by decide +kernel
theorem dX4_brokenMany_6 : decode cX4_brokenMany 6 = .ok (.getfield 7, 3) := by decide +kernel
theorem dX4_brokenMany_9 : decode cX4_brokenMany 9 = .ok (.iconst 5, 1) := by decide +kernel
theorem dX4_brokenMany_10 : decode cX4_brokenMany 10 = .ok (.iaload, 1) := by decide +kernel
theorem dX4_brokenMany_11 : decode cX4_brokenMany 11 = .ok (.if_icmp .ge 25, 3) := by decide +kernel
theorem dX4_brokenMany_14 : decode cX4_brokenMany 14 = .ok (.iload_n 1, 1) := by decide +kernel
theorem dX4_brokenMany_15 : decode cX4_brokenMany 15 = .ok (.aload_n 0, 1) := by decide +kernel
theorem dX4_brokenMany_16 : decode cX4_brokenMany 16 = .ok (.iload_n 2, 1) := by decide +kernel
theorem dX4_brokenMany_17 : decode cX4_brokenMany 17 = .ok (.invokevirtual 71, 3) := by decide +kernel
theorem dX4_brokenMany_20 : decode cX4_brokenMany 20 = .ok (.ifCond .eq 7, 3) := by decide +kernel
theorem dX4_brokenMany_23 : decode cX4_brokenMany 23 = .ok (.iconst 0, 1) := by decide +kernel
theorem dX4_brokenMany_24 : decode cX4_brokenMany 24 = .ok (.goto 4, 3) := by decide +kernel
theorem dX4_brokenMany_27 : decode cX4_brokenMany 27 = .ok (.iconst 1, 1) := by decide +kernel
theorem dX4_brokenMany_28 : decode cX4_brokenMany 28 = .ok (.iadd, 1) := by decide +kernel
theorem dX4_brokenMany_29 : decode cX4_brokenMany 29 = .ok (.istore_n 1, 1) := by decide +kernel
theorem dX4_brokenMany_30 : decode cX4_brokenMany 30 = .ok (.iinc 2 1, 3) := by decide +kernel
theorem dX4_brokenMany_33 : decode cX4_brokenMany 33 = .ok (.goto (-29), 3) := by decide +kernel
theorem dX4_brokenMany_36 : decode cX4_brokenMany 36 = .ok (.iload_n 1, 1) := by decide +kernel
theorem dX4_brokenMany_37 : decode cX4_brokenMany 37 = .ok (.ireturn, 1) := by decide +kernel
set_option maxRecDepth 20000 in
theorem ggX4_deepest_X4_depth : GoodIn wsX4_deepest wsX4_depth := goodIn_r _ [6, 7, 8, 9, 5, 10, 1, 11, 12, 13, 14, 15, 16, 17, 18, 19, 20, 21, 22, 23] (by decide +kernel) (by decide +kernel)
set_option maxRecDepth 20000 in
theorem gX4_deepest_X4_depth : GoodIn wsX4_deepest (wsV RX4 157 RX4 yX4_depth wsX4_depth) := goodIn_app (goodIn_of _ (by decide +kernel)) ggX4_deepest_X4_depth
theorem dX4_deepest_0 : decode cX4_deepest 0 = .ok (.iconst 0, 1) := by decide +kernel
theorem dX4_deepest_1 : decode cX4_deepest 1 = .ok (.istore_n 1, 1) := by decide +kernel
theorem dX4_deepest_2 : decode cX4_deepest 2 = .ok (.iconst 0, 1) := by decide +kernel
theorem dX4_deepest_3 : decode cX4_deepest 3 = .ok (.istore_n 2, 1) := by decide +kernel
theorem dX4_deepest_4 : decode cX4_deepest 4 = .ok (.iload_n 2, 1) := by decide +kernel
theorem dX4_deepest_5 : decode cX4_deepest 5 = .ok (.aload_n 0, 1) := by decide +kernel
theorem dX4_deepest_6 : decode cX4_deepest 6 = .ok (.getfield 7, 3) := by decide +kernel
theorem dX4_deepest_9 : decode cX4_deepest 9 = .ok (.iconst 5, 1) := by decide +kernel
theorem dX4_deepest_10 : decode cX4_deepest 10 = .ok (.iaload, 1) := by decide +kernel
theorem dX4_deepest_11 : decode cX4_deepest 11 = .ok (.if_icmp .ge 28, 3) := by decide +kernel
theorem dX4_deepest_14 : decode cX4_deepest 14 = .ok (.aload_n 0, 1) := by decide +kernel
theorem dX4_deepest_15 : decode cX4_deepest 15 = .ok (.iload_n 2, 1) := by decide +kernel
theorem dX4_deepest_16 : decode cX4_deepest 16 = .ok (.invokevirtual 157, 3) := by decide +kernel
theorem dX4_deepest_19 : decode cX4_deepest 19 = .ok (.iload_n 1, 1) := by decide +kernel
theorem dX4_deepest_20 : decode cX4_deepest 20 = .ok (.if_icmp .le 11, 3) := by decide +kernel
theorem dX4_deepest_23 : decode cX4_deepest 23 = .ok (.aload_n 0, 1) := by decide +kernel
theorem dX4_deepest_24 : decode cX4_deepest 24 = .ok (.iload_n 2, 1) := by decide +kernel
theorem dX4_deepest_25 : decode cX4_deepest 25 = .ok (.invokevirtual 157, 3) := by decide +kernel
theorem dX4_deepest_28 : decode cX4_deepest 28 = .ok (.goto 4, 3) := by decide +kernel
theorem dX4_deepest_31 : decode cX4_deepest 31 = .ok (.iload_n 1, 1) := by decide +kernel
theorem dX4_deepest_32 : decode cX4_deepest 32 = .ok (.istore_n 1, 1) := by decide +kernel
theorem dX4_deepest_33 : decode cX4_deepest 33 = .ok (.iinc 2 1, 3) := by decide +kernel
theorem dX4_deepest_36 : decode cX4_deepest 36 = .ok (.goto (-32), 3) := by decide +kernel
theorem dX4_deepest_39 : decode cX4_deepest 39 = .ok (.iload_n 1, 1) := by decide +kernel
theorem dX4_deepest_40 : decode cX4_deepest 40 = .ok (.ireturn, 1) := by decide +kernel
set_option maxRecDepth 20000 in
theorem ggX4_ends_X4_vouchers : GoodIn wsX4_ends wsX4_vouchers := goodIn_r _ [6, 1, 7, 8, 9, 5, 10, 11, 12, 13, 14, 15, 16, 17, 18, 19, 20, 21, 22, 23] (by decide +kernel) (by decide +kernel)
set_option maxRecDepth 20000 in
theorem gX4_ends_X4_vouchers : GoodIn wsX4_ends (wsV RX4 154 RX4 yX4_vouchers wsX4_vouchers) := goodIn_app (goodIn_of _ (by decide +kernel)) ggX4_ends_X4_vouchers
theorem dX4_ends_0 : decode cX4_ends 0 = .ok (.iconst 0, 1) := by decide +kernel
theorem dX4_ends_1 : decode cX4_ends 1 = .ok (.istore_n 1, 1) := by decide +kernel
theorem dX4_ends_2 : decode cX4_ends 2 = .ok (.iconst 0, 1) := by decide +kernel
theorem dX4_ends_3 : decode cX4_ends 3 = .ok (.istore_n 2, 1) := by decide +kernel
theorem dX4_ends_4 : decode cX4_ends 4 = .ok (.iload_n 2, 1) := by decide +kernel
theorem dX4_ends_5 : decode cX4_ends 5 = .ok (.aload_n 0, 1) := by decide +kernel
theorem dX4_ends_6 : decode cX4_ends 6 = .ok (.getfield 7, 3) := by decide +kernel
theorem dX4_ends_9 : decode cX4_ends 9 = .ok (.iconst 5, 1) := by decide +kernel
theorem dX4_ends_10 : decode cX4_ends 10 = .ok (.iaload, 1) := by decide +kernel
theorem dX4_ends_11 : decode cX4_ends 11 = .ok (.if_icmp .ge 25, 3) := by decide +kernel
theorem dX4_ends_14 : decode cX4_ends 14 = .ok (.iload_n 1, 1) := by decide +kernel
theorem dX4_ends_15 : decode cX4_ends 15 = .ok (.aload_n 0, 1) := by decide +kernel
theorem dX4_ends_16 : decode cX4_ends 16 = .ok (.iload_n 2, 1) := by decide +kernel
theorem dX4_ends_17 : decode cX4_ends 17 = .ok (.invokevirtual 154, 3) := by decide +kernel
theorem dX4_ends_20 : decode cX4_ends 20 = .ok (.ifCond .ne 7, 3) := by decide +kernel
theorem dX4_ends_23 : decode cX4_ends 23 = .ok (.iconst 1, 1) := by decide +kernel
theorem dX4_ends_24 : decode cX4_ends 24 = .ok (.goto 4, 3) := by decide +kernel
theorem dX4_ends_27 : decode cX4_ends 27 = .ok (.iconst 0, 1) := by decide +kernel
theorem dX4_ends_28 : decode cX4_ends 28 = .ok (.iadd, 1) := by decide +kernel
theorem dX4_ends_29 : decode cX4_ends 29 = .ok (.istore_n 1, 1) := by decide +kernel
theorem dX4_ends_30 : decode cX4_ends 30 = .ok (.iinc 2 1, 3) := by decide +kernel
theorem dX4_ends_33 : decode cX4_ends 33 = .ok (.goto (-29), 3) := by decide +kernel
theorem dX4_ends_36 : decode cX4_ends 36 = .ok (.iload_n 1, 1) := by decide +kernel
theorem dX4_ends_37 : decode cX4_ends 37 = .ok (.ireturn, 1) := by decide +kernel
set_option maxRecDepth 20000 in
theorem ggX4_found_X4_of : GoodIn wsX4_found wsX4_of := goodIn_r _ [6, 1, 7, 8, 9, 10, 11, 12, 13, 14, 15, 16, 17, 18, 19] (by decide +kernel) (by decide +kernel)
set_option maxRecDepth 20000 in
theorem gX4_found_X4_of : GoodIn wsX4_found (wsV RX4 39 RX4 yX4_of wsX4_of) := goodIn_app (goodIn_of _ (by decide +kernel)) ggX4_found_X4_of
theorem dX4_found_0 : decode cX4_found 0 = .ok (.iconst 0, 1) := by decide +kernel
theorem dX4_found_1 : decode cX4_found 1 = .ok (.istore_n 1, 1) := by decide +kernel
theorem dX4_found_2 : decode cX4_found 2 = .ok (.iconst 0, 1) := by decide +kernel
theorem dX4_found_3 : decode cX4_found 3 = .ok (.istore_n 2, 1) := by decide +kernel
theorem dX4_found_4 : decode cX4_found 4 = .ok (.iload_n 2, 1) := by decide +kernel
theorem dX4_found_5 : decode cX4_found 5 = .ok (.aload_n 0, 1) := by decide +kernel
theorem dX4_found_6 : decode cX4_found 6 = .ok (.getfield 7, 3) := by decide +kernel
theorem dX4_found_9 : decode cX4_found 9 = .ok (.iconst 5, 1) := by decide +kernel
theorem dX4_found_10 : decode cX4_found 10 = .ok (.iaload, 1) := by decide +kernel
theorem dX4_found_11 : decode cX4_found 11 = .ok (.if_icmp .ge 32, 3) := by decide +kernel
theorem dX4_found_14 : decode cX4_found 14 = .ok (.iload_n 1, 1) := by decide +kernel
theorem dX4_found_15 : decode cX4_found 15 = .ok (.aload_n 0, 1) := by decide +kernel
theorem dX4_found_16 : decode cX4_found 16 = .ok (.iload_n 2, 1) := by decide +kernel
theorem dX4_found_17 : decode cX4_found 17 = .ok (.iconst 4, 1) := by decide +kernel
theorem dX4_found_18 : decode cX4_found 18 = .ok (.invokevirtual 39, 3) := by decide +kernel
theorem dX4_found_21 : decode cX4_found 21 = .ok (.iconst 1, 1) := by decide +kernel
theorem dX4_found_22 : decode cX4_found 22 = .ok (.if_icmp .ne 12, 3) := by decide +kernel
theorem dX4_found_25 : decode cX4_found 25 = .ok (.aload_n 0, 1) := by decide +kernel
theorem dX4_found_26 : decode cX4_found 26 = .ok (.iload_n 2, 1) := by decide +kernel
theorem dX4_found_27 : decode cX4_found 27 = .ok (.iconst 1, 1) := by decide +kernel
theorem dX4_found_28 : decode cX4_found 28 = .ok (.invokevirtual 39, 3) := by decide +kernel
theorem dX4_found_31 : decode cX4_found 31 = .ok (.goto 4, 3) := by decide +kernel
theorem dX4_found_34 : decode cX4_found 34 = .ok (.iconst 0, 1) := by decide +kernel
theorem dX4_found_35 : decode cX4_found 35 = .ok (.iadd, 1) := by decide +kernel
theorem dX4_found_36 : decode cX4_found 36 = .ok (.istore_n 1, 1) := by decide +kernel
theorem dX4_found_37 : decode cX4_found 37 = .ok (.iinc 2 1, 3) := by decide +kernel
theorem dX4_found_40 : decode cX4_found 40 = .ok (.goto (-36), 3) := by decide +kernel
theorem dX4_found_43 : decode cX4_found 43 = .ok (.iload_n 1, 1) := by decide +kernel
theorem dX4_found_44 : decode cX4_found 44 = .ok (.ireturn, 1) := by decide +kernel
set_option maxRecDepth 20000 in
theorem ggX4_tellsTotal_X4_sumOf : GoodIn wsX4_tellsTotal wsX4_sumOf := goodIn_r _ [8, 1, 9, 10, 11, 7, 12, 49, 50, 51, 52, 53, 54, 55, 56, 57, 58, 59, 60, 61] (by decide +kernel) (by decide +kernel)
set_option maxRecDepth 20000 in
theorem gX4_tellsTotal_X4_sumOf : GoodIn wsX4_tellsTotal (wsV RX4 166 RX4 yX4_sumOf wsX4_sumOf) := goodIn_app (goodIn_of _ (by decide +kernel)) ggX4_tellsTotal_X4_sumOf
set_option maxRecDepth 20000 in
theorem ggX4_tellsTotal_X4_brokenMany : GoodIn wsX4_tellsTotal wsX4_brokenMany := goodIn_r _ [16, 1, 17, 18, 19, 7, 20, 9, 10, 11, 12, 21, 22, 23, 24, 25, 26, 27, 28, 49, 50, 51, 52, 53, 54, 55, 56, 57, 58, 59, 60, 61] (by decide +kernel) (by decide +kernel)
set_option maxRecDepth 20000 in
theorem gX4_tellsTotal_X4_brokenMany : GoodIn wsX4_tellsTotal (wsV RX4 169 RX4 yX4_brokenMany wsX4_brokenMany) := goodIn_app (goodIn_of _ (by decide +kernel)) ggX4_tellsTotal_X4_brokenMany
set_option maxRecDepth 20000 in
theorem ggX4_tellsTotal_X4_deepest : GoodIn wsX4_tellsTotal wsX4_deepest := goodIn_r _ [32, 1, 33, 34, 35, 7, 36, 9, 10, 11, 12, 49, 50, 51, 52, 53, 54, 55, 56, 57, 58, 59, 60, 61] (by decide +kernel) (by decide +kernel)
set_option maxRecDepth 20000 in
theorem gX4_tellsTotal_X4_deepest : GoodIn wsX4_tellsTotal (wsV RX4 172 RX4 yX4_deepest wsX4_deepest) := goodIn_app (goodIn_of _ (by decide +kernel)) ggX4_tellsTotal_X4_deepest
set_option maxRecDepth 20000 in
theorem ggX4_tellsTotal_X4_ends : GoodIn wsX4_tellsTotal wsX4_ends := goodIn_r _ [40, 1, 41, 42, 43, 7, 44, 9, 10, 11, 12, 49, 50, 51, 52, 53, 54, 55, 56, 57, 58, 59, 60, 61] (by decide +kernel) (by decide +kernel)
set_option maxRecDepth 20000 in
theorem gX4_tellsTotal_X4_ends : GoodIn wsX4_tellsTotal (wsV RX4 175 RX4 yX4_ends wsX4_ends) := goodIn_app (goodIn_of _ (by decide +kernel)) ggX4_tellsTotal_X4_ends
set_option maxRecDepth 20000 in
theorem ggX4_tellsTotal_X4_found : GoodIn wsX4_tellsTotal wsX4_found := goodIn_r _ [48, 1, 9, 10, 11, 7, 12, 49, 50, 51, 52, 53, 54, 55, 56, 57, 58, 59, 60, 61] (by decide +kernel) (by decide +kernel)
set_option maxRecDepth 20000 in
theorem gX4_tellsTotal_X4_found : GoodIn wsX4_tellsTotal (wsV RX4 178 RX4 yX4_found wsX4_found) := goodIn_app (goodIn_of _ (by decide +kernel)) ggX4_tellsTotal_X4_found
theorem dX4_tellsTotal_0 : decode cX4_tellsTotal 0 = .ok (.iload_n 1, 1) := by decide +kernel
theorem dX4_tellsTotal_1 : decode cX4_tellsTotal 1 = .ok (.tableswitch 123 6 16 #[59, 65, 71, 78, 83, 91, 98, 103, 108, 113, 118], 59) := by decide +kernel
theorem dX4_tellsTotal_60 : decode cX4_tellsTotal 60 = .ok (.aload_n 0, 1) := by decide +kernel
theorem dX4_tellsTotal_61 : decode cX4_tellsTotal 61 = .ok (.iconst 4, 1) := by decide +kernel
theorem dX4_tellsTotal_62 : decode cX4_tellsTotal 62 = .ok (.invokevirtual 166, 3) := by decide +kernel
theorem dX4_tellsTotal_65 : decode cX4_tellsTotal 65 = .ok (.ireturn, 1) := by decide +kernel
theorem dX4_tellsTotal_66 : decode cX4_tellsTotal 66 = .ok (.aload_n 0, 1) := by decide +kernel
theorem dX4_tellsTotal_67 : decode cX4_tellsTotal 67 = .ok (.iconst 5, 1) := by decide +kernel
theorem dX4_tellsTotal_68 : decode cX4_tellsTotal 68 = .ok (.invokevirtual 166, 3) := by decide +kernel
theorem dX4_tellsTotal_71 : decode cX4_tellsTotal 71 = .ok (.ireturn, 1) := by decide +kernel
theorem dX4_tellsTotal_72 : decode cX4_tellsTotal 72 = .ok (.aload_n 0, 1) := by decide +kernel
theorem dX4_tellsTotal_73 : decode cX4_tellsTotal 73 = .ok (.bipush 6, 2) := by decide +kernel
theorem dX4_tellsTotal_75 : decode cX4_tellsTotal 75 = .ok (.invokevirtual 166, 3) := by decide +kernel
theorem dX4_tellsTotal_78 : decode cX4_tellsTotal 78 = .ok (.ireturn, 1) := by decide +kernel
theorem dX4_tellsTotal_79 : decode cX4_tellsTotal 79 = .ok (.aload_n 0, 1) := by decide +kernel
theorem dX4_tellsTotal_80 : decode cX4_tellsTotal 80 = .ok (.invokevirtual 169, 3) := by decide +kernel
theorem dX4_tellsTotal_83 : decode cX4_tellsTotal 83 = .ok (.ireturn, 1) := by decide +kernel
theorem dX4_tellsTotal_84 : decode cX4_tellsTotal 84 = .ok (.aload_n 0, 1) := by decide +kernel
theorem dX4_tellsTotal_85 : decode cX4_tellsTotal 85 = .ok (.getfield 7, 3) := by decide +kernel
theorem dX4_tellsTotal_88 : decode cX4_tellsTotal 88 = .ok (.bipush 6, 2) := by decide +kernel
theorem dX4_tellsTotal_90 : decode cX4_tellsTotal 90 = .ok (.iaload, 1) := by decide +kernel
theorem dX4_tellsTotal_91 : decode cX4_tellsTotal 91 = .ok (.ireturn, 1) := by decide +kernel
theorem dX4_tellsTotal_92 : decode cX4_tellsTotal 92 = .ok (.aload_n 0, 1) := by decide +kernel
theorem dX4_tellsTotal_93 : decode cX4_tellsTotal 93 = .ok (.bipush 7, 2) := by decide +kernel
theorem dX4_tellsTotal_95 : decode cX4_tellsTotal 95 = .ok (.invokevirtual 166, 3) := by decide +kernel
theorem dX4_tellsTotal_98 : decode cX4_tellsTotal 98 = .ok (.ireturn, 1) := by decide +kernel
theorem dX4_tellsTotal_99 : decode cX4_tellsTotal 99 = .ok (.aload_n 0, 1) := by decide +kernel
theorem dX4_tellsTotal_100 : decode cX4_tellsTotal 100 = .ok (.invokevirtual 172, 3) := by decide +kernel
theorem dX4_tellsTotal_103 : decode cX4_tellsTotal 103 = .ok (.ireturn, 1) := by decide +kernel
theorem dX4_tellsTotal_104 : decode cX4_tellsTotal 104 = .ok (.aload_n 0, 1) := by decide +kernel
theorem dX4_tellsTotal_105 : decode cX4_tellsTotal 105 = .ok (.invokevirtual 175, 3) := by decide +kernel
theorem dX4_tellsTotal_108 : decode cX4_tellsTotal 108 = .ok (.ireturn, 1) := by decide +kernel
theorem dX4_tellsTotal_109 : decode cX4_tellsTotal 109 = .ok (.aload_n 0, 1) := by decide +kernel
theorem dX4_tellsTotal_110 : decode cX4_tellsTotal 110 = .ok (.invokevirtual 178, 3) := by decide +kernel
theorem dX4_tellsTotal_113 : decode cX4_tellsTotal 113 = .ok (.ireturn, 1) := by decide +kernel
theorem dX4_tellsTotal_114 : decode cX4_tellsTotal 114 = .ok (.aload_n 0, 1) := by decide +kernel
theorem dX4_tellsTotal_115 : decode cX4_tellsTotal 115 = .ok (.getfield 36, 3) := by decide +kernel
theorem dX4_tellsTotal_118 : decode cX4_tellsTotal 118 = .ok (.ireturn, 1) := by decide +kernel
theorem dX4_tellsTotal_119 : decode cX4_tellsTotal 119 = .ok (.aload_n 0, 1) := by decide +kernel
theorem dX4_tellsTotal_120 : decode cX4_tellsTotal 120 = .ok (.getfield 103, 3) := by decide +kernel
theorem dX4_tellsTotal_123 : decode cX4_tellsTotal 123 = .ok (.ireturn, 1) := by decide +kernel
theorem dX4_tellsTotal_124 : decode cX4_tellsTotal 124 = .ok (.aload_n 0, 1) := by decide +kernel
theorem dX4_tellsTotal_125 : decode cX4_tellsTotal 125 = .ok (.getfield 7, 3) := by decide +kernel
theorem dX4_tellsTotal_128 : decode cX4_tellsTotal 128 = .ok (.iload_n 1, 1) := by decide +kernel
theorem dX4_tellsTotal_129 : decode cX4_tellsTotal 129 = .ok (.iaload, 1) := by decide +kernel
theorem dX4_tellsTotal_130 : decode cX4_tellsTotal 130 = .ok (.ireturn, 1) := by decide +kernel
set_option maxRecDepth 20000 in
theorem ggX4_total_X4_in : GoodIn wsX4_total wsX4_in := goodIn_r _ [5] (by decide +kernel) (by decide +kernel)
set_option maxRecDepth 20000 in
theorem gX4_total_X4_in : GoodIn wsX4_total (va_wsS RX4 32 yX4_in wsX4_in) := goodIn_app (goodIn_of _ (by decide +kernel)) ggX4_total_X4_in
set_option maxRecDepth 20000 in
theorem ggX4_total_X4_tellsTotal : GoodIn wsX4_total wsX4_tellsTotal := goodIn_r _ [9, 10, 11, 12, 13, 14, 15, 4, 16, 17, 18, 19, 20, 21, 22, 23, 24, 25, 26, 27, 28, 29, 30, 31, 32, 33, 34, 35, 36, 37, 38, 39, 40, 41, 42, 43, 44, 45, 46, 47, 48, 49, 50, 51, 52, 53, 54, 55, 56, 57, 58, 59, 60, 61, 62, 63, 64, 65, 66, 67, 68, 69] (by decide +kernel) (by decide +kernel)
set_option maxRecDepth 20000 in
theorem gX4_total_X4_tellsTotal : GoodIn wsX4_total (wsV RX4 181 RX4 yX4_tellsTotal wsX4_tellsTotal) := goodIn_app (goodIn_of _ (by decide +kernel)) ggX4_total_X4_tellsTotal
theorem dX4_total_0 : decode cX4_total 0 = .ok (.aload_n 0, 1) := by decide +kernel
theorem dX4_total_1 : decode cX4_total 1 = .ok (.iconst 0, 1) := by decide +kernel
theorem dX4_total_2 : decode cX4_total 2 = .ok (.putfield 28, 3) := by decide +kernel
theorem dX4_total_5 : decode cX4_total 5 = .ok (.iload_n 1, 1) := by decide +kernel
theorem dX4_total_6 : decode cX4_total 6 = .ok (.iconst 0, 1) := by decide +kernel
theorem dX4_total_7 : decode cX4_total 7 = .ok (.bipush 16, 2) := by decide +kernel
theorem dX4_total_9 : decode cX4_total 9 = .ok (.invokestatic 32, 3) := by decide +kernel
theorem dX4_total_12 : decode cX4_total 12 = .ok (.ifCond .eq 11, 3) := by decide +kernel
theorem dX4_total_15 : decode cX4_total 15 = .ok (.aload_n 0, 1) := by decide +kernel
theorem dX4_total_16 : decode cX4_total 16 = .ok (.iload_n 1, 1) := by decide +kernel
theorem dX4_total_17 : decode cX4_total 17 = .ok (.invokevirtual 181, 3) := by decide +kernel
theorem dX4_total_20 : decode cX4_total 20 = .ok (.goto 5, 3) := by decide +kernel
theorem dX4_total_23 : decode cX4_total 23 = .ok (.bipush (-2), 2) := by decide +kernel
theorem dX4_total_25 : decode cX4_total 25 = .ok (.ireturn, 1) := by decide +kernel
set_option maxRecDepth 20000 in
theorem ggX4_wouldClear_X4_putAside : GoodIn wsX4_wouldClear wsX4_putAside := goodIn_r _ [5, 6, 7, 36, 37, 38, 39, 40, 41, 42, 43, 44, 45, 46, 47, 48] (by decide +kernel) (by decide +kernel)
set_option maxRecDepth 20000 in
theorem gX4_wouldClear_X4_putAside : GoodIn wsX4_wouldClear (wsV RX4 135 RX4 yX4_putAside wsX4_putAside) := goodIn_app (goodIn_of _ (by decide +kernel)) ggX4_wouldClear_X4_putAside
set_option maxRecDepth 20000 in
theorem ggX4_wouldClear_X4_clears : GoodIn wsX4_wouldClear wsX4_clears := goodIn_r _ [11, 12, 13, 14, 4, 15, 7, 16, 17, 18, 19, 20, 21, 22, 23, 24, 25, 26, 27, 28, 29, 30, 31, 36, 37, 38, 39, 40, 41, 42, 43, 44, 45, 46, 47, 48] (by decide +kernel) (by decide +kernel)
set_option maxRecDepth 20000 in
theorem gX4_wouldClear_X4_clears : GoodIn wsX4_wouldClear (wsV RX4 81 RX4 yX4_clears wsX4_clears) := goodIn_app (goodIn_of _ (by decide +kernel)) ggX4_wouldClear_X4_clears
set_option maxRecDepth 20000 in
theorem ggX4_wouldClear_X4_takeBack : GoodIn wsX4_wouldClear wsX4_takeBack := goodIn_r _ [35, 7, 6, 36, 37, 38, 39, 40, 41, 42, 43, 44, 45, 46, 47, 48] (by decide +kernel) (by decide +kernel)
set_option maxRecDepth 20000 in
theorem gX4_wouldClear_X4_takeBack : GoodIn wsX4_wouldClear (wsV RX4 144 RX4 yX4_takeBack wsX4_takeBack) := goodIn_app (goodIn_of _ (by decide +kernel)) ggX4_wouldClear_X4_takeBack
theorem dX4_wouldClear_0 : decode cX4_wouldClear 0 = .ok (.aload_n 0, 1) := by decide +kernel
theorem dX4_wouldClear_1 : decode cX4_wouldClear 1 = .ok (.invokevirtual 135, 3) := by decide +kernel
theorem dX4_wouldClear_4 : decode cX4_wouldClear 4 = .ok (.aload_n 0, 1) := by decide +kernel
theorem dX4_wouldClear_5 : decode cX4_wouldClear 5 = .ok (.iload_n 1, 1) := by decide +kernel
theorem dX4_wouldClear_6 : decode cX4_wouldClear 6 = .ok (.invokevirtual 81, 3) := by decide +kernel
theorem dX4_wouldClear_9 : decode cX4_wouldClear 9 = .ok (.istore_n 2, 1) := by decide +kernel
theorem dX4_wouldClear_10 : decode cX4_wouldClear 10 = .ok (.aload_n 0, 1) := by decide +kernel
theorem dX4_wouldClear_11 : decode cX4_wouldClear 11 = .ok (.invokevirtual 144, 3) := by decide +kernel
theorem dX4_wouldClear_14 : decode cX4_wouldClear 14 = .ok (.iload_n 2, 1) := by decide +kernel
theorem dX4_wouldClear_15 : decode cX4_wouldClear 15 = .ok (.ireturn, 1) := by decide +kernel
set_option maxRecDepth 20000 in
theorem ggX4_finesOfOthers_X4_of : GoodIn wsX4_finesOfOthers wsX4_of := goodIn_r _ [6, 1, 19, 20, 21, 22, 23, 24, 25, 26, 27, 28, 29, 30, 31] (by decide +kernel) (by decide +kernel)
set_option maxRecDepth 20000 in
theorem gX4_finesOfOthers_X4_of : GoodIn wsX4_finesOfOthers (wsV RX4 39 RX4 yX4_of wsX4_of) := goodIn_app (goodIn_of _ (by decide +kernel)) ggX4_finesOfOthers_X4_of
set_option maxRecDepth 20000 in
theorem ggX4_finesOfOthers_X4_isWhole : GoodIn wsX4_finesOfOthers wsX4_isWhole := goodIn_r _ [10, 2, 3, 4, 5, 6, 1, 11, 12, 13, 14, 15, 16, 17, 18, 19, 20, 21, 22, 23, 24, 25, 26, 27, 28, 29, 30, 31] (by decide +kernel) (by decide +kernel)
set_option maxRecDepth 20000 in
theorem gX4_finesOfOthers_X4_isWhole : GoodIn wsX4_finesOfOthers (wsV RX4 71 RX4 yX4_isWhole wsX4_isWhole) := goodIn_app (goodIn_of _ (by decide +kernel)) ggX4_finesOfOthers_X4_isWhole
theorem dX4_finesOfOthers_0 : decode cX4_finesOfOthers 0 = .ok (.iconst 0, 1) := by decide +kernel
theorem dX4_finesOfOthers_1 : decode cX4_finesOfOthers 1 = .ok (.istore_n 2, 1) := by decide +kernel
theorem dX4_finesOfOthers_2 : decode cX4_finesOfOthers 2 = .ok (.iconst 0, 1) := by decide +kernel
theorem dX4_finesOfOthers_3 : decode cX4_finesOfOthers 3 = .ok (.istore_n 3, 1) := by decide +kernel
theorem dX4_finesOfOthers_4 : decode cX4_finesOfOthers 4 = .ok (.iload_n 3, 1) := by decide +kernel
theorem dX4_finesOfOthers_5 : decode cX4_finesOfOthers 5 = .ok (.aload_n 0, 1) := by decide +kernel
theorem dX4_finesOfOthers_6 : decode cX4_finesOfOthers 6 = .ok (.getfield 7, 3) := by decide +kernel
theorem dX4_finesOfOthers_9 : decode cX4_finesOfOthers 9 = .ok (.iconst 5, 1) := by decide +kernel
theorem dX4_finesOfOthers_10 : decode cX4_finesOfOthers 10 = .ok (.iaload, 1) := by decide +kernel
theorem dX4_finesOfOthers_11 : decode cX4_finesOfOthers 11 = .ok (.if_icmp .ge 40, 3) := by decide +kernel
theorem dX4_finesOfOthers_14 : decode cX4_finesOfOthers 14 = .ok (.iload_n 2, 1) := by decide +kernel
theorem dX4_finesOfOthers_15 : decode cX4_finesOfOthers 15 = .ok (.aload_n 0, 1) := by decide +kernel
theorem dX4_finesOfOthers_16 : decode cX4_finesOfOthers 16 = .ok (.iload_n 3, 1) := by decide +kernel
theorem dX4_finesOfOthers_17 : decode cX4_finesOfOthers 17 = .ok (.iconst 2, 1) := by decide +kernel
theorem dX4_finesOfOthers_18 : decode cX4_finesOfOthers 18 = .ok (.invokevirtual 39, 3) := by decide +kernel
theorem dX4_finesOfOthers_21 : decode cX4_finesOfOthers 21 = .ok (.iload_n 1, 1) := by decide +kernel
theorem dX4_finesOfOthers_22 : decode cX4_finesOfOthers 22 = .ok (.if_icmp .ne 20, 3) := by decide +kernel
theorem dX4_finesOfOthers_25 : decode cX4_finesOfOthers 25 = .ok (.aload_n 0, 1) := by decide +kernel
theorem dX4_finesOfOthers_26 : decode cX4_finesOfOthers 26 = .ok (.iload_n 3, 1) := by decide +kernel
theorem dX4_finesOfOthers_27 : decode cX4_finesOfOthers 27 = .ok (.invokevirtual 71, 3) := by decide +kernel
theorem dX4_finesOfOthers_30 : decode cX4_finesOfOthers 30 = .ok (.ifCond .eq 12, 3) := by decide +kernel
theorem dX4_finesOfOthers_33 : decode cX4_finesOfOthers 33 = .ok (.aload_n 0, 1) := by decide +kernel
theorem dX4_finesOfOthers_34 : decode cX4_finesOfOthers 34 = .ok (.getfield 7, 3) := by decide +kernel
theorem dX4_finesOfOthers_37 : decode cX4_finesOfOthers 37 = .ok (.iconst 4, 1) := by decide +kernel
theorem dX4_finesOfOthers_38 : decode cX4_finesOfOthers 38 = .ok (.iaload, 1) := by decide +kernel
theorem dX4_finesOfOthers_39 : decode cX4_finesOfOthers 39 = .ok (.goto 4, 3) := by decide +kernel
theorem dX4_finesOfOthers_42 : decode cX4_finesOfOthers 42 = .ok (.iconst 0, 1) := by decide +kernel
theorem dX4_finesOfOthers_43 : decode cX4_finesOfOthers 43 = .ok (.iadd, 1) := by decide +kernel
theorem dX4_finesOfOthers_44 : decode cX4_finesOfOthers 44 = .ok (.istore_n 2, 1) := by decide +kernel
theorem dX4_finesOfOthers_45 : decode cX4_finesOfOthers 45 = .ok (.iinc 3 1, 3) := by decide +kernel
theorem dX4_finesOfOthers_48 : decode cX4_finesOfOthers 48 = .ok (.goto (-44), 3) := by decide +kernel
theorem dX4_finesOfOthers_51 : decode cX4_finesOfOthers 51 = .ok (.iload_n 2, 1) := by decide +kernel
theorem dX4_finesOfOthers_52 : decode cX4_finesOfOthers 52 = .ok (.ireturn, 1) := by decide +kernel
set_option maxRecDepth 20000 in
theorem ggX4_ifOpened_X4_isCart : GoodIn wsX4_ifOpened wsX4_isCart := goodIn_r _ [6, 7, 8, 9, 5, 10, 56, 57, 58, 59, 60, 61, 62, 63, 64, 65, 66, 67, 68] (by decide +kernel) (by decide +kernel)
set_option maxRecDepth 20000 in
theorem gX4_ifOpened_X4_isCart : GoodIn wsX4_ifOpened (wsV RX4 50 RX4 yX4_isCart wsX4_isCart) := goodIn_app (goodIn_of _ (by decide +kernel)) ggX4_ifOpened_X4_isCart
set_option maxRecDepth 20000 in
theorem ggX4_ifOpened_X4_in : GoodIn wsX4_ifOpened wsX4_in := goodIn_r _ [10] (by decide +kernel) (by decide +kernel)
set_option maxRecDepth 20000 in
theorem gX4_ifOpened_X4_in : GoodIn wsX4_ifOpened (va_wsS RX4 32 yX4_in wsX4_in) := goodIn_app (goodIn_of _ (by decide +kernel)) ggX4_ifOpened_X4_in
set_option maxRecDepth 20000 in
theorem ggX4_ifOpened_X4_of : GoodIn wsX4_ifOpened wsX4_of := goodIn_r _ [14, 7, 56, 57, 58, 59, 60, 61, 62, 63, 64, 65, 66, 67, 68] (by decide +kernel) (by decide +kernel)
set_option maxRecDepth 20000 in
theorem gX4_ifOpened_X4_of : GoodIn wsX4_ifOpened (wsV RX4 39 RX4 yX4_of wsX4_of) := goodIn_app (goodIn_of _ (by decide +kernel)) ggX4_ifOpened_X4_of
set_option maxRecDepth 20000 in
theorem ggX4_ifOpened_X4_isWhole : GoodIn wsX4_ifOpened wsX4_isWhole := goodIn_r _ [18, 11, 12, 13, 5, 14, 7, 19, 20, 21, 22, 23, 24, 25, 26, 56, 57, 58, 59, 60, 61, 62, 63, 64, 65, 66, 67, 68] (by decide +kernel) (by decide +kernel)
set_option maxRecDepth 20000 in
theorem gX4_ifOpened_X4_isWhole : GoodIn wsX4_ifOpened (wsV RX4 71 RX4 yX4_isWhole wsX4_isWhole) := goodIn_app (goodIn_of _ (by decide +kernel)) ggX4_ifOpened_X4_isWhole
set_option maxRecDepth 20000 in
theorem ggX4_ifOpened_X4_fineOfLie : GoodIn wsX4_ifOpened wsX4_fineOfLie := goodIn_r _ [30, 7, 11, 12, 13, 5, 14, 56, 57, 58, 59, 60, 61, 62, 63, 64, 65, 66, 67, 68] (by decide +kernel) (by decide +kernel)
set_option maxRecDepth 20000 in
theorem gX4_ifOpened_X4_fineOfLie : GoodIn wsX4_ifOpened (wsV RX4 84 RX4 yX4_fineOfLie wsX4_fineOfLie) := goodIn_app (goodIn_of _ (by decide +kernel)) ggX4_ifOpened_X4_fineOfLie
set_option maxRecDepth 20000 in
theorem ggX4_ifOpened_X4_wouldClear : GoodIn wsX4_ifOpened wsX4_wouldClear := goodIn_r _ [34, 35, 36, 37, 5, 38, 39, 7, 40, 41, 42, 43, 11, 12, 13, 14, 44, 45, 46, 47, 15, 16, 17, 18, 19, 20, 21, 22, 23, 24, 25, 26, 48, 49, 50, 51, 56, 57, 58, 59, 60, 61, 62, 63, 64, 65, 66, 67, 68] (by decide +kernel) (by decide +kernel)
set_option maxRecDepth 20000 in
theorem gX4_ifOpened_X4_wouldClear : GoodIn wsX4_ifOpened (wsV RX4 184 RX4 yX4_wouldClear wsX4_wouldClear) := goodIn_app (goodIn_of _ (by decide +kernel)) ggX4_ifOpened_X4_wouldClear
set_option maxRecDepth 20000 in
theorem ggX4_ifOpened_X4_finesOfOthers : GoodIn wsX4_ifOpened wsX4_finesOfOthers := goodIn_r _ [55, 7, 11, 12, 13, 5, 14, 15, 16, 17, 18, 19, 20, 21, 22, 23, 24, 25, 26, 56, 57, 58, 59, 60, 61, 62, 63, 64, 65, 66, 67, 68] (by decide +kernel) (by decide +kernel)
set_option maxRecDepth 20000 in
theorem gX4_ifOpened_X4_finesOfOthers : GoodIn wsX4_ifOpened (wsV RX4 187 RX4 yX4_finesOfOthers wsX4_finesOfOthers) := goodIn_app (goodIn_of _ (by decide +kernel)) ggX4_ifOpened_X4_finesOfOthers
theorem dX4_ifOpened_0 : decode cX4_ifOpened 0 = .ok (.aload_n 0, 1) := by decide +kernel
theorem dX4_ifOpened_1 : decode cX4_ifOpened 1 = .ok (.iconst 0, 1) := by decide +kernel
theorem dX4_ifOpened_2 : decode cX4_ifOpened 2 = .ok (.putfield 28, 3) := by decide +kernel
theorem dX4_ifOpened_5 : decode cX4_ifOpened 5 = .ok (.aload_n 0, 1) := by decide +kernel
theorem dX4_ifOpened_6 : decode cX4_ifOpened 6 = .ok (.iload_n 1, 1) := by decide +kernel
theorem dX4_ifOpened_7 : decode cX4_ifOpened 7 = .ok (.invokevirtual 50, 3) := by decide +kernel
theorem dX4_ifOpened_10 : decode cX4_ifOpened 10 = .ok (.ifCond .ne 5, 3) := by decide +kernel
theorem dX4_ifOpened_13 : decode cX4_ifOpened 13 = .ok (.iconst (-1), 1) := by decide +kernel
theorem dX4_ifOpened_14 : decode cX4_ifOpened 14 = .ok (.ireturn, 1) := by decide +kernel
theorem dX4_ifOpened_15 : decode cX4_ifOpened 15 = .ok (.iload_n 2, 1) := by decide +kernel
theorem dX4_ifOpened_16 : decode cX4_ifOpened 16 = .ok (.iconst 0, 1) := by decide +kernel
theorem dX4_ifOpened_17 : decode cX4_ifOpened 17 = .ok (.iconst 2, 1) := by decide +kernel
theorem dX4_ifOpened_18 : decode cX4_ifOpened 18 = .ok (.invokestatic 32, 3) := by decide +kernel
theorem dX4_ifOpened_21 : decode cX4_ifOpened 21 = .ok (.ifCond .ne 6, 3) := by decide +kernel
theorem dX4_ifOpened_24 : decode cX4_ifOpened 24 = .ok (.bipush (-2), 2) := by decide +kernel
theorem dX4_ifOpened_26 : decode cX4_ifOpened 26 = .ok (.ireturn, 1) := by decide +kernel
theorem dX4_ifOpened_27 : decode cX4_ifOpened 27 = .ok (.aload_n 0, 1) := by decide +kernel
theorem dX4_ifOpened_28 : decode cX4_ifOpened 28 = .ok (.iload_n 1, 1) := by decide +kernel
theorem dX4_ifOpened_29 : decode cX4_ifOpened 29 = .ok (.iconst 4, 1) := by decide +kernel
theorem dX4_ifOpened_30 : decode cX4_ifOpened 30 = .ok (.invokevirtual 39, 3) := by decide +kernel
theorem dX4_ifOpened_33 : decode cX4_ifOpened 33 = .ok (.iconst 1, 1) := by decide +kernel
theorem dX4_ifOpened_34 : decode cX4_ifOpened 34 = .ok (.if_icmp .ne 6, 3) := by decide +kernel
theorem dX4_ifOpened_37 : decode cX4_ifOpened 37 = .ok (.bipush (-4), 2) := by decide +kernel
theorem dX4_ifOpened_39 : decode cX4_ifOpened 39 = .ok (.ireturn, 1) := by decide +kernel
theorem dX4_ifOpened_40 : decode cX4_ifOpened 40 = .ok (.aload_n 0, 1) := by decide +kernel
theorem dX4_ifOpened_41 : decode cX4_ifOpened 41 = .ok (.iload_n 1, 1) := by decide +kernel
theorem dX4_ifOpened_42 : decode cX4_ifOpened 42 = .ok (.iconst 0, 1) := by decide +kernel
theorem dX4_ifOpened_43 : decode cX4_ifOpened 43 = .ok (.invokevirtual 39, 3) := by decide +kernel
theorem dX4_ifOpened_46 : decode cX4_ifOpened 46 = .ok (.ifCond .le 7, 3) := by decide +kernel
theorem dX4_ifOpened_49 : decode cX4_ifOpened 49 = .ok (.iconst 1, 1) := by decide +kernel
theorem dX4_ifOpened_50 : decode cX4_ifOpened 50 = .ok (.goto 4, 3) := by decide +kernel
theorem dX4_ifOpened_53 : decode cX4_ifOpened 53 = .ok (.iconst 0, 1) := by decide +kernel
theorem dX4_ifOpened_54 : decode cX4_ifOpened 54 = .ok (.istore_n 3, 1) := by decide +kernel
theorem dX4_ifOpened_55 : decode cX4_ifOpened 55 = .ok (.iload_n 2, 1) := by decide +kernel
theorem dX4_ifOpened_56 : decode cX4_ifOpened 56 = .ok (.iconst 1, 1) := by decide +kernel
theorem dX4_ifOpened_57 : decode cX4_ifOpened 57 = .ok (.if_icmp .ne 32, 3) := by decide +kernel
theorem dX4_ifOpened_60 : decode cX4_ifOpened 60 = .ok (.aload_n 0, 1) := by decide +kernel
theorem dX4_ifOpened_61 : decode cX4_ifOpened 61 = .ok (.iload_n 1, 1) := by decide +kernel
theorem dX4_ifOpened_62 : decode cX4_ifOpened 62 = .ok (.invokevirtual 71, 3) := by decide +kernel
theorem dX4_ifOpened_65 : decode cX4_ifOpened 65 = .ok (.ifCond .eq 7, 3) := by decide +kernel
theorem dX4_ifOpened_68 : decode cX4_ifOpened 68 = .ok (.iconst 0, 1) := by decide +kernel
theorem dX4_ifOpened_69 : decode cX4_ifOpened 69 = .ok (.goto 4, 3) := by decide +kernel
theorem dX4_ifOpened_72 : decode cX4_ifOpened 72 = .ok (.iconst 3, 1) := by decide +kernel
theorem dX4_ifOpened_73 : decode cX4_ifOpened 73 = .ok (.iload_n 3, 1) := by decide +kernel
theorem dX4_ifOpened_74 : decode cX4_ifOpened 74 = .ok (.ifCond .eq 12, 3) := by decide +kernel
theorem dX4_ifOpened_77 : decode cX4_ifOpened 77 = .ok (.aload_n 0, 1) := by decide +kernel
theorem dX4_ifOpened_78 : decode cX4_ifOpened 78 = .ok (.iload_n 1, 1) := by decide +kernel
theorem dX4_ifOpened_79 : decode cX4_ifOpened 79 = .ok (.iconst 0, 1) := by decide +kernel
theorem dX4_ifOpened_80 : decode cX4_ifOpened 80 = .ok (.invokevirtual 84, 3) := by decide +kernel
theorem dX4_ifOpened_83 : decode cX4_ifOpened 83 = .ok (.goto 4, 3) := by decide +kernel
theorem dX4_ifOpened_86 : decode cX4_ifOpened 86 = .ok (.iconst 0, 1) := by decide +kernel
theorem dX4_ifOpened_87 : decode cX4_ifOpened 87 = .ok (.iadd, 1) := by decide +kernel
theorem dX4_ifOpened_88 : decode cX4_ifOpened 88 = .ok (.ireturn, 1) := by decide +kernel
theorem dX4_ifOpened_89 : decode cX4_ifOpened 89 = .ok (.iload_n 2, 1) := by decide +kernel
theorem dX4_ifOpened_90 : decode cX4_ifOpened 90 = .ok (.ifCond .ne 11, 3) := by decide +kernel
theorem dX4_ifOpened_93 : decode cX4_ifOpened 93 = .ok (.aload_n 0, 1) := by decide +kernel
theorem dX4_ifOpened_94 : decode cX4_ifOpened 94 = .ok (.iload_n 1, 1) := by decide +kernel
theorem dX4_ifOpened_95 : decode cX4_ifOpened 95 = .ok (.invokevirtual 184, 3) := by decide +kernel
theorem dX4_ifOpened_98 : decode cX4_ifOpened 98 = .ok (.goto 16, 3) := by decide +kernel
theorem dX4_ifOpened_101 : decode cX4_ifOpened 101 = .ok (.iload_n 3, 1) := by decide +kernel
theorem dX4_ifOpened_102 : decode cX4_ifOpened 102 = .ok (.ifCond .eq 11, 3) := by decide +kernel
theorem dX4_ifOpened_105 : decode cX4_ifOpened 105 = .ok (.aload_n 0, 1) := by decide +kernel
theorem dX4_ifOpened_106 : decode cX4_ifOpened 106 = .ok (.iload_n 1, 1) := by decide +kernel
theorem dX4_ifOpened_107 : decode cX4_ifOpened 107 = .ok (.invokevirtual 187, 3) := by decide +kernel
theorem dX4_ifOpened_110 : decode cX4_ifOpened 110 = .ok (.goto 4, 3) := by decide +kernel
theorem dX4_ifOpened_113 : decode cX4_ifOpened 113 = .ok (.iconst 0, 1) := by decide +kernel
theorem dX4_ifOpened_114 : decode cX4_ifOpened 114 = .ok (.ireturn, 1) := by decide +kernel
set_option maxRecDepth 20000 in
theorem ggX4_reaches_X4_isWhole : GoodIn wsX4_reaches wsX4_isWhole := goodIn_r _ [5, 6, 7, 8, 4, 9, 10, 11, 12, 13, 14, 15, 16, 17, 18, 19, 20, 21, 22, 23, 24, 25, 26, 27, 28, 29, 30, 31] (by decide +kernel) (by decide +kernel)
set_option maxRecDepth 20000 in
theorem gX4_reaches_X4_isWhole : GoodIn wsX4_reaches (wsV RX4 71 RX4 yX4_isWhole wsX4_isWhole) := goodIn_app (goodIn_of _ (by decide +kernel)) ggX4_reaches_X4_isWhole
set_option maxRecDepth 20000 in
theorem ggX4_reaches_X4_of : GoodIn wsX4_reaches wsX4_of := goodIn_r _ [9, 10, 19, 20, 21, 22, 23, 24, 25, 26, 27, 28, 29, 30, 31] (by decide +kernel) (by decide +kernel)
set_option maxRecDepth 20000 in
theorem gX4_reaches_X4_of : GoodIn wsX4_reaches (wsV RX4 39 RX4 yX4_of wsX4_of) := goodIn_app (goodIn_of _ (by decide +kernel)) ggX4_reaches_X4_of
theorem dX4_reaches_0 : decode cX4_reaches 0 = .ok (.iload_n 1, 1) := by decide +kernel
theorem dX4_reaches_1 : decode cX4_reaches 1 = .ok (.istore_n 3, 1) := by decide +kernel
theorem dX4_reaches_2 : decode cX4_reaches 2 = .ok (.iload_n 3, 1) := by decide +kernel
theorem dX4_reaches_3 : decode cX4_reaches 3 = .ok (.iload_n 2, 1) := by decide +kernel
theorem dX4_reaches_4 : decode cX4_reaches 4 = .ok (.if_icmp .le 21, 3) := by decide +kernel
theorem dX4_reaches_7 : decode cX4_reaches 7 = .ok (.aload_n 0, 1) := by decide +kernel
theorem dX4_reaches_8 : decode cX4_reaches 8 = .ok (.iload_n 3, 1) := by decide +kernel
theorem dX4_reaches_9 : decode cX4_reaches 9 = .ok (.invokevirtual 71, 3) := by decide +kernel
theorem dX4_reaches_12 : decode cX4_reaches 12 = .ok (.ifCond .eq 13, 3) := by decide +kernel
theorem dX4_reaches_15 : decode cX4_reaches 15 = .ok (.aload_n 0, 1) := by decide +kernel
theorem dX4_reaches_16 : decode cX4_reaches 16 = .ok (.iload_n 3, 1) := by decide +kernel
theorem dX4_reaches_17 : decode cX4_reaches 17 = .ok (.iconst 2, 1) := by decide +kernel
theorem dX4_reaches_18 : decode cX4_reaches 18 = .ok (.invokevirtual 39, 3) := by decide +kernel
theorem dX4_reaches_21 : decode cX4_reaches 21 = .ok (.istore_n 3, 1) := by decide +kernel
theorem dX4_reaches_22 : decode cX4_reaches 22 = .ok (.goto (-20), 3) := by decide +kernel
theorem dX4_reaches_25 : decode cX4_reaches 25 = .ok (.iload_n 3, 1) := by decide +kernel
theorem dX4_reaches_26 : decode cX4_reaches 26 = .ok (.iload_n 2, 1) := by decide +kernel
theorem dX4_reaches_27 : decode cX4_reaches 27 = .ok (.if_icmp .ne 12, 3) := by decide +kernel
theorem dX4_reaches_30 : decode cX4_reaches 30 = .ok (.iload_n 1, 1) := by decide +kernel
theorem dX4_reaches_31 : decode cX4_reaches 31 = .ok (.iload_n 2, 1) := by decide +kernel
theorem dX4_reaches_32 : decode cX4_reaches 32 = .ok (.if_icmp .eq 7, 3) := by decide +kernel
theorem dX4_reaches_35 : decode cX4_reaches 35 = .ok (.iconst 1, 1) := by decide +kernel
theorem dX4_reaches_36 : decode cX4_reaches 36 = .ok (.goto 4, 3) := by decide +kernel
theorem dX4_reaches_39 : decode cX4_reaches 39 = .ok (.iconst 0, 1) := by decide +kernel
theorem dX4_reaches_40 : decode cX4_reaches 40 = .ok (.ireturn, 1) := by decide +kernel
set_option maxRecDepth 20000 in
theorem ggX4_byEnds_X4_isLeft : GoodIn wsX4_byEnds wsX4_isLeft := goodIn_r _ [6, 7, 8, 9, 5, 10, 1, 27, 28, 29, 30, 31, 32, 33, 34, 35, 36, 37, 38, 39] (by decide +kernel) (by decide +kernel)
set_option maxRecDepth 20000 in
theorem gX4_byEnds_X4_isLeft : GoodIn wsX4_byEnds (wsV RX4 93 RX4 yX4_isLeft wsX4_isLeft) := goodIn_app (goodIn_of _ (by decide +kernel)) ggX4_byEnds_X4_isLeft
set_option maxRecDepth 20000 in
theorem ggX4_byEnds_X4_reaches : GoodIn wsX4_byEnds wsX4_reaches := goodIn_r _ [14, 15, 16, 17, 5, 18, 7, 8, 9, 10, 1, 19, 20, 21, 22, 23, 24, 25, 26, 27, 28, 29, 30, 31, 32, 33, 34, 35, 36, 37, 38, 39] (by decide +kernel) (by decide +kernel)
set_option maxRecDepth 20000 in
theorem gX4_byEnds_X4_reaches : GoodIn wsX4_byEnds (wsV RX4 190 RX4 yX4_reaches wsX4_reaches) := goodIn_app (goodIn_of _ (by decide +kernel)) ggX4_byEnds_X4_reaches
theorem dX4_byEnds_0 : decode cX4_byEnds 0 = .ok (.iconst 0, 1) := by decide +kernel
theorem dX4_byEnds_1 : decode cX4_byEnds 1 = .ok (.istore_n 1, 1) := by decide +kernel
theorem dX4_byEnds_2 : decode cX4_byEnds 2 = .ok (.iconst 0, 1) := by decide +kernel
theorem dX4_byEnds_3 : decode cX4_byEnds 3 = .ok (.istore_n 2, 1) := by decide +kernel
theorem dX4_byEnds_4 : decode cX4_byEnds 4 = .ok (.iload_n 2, 1) := by decide +kernel
theorem dX4_byEnds_5 : decode cX4_byEnds 5 = .ok (.aload_n 0, 1) := by decide +kernel
theorem dX4_byEnds_6 : decode cX4_byEnds 6 = .ok (.getfield 7, 3) := by decide +kernel
theorem dX4_byEnds_9 : decode cX4_byEnds 9 = .ok (.iconst 5, 1) := by decide +kernel
theorem dX4_byEnds_10 : decode cX4_byEnds 10 = .ok (.iaload, 1) := by decide +kernel
theorem dX4_byEnds_11 : decode cX4_byEnds 11 = .ok (.if_icmp .ge 76, 3) := by decide +kernel
theorem dX4_byEnds_14 : decode cX4_byEnds 14 = .ok (.aload_n 0, 1) := by decide +kernel
theorem dX4_byEnds_15 : decode cX4_byEnds 15 = .ok (.iload_n 2, 1) := by decide +kernel
theorem dX4_byEnds_16 : decode cX4_byEnds 16 = .ok (.invokevirtual 93, 3) := by decide +kernel
theorem dX4_byEnds_19 : decode cX4_byEnds 19 = .ok (.istore_n 3, 1) := by decide +kernel
theorem dX4_byEnds_20 : decode cX4_byEnds 20 = .ok (.iconst 0, 1) := by decide +kernel
theorem dX4_byEnds_21 : decode cX4_byEnds 21 = .ok (.istore 4, 2) := by decide +kernel
theorem dX4_byEnds_23 : decode cX4_byEnds 23 = .ok (.iload 4, 2) := by decide +kernel
theorem dX4_byEnds_25 : decode cX4_byEnds 25 = .ok (.aload_n 0, 1) := by decide +kernel
theorem dX4_byEnds_26 : decode cX4_byEnds 26 = .ok (.getfield 7, 3) := by decide +kernel
theorem dX4_byEnds_29 : decode cX4_byEnds 29 = .ok (.iconst 5, 1) := by decide +kernel
theorem dX4_byEnds_30 : decode cX4_byEnds 30 = .ok (.iaload, 1) := by decide +kernel
theorem dX4_byEnds_31 : decode cX4_byEnds 31 = .ok (.if_icmp .ge 38, 3) := by decide +kernel
theorem dX4_byEnds_34 : decode cX4_byEnds 34 = .ok (.iload_n 3, 1) := by decide +kernel
theorem dX4_byEnds_35 : decode cX4_byEnds 35 = .ok (.ifCond .eq 26, 3) := by decide +kernel
theorem dX4_byEnds_38 : decode cX4_byEnds 38 = .ok (.aload_n 0, 1) := by decide +kernel
theorem dX4_byEnds_39 : decode cX4_byEnds 39 = .ok (.iload 4, 2) := by decide +kernel
theorem dX4_byEnds_41 : decode cX4_byEnds 41 = .ok (.invokevirtual 93, 3) := by decide +kernel
theorem dX4_byEnds_44 : decode cX4_byEnds 44 = .ok (.ifCond .eq 13, 3) := by decide +kernel
theorem dX4_byEnds_47 : decode cX4_byEnds 47 = .ok (.aload_n 0, 1) := by decide +kernel
theorem dX4_byEnds_48 : decode cX4_byEnds 48 = .ok (.iload 4, 2) := by decide +kernel
theorem dX4_byEnds_50 : decode cX4_byEnds 50 = .ok (.iload_n 2, 1) := by decide +kernel
theorem dX4_byEnds_51 : decode cX4_byEnds 51 = .ok (.invokevirtual 190, 3) := by decide +kernel
theorem dX4_byEnds_54 : decode cX4_byEnds 54 = .ok (.ifCond .ne 7, 3) := by decide +kernel
theorem dX4_byEnds_57 : decode cX4_byEnds 57 = .ok (.iconst 1, 1) := by decide +kernel
theorem dX4_byEnds_58 : decode cX4_byEnds 58 = .ok (.goto 4, 3) := by decide +kernel
theorem dX4_byEnds_61 : decode cX4_byEnds 61 = .ok (.iconst 0, 1) := by decide +kernel
theorem dX4_byEnds_62 : decode cX4_byEnds 62 = .ok (.istore_n 3, 1) := by decide +kernel
theorem dX4_byEnds_63 : decode cX4_byEnds 63 = .ok (.iinc 4 1, 3) := by decide +kernel
theorem dX4_byEnds_66 : decode cX4_byEnds 66 = .ok (.goto (-43), 3) := by decide +kernel
theorem dX4_byEnds_69 : decode cX4_byEnds 69 = .ok (.iload_n 1, 1) := by decide +kernel
theorem dX4_byEnds_70 : decode cX4_byEnds 70 = .ok (.iload_n 3, 1) := by decide +kernel
theorem dX4_byEnds_71 : decode cX4_byEnds 71 = .ok (.ifCond .eq 7, 3) := by decide +kernel
theorem dX4_byEnds_74 : decode cX4_byEnds 74 = .ok (.iconst 1, 1) := by decide +kernel
theorem dX4_byEnds_75 : decode cX4_byEnds 75 = .ok (.goto 4, 3) := by decide +kernel
theorem dX4_byEnds_78 : decode cX4_byEnds 78 = .ok (.iconst 0, 1) := by decide +kernel
theorem dX4_byEnds_79 : decode cX4_byEnds 79 = .ok (.iadd, 1) := by decide +kernel
theorem dX4_byEnds_80 : decode cX4_byEnds 80 = .ok (.istore_n 1, 1) := by decide +kernel
theorem dX4_byEnds_81 : decode cX4_byEnds 81 = .ok (.iinc 2 1, 3) := by decide +kernel
theorem dX4_byEnds_84 : decode cX4_byEnds 84 = .ok (.goto (-80), 3) := by decide +kernel
theorem dX4_byEnds_87 : decode cX4_byEnds 87 = .ok (.iload_n 1, 1) := by decide +kernel
theorem dX4_byEnds_88 : decode cX4_byEnds 88 = .ok (.ireturn, 1) := by decide +kernel
set_option maxRecDepth 20000 in
theorem ggX4_byOpening_X4_putAside : GoodIn wsX4_byOpening wsX4_putAside := goodIn_r _ [5, 6, 7, 44, 45, 46, 47, 48, 49, 50, 51, 52, 53, 54, 55, 56] (by decide +kernel) (by decide +kernel)
set_option maxRecDepth 20000 in
theorem gX4_byOpening_X4_putAside : GoodIn wsX4_byOpening (wsV RX4 135 RX4 yX4_putAside wsX4_putAside) := goodIn_app (goodIn_of _ (by decide +kernel)) ggX4_byOpening_X4_putAside
set_option maxRecDepth 20000 in
theorem ggX4_byOpening_X4_lastLeft : GoodIn wsX4_byOpening wsX4_lastLeft := goodIn_r _ [11, 7, 12, 13, 14, 4, 15, 16, 17, 18, 19, 44, 45, 46, 47, 48, 49, 50, 51, 52, 53, 54, 55, 56] (by decide +kernel) (by decide +kernel)
set_option maxRecDepth 20000 in
theorem gX4_byOpening_X4_lastLeft : GoodIn wsX4_byOpening (wsV RX4 96 RX4 yX4_lastLeft wsX4_lastLeft) := goodIn_app (goodIn_of _ (by decide +kernel)) ggX4_byOpening_X4_lastLeft
set_option maxRecDepth 20000 in
theorem ggX4_byOpening_X4_lay : GoodIn wsX4_byOpening wsX4_lay := goodIn_r _ [23, 7, 44, 45, 46, 47, 48, 49, 50, 51, 52, 53, 54, 55, 56] (by decide +kernel) (by decide +kernel)
set_option maxRecDepth 20000 in
theorem gX4_byOpening_X4_lay : GoodIn wsX4_byOpening (wsV RX4 54 RX4 yX4_lay wsX4_lay) := goodIn_app (goodIn_of _ (by decide +kernel)) ggX4_byOpening_X4_lay
set_option maxRecDepth 20000 in
theorem ggX4_byOpening_X4_clears : GoodIn wsX4_byOpening wsX4_clears := goodIn_r _ [27, 16, 17, 18, 4, 19, 7, 20, 21, 22, 23, 28, 29, 30, 31, 32, 33, 34, 35, 36, 37, 38, 39, 44, 45, 46, 47, 48, 49, 50, 51, 52, 53, 54, 55, 56] (by decide +kernel) (by decide +kernel)
set_option maxRecDepth 20000 in
theorem gX4_byOpening_X4_clears : GoodIn wsX4_byOpening (wsV RX4 81 RX4 yX4_clears wsX4_clears) := goodIn_app (goodIn_of _ (by decide +kernel)) ggX4_byOpening_X4_clears
set_option maxRecDepth 20000 in
theorem ggX4_byOpening_X4_takeBack : GoodIn wsX4_byOpening wsX4_takeBack := goodIn_r _ [43, 7, 6, 44, 45, 46, 47, 48, 49, 50, 51, 52, 53, 54, 55, 56] (by decide +kernel) (by decide +kernel)
set_option maxRecDepth 20000 in
theorem gX4_byOpening_X4_takeBack : GoodIn wsX4_byOpening (wsV RX4 144 RX4 yX4_takeBack wsX4_takeBack) := goodIn_app (goodIn_of _ (by decide +kernel)) ggX4_byOpening_X4_takeBack
theorem dX4_byOpening_0 : decode cX4_byOpening 0 = .ok (.aload_n 0, 1) := by decide +kernel
theorem dX4_byOpening_1 : decode cX4_byOpening 1 = .ok (.invokevirtual 135, 3) := by decide +kernel
theorem dX4_byOpening_4 : decode cX4_byOpening 4 = .ok (.iconst 0, 1) := by decide +kernel
theorem dX4_byOpening_5 : decode cX4_byOpening 5 = .ok (.istore_n 1, 1) := by decide +kernel
theorem dX4_byOpening_6 : decode cX4_byOpening 6 = .ok (.aload_n 0, 1) := by decide +kernel
theorem dX4_byOpening_7 : decode cX4_byOpening 7 = .ok (.invokevirtual 96, 3) := by decide +kernel
theorem dX4_byOpening_10 : decode cX4_byOpening 10 = .ok (.bipush (-5), 2) := by decide +kernel
theorem dX4_byOpening_12 : decode cX4_byOpening 12 = .ok (.if_icmp .eq 27, 3) := by decide +kernel
theorem dX4_byOpening_15 : decode cX4_byOpening 15 = .ok (.aload_n 0, 1) := by decide +kernel
theorem dX4_byOpening_16 : decode cX4_byOpening 16 = .ok (.invokevirtual 96, 3) := by decide +kernel
theorem dX4_byOpening_19 : decode cX4_byOpening 19 = .ok (.istore_n 2, 1) := by decide +kernel
theorem dX4_byOpening_20 : decode cX4_byOpening 20 = .ok (.aload_n 0, 1) := by decide +kernel
theorem dX4_byOpening_21 : decode cX4_byOpening 21 = .ok (.iload_n 2, 1) := by decide +kernel
theorem dX4_byOpening_22 : decode cX4_byOpening 22 = .ok (.iconst 4, 1) := by decide +kernel
theorem dX4_byOpening_23 : decode cX4_byOpening 23 = .ok (.iconst 1, 1) := by decide +kernel
theorem dX4_byOpening_24 : decode cX4_byOpening 24 = .ok (.invokevirtual 54, 3) := by decide +kernel
theorem dX4_byOpening_27 : decode cX4_byOpening 27 = .ok (.aload_n 0, 1) := by decide +kernel
theorem dX4_byOpening_28 : decode cX4_byOpening 28 = .ok (.iload_n 2, 1) := by decide +kernel
theorem dX4_byOpening_29 : decode cX4_byOpening 29 = .ok (.invokevirtual 81, 3) := by decide +kernel
theorem dX4_byOpening_32 : decode cX4_byOpening 32 = .ok (.pop, 1) := by decide +kernel
theorem dX4_byOpening_33 : decode cX4_byOpening 33 = .ok (.iinc 1 1, 3) := by decide +kernel
theorem dX4_byOpening_36 : decode cX4_byOpening 36 = .ok (.goto (-30), 3) := by decide +kernel
theorem dX4_byOpening_39 : decode cX4_byOpening 39 = .ok (.aload_n 0, 1) := by decide +kernel
theorem dX4_byOpening_40 : decode cX4_byOpening 40 = .ok (.invokevirtual 144, 3) := by decide +kernel
theorem dX4_byOpening_43 : decode cX4_byOpening 43 = .ok (.iload_n 1, 1) := by decide +kernel
theorem dX4_byOpening_44 : decode cX4_byOpening 44 = .ok (.ireturn, 1) := by decide +kernel
set_option maxRecDepth 20000 in
theorem ggX4_fewestOpenings_X4_byEnds : GoodIn wsX4_fewestOpenings wsX4_byEnds := goodIn_r _ [6, 7, 8, 9, 10, 5, 11, 12, 13, 14, 15, 16, 17, 18, 19, 20, 21, 22, 23, 24, 25, 26, 27, 28, 29, 30, 31, 57, 58, 59, 60, 61, 62, 63, 64, 65, 66, 67, 68, 69] (by decide +kernel) (by decide +kernel)
set_option maxRecDepth 20000 in
theorem gX4_fewestOpenings_X4_byEnds : GoodIn wsX4_fewestOpenings (wsV RX4 193 RX4 yX4_byEnds wsX4_byEnds) := goodIn_app (goodIn_of _ (by decide +kernel)) ggX4_fewestOpenings_X4_byEnds
set_option maxRecDepth 20000 in
theorem ggX4_fewestOpenings_X4_byOpening : GoodIn wsX4_fewestOpenings wsX4_byOpening := goodIn_r _ [35, 36, 37, 38, 5, 39, 40, 7, 41, 42, 43, 44, 8, 9, 10, 11, 12, 13, 14, 15, 45, 46, 47, 48, 49, 50, 51, 52, 20, 21, 22, 23, 24, 25, 26, 27, 28, 29, 30, 31, 53, 54, 55, 56, 57, 58, 59, 60, 61, 62, 63, 64, 65, 66, 67, 68, 69] (by decide +kernel) (by decide +kernel)
set_option maxRecDepth 20000 in
theorem gX4_fewestOpenings_X4_byOpening : GoodIn wsX4_fewestOpenings (wsV RX4 196 RX4 yX4_byOpening wsX4_byOpening) := goodIn_app (goodIn_of _ (by decide +kernel)) ggX4_fewestOpenings_X4_byOpening
theorem dX4_fewestOpenings_0 : decode cX4_fewestOpenings 0 = .ok (.aload_n 0, 1) := by decide +kernel
theorem dX4_fewestOpenings_1 : decode cX4_fewestOpenings 1 = .ok (.iconst 0, 1) := by decide +kernel
theorem dX4_fewestOpenings_2 : decode cX4_fewestOpenings 2 = .ok (.putfield 28, 3) := by decide +kernel
theorem dX4_fewestOpenings_5 : decode cX4_fewestOpenings 5 = .ok (.iload_n 1, 1) := by decide +kernel
theorem dX4_fewestOpenings_6 : decode cX4_fewestOpenings 6 = .ok (.ifCond .ne 10, 3) := by decide +kernel
theorem dX4_fewestOpenings_9 : decode cX4_fewestOpenings 9 = .ok (.aload_n 0, 1) := by decide +kernel
theorem dX4_fewestOpenings_10 : decode cX4_fewestOpenings 10 = .ok (.invokevirtual 193, 3) := by decide +kernel
theorem dX4_fewestOpenings_13 : decode cX4_fewestOpenings 13 = .ok (.goto 17, 3) := by decide +kernel
theorem dX4_fewestOpenings_16 : decode cX4_fewestOpenings 16 = .ok (.iload_n 1, 1) := by decide +kernel
theorem dX4_fewestOpenings_17 : decode cX4_fewestOpenings 17 = .ok (.iconst 1, 1) := by decide +kernel
theorem dX4_fewestOpenings_18 : decode cX4_fewestOpenings 18 = .ok (.if_icmp .ne 10, 3) := by decide +kernel
theorem dX4_fewestOpenings_21 : decode cX4_fewestOpenings 21 = .ok (.aload_n 0, 1) := by decide +kernel
theorem dX4_fewestOpenings_22 : decode cX4_fewestOpenings 22 = .ok (.invokevirtual 196, 3) := by decide +kernel
theorem dX4_fewestOpenings_25 : decode cX4_fewestOpenings 25 = .ok (.goto 5, 3) := by decide +kernel
theorem dX4_fewestOpenings_28 : decode cX4_fewestOpenings 28 = .ok (.bipush (-2), 2) := by decide +kernel
theorem dX4_fewestOpenings_30 : decode cX4_fewestOpenings 30 = .ok (.ireturn, 1) := by decide +kernel
set_option maxRecDepth 20000 in
theorem ggX4_bestOpening_X4_of : GoodIn wsX4_bestOpening wsX4_of := goodIn_r _ [7, 2, 41, 42, 43, 44, 45, 46, 47, 48, 49, 50, 51, 52, 53] (by decide +kernel) (by decide +kernel)
set_option maxRecDepth 20000 in
theorem gX4_bestOpening_X4_of : GoodIn wsX4_bestOpening (wsV RX4 39 RX4 yX4_of wsX4_of) := goodIn_app (goodIn_of _ (by decide +kernel)) ggX4_bestOpening_X4_of
set_option maxRecDepth 20000 in
theorem ggX4_bestOpening_X4_wouldClear : GoodIn wsX4_bestOpening wsX4_wouldClear := goodIn_r _ [11, 12, 13, 14, 6, 15, 16, 2, 17, 18, 19, 20, 3, 4, 5, 7, 21, 22, 23, 24, 25, 26, 27, 28, 29, 30, 31, 32, 33, 34, 35, 36, 37, 38, 39, 40, 41, 42, 43, 44, 45, 46, 47, 48, 49, 50, 51, 52, 53] (by decide +kernel) (by decide +kernel)
set_option maxRecDepth 20000 in
theorem gX4_bestOpening_X4_wouldClear : GoodIn wsX4_bestOpening (wsV RX4 184 RX4 yX4_wouldClear wsX4_wouldClear) := goodIn_app (goodIn_of _ (by decide +kernel)) ggX4_bestOpening_X4_wouldClear
theorem dX4_bestOpening_0 : decode cX4_bestOpening 0 = .ok (.aload_n 0, 1) := by decide +kernel
theorem dX4_bestOpening_1 : decode cX4_bestOpening 1 = .ok (.iconst 0, 1) := by decide +kernel
theorem dX4_bestOpening_2 : decode cX4_bestOpening 2 = .ok (.putfield 28, 3) := by decide +kernel
theorem dX4_bestOpening_5 : decode cX4_bestOpening 5 = .ok (.bipush (-5), 2) := by decide +kernel
theorem dX4_bestOpening_7 : decode cX4_bestOpening 7 = .ok (.istore_n 1, 1) := by decide +kernel
theorem dX4_bestOpening_8 : decode cX4_bestOpening 8 = .ok (.iconst (-1), 1) := by decide +kernel
theorem dX4_bestOpening_9 : decode cX4_bestOpening 9 = .ok (.istore_n 2, 1) := by decide +kernel
theorem dX4_bestOpening_10 : decode cX4_bestOpening 10 = .ok (.iconst 0, 1) := by decide +kernel
theorem dX4_bestOpening_11 : decode cX4_bestOpening 11 = .ok (.istore_n 3, 1) := by decide +kernel
theorem dX4_bestOpening_12 : decode cX4_bestOpening 12 = .ok (.iload_n 3, 1) := by decide +kernel
theorem dX4_bestOpening_13 : decode cX4_bestOpening 13 = .ok (.aload_n 0, 1) := by decide +kernel
theorem dX4_bestOpening_14 : decode cX4_bestOpening 14 = .ok (.getfield 7, 3) := by decide +kernel
theorem dX4_bestOpening_17 : decode cX4_bestOpening 17 = .ok (.iconst 5, 1) := by decide +kernel
theorem dX4_bestOpening_18 : decode cX4_bestOpening 18 = .ok (.iaload, 1) := by decide +kernel
theorem dX4_bestOpening_19 : decode cX4_bestOpening 19 = .ok (.if_icmp .ge 55, 3) := by decide +kernel
theorem dX4_bestOpening_22 : decode cX4_bestOpening 22 = .ok (.aload_n 0, 1) := by decide +kernel
theorem dX4_bestOpening_23 : decode cX4_bestOpening 23 = .ok (.iload_n 3, 1) := by decide +kernel
theorem dX4_bestOpening_24 : decode cX4_bestOpening 24 = .ok (.iconst 4, 1) := by decide +kernel
theorem dX4_bestOpening_25 : decode cX4_bestOpening 25 = .ok (.invokevirtual 39, 3) := by decide +kernel
theorem dX4_bestOpening_28 : decode cX4_bestOpening 28 = .ok (.iconst 1, 1) := by decide +kernel
theorem dX4_bestOpening_29 : decode cX4_bestOpening 29 = .ok (.if_icmp .ne 7, 3) := by decide +kernel
theorem dX4_bestOpening_32 : decode cX4_bestOpening 32 = .ok (.iconst (-1), 1) := by decide +kernel
theorem dX4_bestOpening_33 : decode cX4_bestOpening 33 = .ok (.goto 8, 3) := by decide +kernel
theorem dX4_bestOpening_36 : decode cX4_bestOpening 36 = .ok (.aload_n 0, 1) := by decide +kernel
theorem dX4_bestOpening_37 : decode cX4_bestOpening 37 = .ok (.iload_n 3, 1) := by decide +kernel
theorem dX4_bestOpening_38 : decode cX4_bestOpening 38 = .ok (.invokevirtual 184, 3) := by decide +kernel
theorem dX4_bestOpening_41 : decode cX4_bestOpening 41 = .ok (.istore 4, 2) := by decide +kernel
theorem dX4_bestOpening_43 : decode cX4_bestOpening 43 = .ok (.iload 4, 2) := by decide +kernel
theorem dX4_bestOpening_45 : decode cX4_bestOpening 45 = .ok (.iload_n 2, 1) := by decide +kernel
theorem dX4_bestOpening_46 : decode cX4_bestOpening 46 = .ok (.if_icmp .le 7, 3) := by decide +kernel
theorem dX4_bestOpening_49 : decode cX4_bestOpening 49 = .ok (.iload_n 3, 1) := by decide +kernel
theorem dX4_bestOpening_50 : decode cX4_bestOpening 50 = .ok (.goto 4, 3) := by decide +kernel
theorem dX4_bestOpening_53 : decode cX4_bestOpening 53 = .ok (.iload_n 1, 1) := by decide +kernel
theorem dX4_bestOpening_54 : decode cX4_bestOpening 54 = .ok (.istore_n 1, 1) := by decide +kernel
theorem dX4_bestOpening_55 : decode cX4_bestOpening 55 = .ok (.iload 4, 2) := by decide +kernel
theorem dX4_bestOpening_57 : decode cX4_bestOpening 57 = .ok (.iload_n 2, 1) := by decide +kernel
theorem dX4_bestOpening_58 : decode cX4_bestOpening 58 = .ok (.if_icmp .le 8, 3) := by decide +kernel
theorem dX4_bestOpening_61 : decode cX4_bestOpening 61 = .ok (.iload 4, 2) := by decide +kernel
theorem dX4_bestOpening_63 : decode cX4_bestOpening 63 = .ok (.goto 4, 3) := by decide +kernel
theorem dX4_bestOpening_66 : decode cX4_bestOpening 66 = .ok (.iload_n 2, 1) := by decide +kernel
theorem dX4_bestOpening_67 : decode cX4_bestOpening 67 = .ok (.istore_n 2, 1) := by decide +kernel
theorem dX4_bestOpening_68 : decode cX4_bestOpening 68 = .ok (.iinc 3 1, 3) := by decide +kernel
theorem dX4_bestOpening_71 : decode cX4_bestOpening 71 = .ok (.goto (-59), 3) := by decide +kernel
theorem dX4_bestOpening_74 : decode cX4_bestOpening 74 = .ok (.iload_n 1, 1) := by decide +kernel
theorem dX4_bestOpening_75 : decode cX4_bestOpening 75 = .ok (.ireturn, 1) := by decide +kernel
set_option maxRecDepth 20000 in
theorem ggX4_sameSeal_X4_isCart : GoodIn wsX4_sameSeal wsX4_isCart := goodIn_r _ [6, 7, 8, 9, 5, 10, 23, 24, 25, 26, 27, 28, 29, 30, 31, 32, 33, 34, 35] (by decide +kernel) (by decide +kernel)
set_option maxRecDepth 20000 in
theorem gX4_sameSeal_X4_isCart : GoodIn wsX4_sameSeal (wsV RX4 50 RX4 yX4_isCart wsX4_isCart) := goodIn_app (goodIn_of _ (by decide +kernel)) ggX4_sameSeal_X4_isCart
set_option maxRecDepth 20000 in
theorem ggX4_sameSeal_X4_of : GoodIn wsX4_sameSeal wsX4_of := goodIn_r _ [14, 7, 23, 24, 25, 26, 27, 28, 29, 30, 31, 32, 33, 34, 35] (by decide +kernel) (by decide +kernel)
set_option maxRecDepth 20000 in
theorem gX4_sameSeal_X4_of : GoodIn wsX4_sameSeal (wsV RX4 39 RX4 yX4_of wsX4_of) := goodIn_app (goodIn_of _ (by decide +kernel)) ggX4_sameSeal_X4_of
set_option maxRecDepth 20000 in
theorem ggX4_sameSeal_X4_sealBy : GoodIn wsX4_sameSeal wsX4_sealBy := goodIn_r _ [18, 7, 11, 12, 13, 5, 14, 23, 24, 25, 26, 27, 28, 29, 30, 31, 32, 33, 34, 35] (by decide +kernel) (by decide +kernel)
set_option maxRecDepth 20000 in
theorem gX4_sameSeal_X4_sealBy : GoodIn wsX4_sameSeal (wsV RX4 43 RX4 yX4_sealBy wsX4_sealBy) := goodIn_app (goodIn_of _ (by decide +kernel)) ggX4_sameSeal_X4_sealBy
set_option maxRecDepth 20000 in
theorem ggX4_sameSeal_X4_rightSeal : GoodIn wsX4_sameSeal wsX4_rightSeal := goodIn_r _ [22, 11, 12, 13, 5, 14, 7, 15, 16, 17, 18, 23, 24, 25, 26, 27, 28, 29, 30, 31, 32, 33, 34, 35] (by decide +kernel) (by decide +kernel)
set_option maxRecDepth 20000 in
theorem gX4_sameSeal_X4_rightSeal : GoodIn wsX4_sameSeal (wsV RX4 46 RX4 yX4_rightSeal wsX4_rightSeal) := goodIn_app (goodIn_of _ (by decide +kernel)) ggX4_sameSeal_X4_rightSeal
theorem dX4_sameSeal_0 : decode cX4_sameSeal 0 = .ok (.aload_n 0, 1) := by decide +kernel
theorem dX4_sameSeal_1 : decode cX4_sameSeal 1 = .ok (.iconst 0, 1) := by decide +kernel
theorem dX4_sameSeal_2 : decode cX4_sameSeal 2 = .ok (.putfield 28, 3) := by decide +kernel
theorem dX4_sameSeal_5 : decode cX4_sameSeal 5 = .ok (.aload_n 0, 1) := by decide +kernel
theorem dX4_sameSeal_6 : decode cX4_sameSeal 6 = .ok (.iload_n 1, 1) := by decide +kernel
theorem dX4_sameSeal_7 : decode cX4_sameSeal 7 = .ok (.invokevirtual 50, 3) := by decide +kernel
theorem dX4_sameSeal_10 : decode cX4_sameSeal 10 = .ok (.ifCond .ne 5, 3) := by decide +kernel
theorem dX4_sameSeal_13 : decode cX4_sameSeal 13 = .ok (.iconst (-1), 1) := by decide +kernel
theorem dX4_sameSeal_14 : decode cX4_sameSeal 14 = .ok (.ireturn, 1) := by decide +kernel
theorem dX4_sameSeal_15 : decode cX4_sameSeal 15 = .ok (.iconst 0, 1) := by decide +kernel
theorem dX4_sameSeal_16 : decode cX4_sameSeal 16 = .ok (.istore_n 2, 1) := by decide +kernel
theorem dX4_sameSeal_17 : decode cX4_sameSeal 17 = .ok (.iload_n 2, 1) := by decide +kernel
theorem dX4_sameSeal_18 : decode cX4_sameSeal 18 = .ok (.bipush 99, 2) := by decide +kernel
theorem dX4_sameSeal_20 : decode cX4_sameSeal 20 = .ok (.if_icmp .gt 35, 3) := by decide +kernel
theorem dX4_sameSeal_23 : decode cX4_sameSeal 23 = .ok (.iload_n 2, 1) := by decide +kernel
theorem dX4_sameSeal_24 : decode cX4_sameSeal 24 = .ok (.aload_n 0, 1) := by decide +kernel
theorem dX4_sameSeal_25 : decode cX4_sameSeal 25 = .ok (.iload_n 1, 1) := by decide +kernel
theorem dX4_sameSeal_26 : decode cX4_sameSeal 26 = .ok (.iconst 0, 1) := by decide +kernel
theorem dX4_sameSeal_27 : decode cX4_sameSeal 27 = .ok (.invokevirtual 39, 3) := by decide +kernel
theorem dX4_sameSeal_30 : decode cX4_sameSeal 30 = .ok (.if_icmp .eq 19, 3) := by decide +kernel
theorem dX4_sameSeal_33 : decode cX4_sameSeal 33 = .ok (.aload_n 0, 1) := by decide +kernel
theorem dX4_sameSeal_34 : decode cX4_sameSeal 34 = .ok (.iload_n 1, 1) := by decide +kernel
theorem dX4_sameSeal_35 : decode cX4_sameSeal 35 = .ok (.iload_n 2, 1) := by decide +kernel
theorem dX4_sameSeal_36 : decode cX4_sameSeal 36 = .ok (.invokevirtual 43, 3) := by decide +kernel
theorem dX4_sameSeal_39 : decode cX4_sameSeal 39 = .ok (.aload_n 0, 1) := by decide +kernel
theorem dX4_sameSeal_40 : decode cX4_sameSeal 40 = .ok (.iload_n 1, 1) := by decide +kernel
theorem dX4_sameSeal_41 : decode cX4_sameSeal 41 = .ok (.invokevirtual 46, 3) := by decide +kernel
theorem dX4_sameSeal_44 : decode cX4_sameSeal 44 = .ok (.if_icmp .ne 5, 3) := by decide +kernel
theorem dX4_sameSeal_47 : decode cX4_sameSeal 47 = .ok (.iload_n 2, 1) := by decide +kernel
theorem dX4_sameSeal_48 : decode cX4_sameSeal 48 = .ok (.ireturn, 1) := by decide +kernel
theorem dX4_sameSeal_49 : decode cX4_sameSeal 49 = .ok (.iinc 2 1, 3) := by decide +kernel
theorem dX4_sameSeal_52 : decode cX4_sameSeal 52 = .ok (.goto (-35), 3) := by decide +kernel
theorem dX4_sameSeal_55 : decode cX4_sameSeal 55 = .ok (.bipush (-5), 2) := by decide +kernel
theorem dX4_sameSeal_57 : decode cX4_sameSeal 57 = .ok (.ireturn, 1) := by decide +kernel
