set_option maxRecDepth 20000 in
theorem ggX0_init_X1_init : GoodIn wsX0_init wsX1_init := goodIn_r _ [10, 11, 2, 3, 12, 13, 14, 15, 16, 17, 18, 19, 20, 21, 22, 23, 26, 27, 28, 29, 30, 31, 32, 33, 34, 35, 36] (by decide +kernel) (by decide +kernel)
set_option maxRecDepth 20000 in
theorem gX0_init_X1_init_n21 : GoodIn wsX0_init (wsX1_init) := ggX0_init_X1_init
theorem dX0_init_0 : decode cX0_init 0 = .ok (.aload_n 0, 1) := by decide +kernel
theorem dX0_init_1 : decode cX0_init 1 = .ok (.invokespecial 3, 3) := by decide +kernel
theorem dX0_init_4 : decode cX0_init 4 = .ok (.aload_n 0, 1) := by decide +kernel
theorem dX0_init_5 : decode cX0_init 5 = .ok (.iconst 4, 1) := by decide +kernel
theorem dX0_init_6 : decode cX0_init 6 = .ok (.anewarray 11, 3) := by decide +kernel
theorem dX0_init_9 : decode cX0_init 9 = .ok (.putfield 13, 3) := by decide +kernel
theorem dX0_init_12 : decode cX0_init 12 = .ok (.aload_n 0, 1) := by decide +kernel
theorem dX0_init_13 : decode cX0_init 13 = .ok (.iconst 0, 1) := by decide +kernel
theorem dX0_init_14 : decode cX0_init 14 = .ok (.putfield 17, 3) := by decide +kernel
theorem dX0_init_17 : decode cX0_init 17 = .ok (.iconst 0, 1) := by decide +kernel
theorem dX0_init_18 : decode cX0_init 18 = .ok (.istore_n 1, 1) := by decide +kernel
theorem dX0_init_19 : decode cX0_init 19 = .ok (.iload_n 1, 1) := by decide +kernel
theorem dX0_init_20 : decode cX0_init 20 = .ok (.iconst 4, 1) := by decide +kernel
theorem dX0_init_21 : decode cX0_init 21 = .ok (.if_icmp .ge 22, 3) := by decide +kernel
theorem dX0_init_24 : decode cX0_init 24 = .ok (.aload_n 0, 1) := by decide +kernel
theorem dX0_init_25 : decode cX0_init 25 = .ok (.getfield 13, 3) := by decide +kernel
theorem dX0_init_28 : decode cX0_init 28 = .ok (.iload_n 1, 1) := by decide +kernel
theorem dX0_init_29 : decode cX0_init 29 = .ok (.new 11, 3) := by decide +kernel
theorem dX0_init_32 : decode cX0_init 32 = .ok (.dup, 1) := by decide +kernel
theorem dX0_init_33 : decode cX0_init 33 = .ok (.invokespecial 21, 3) := by decide +kernel
theorem dX0_init_36 : decode cX0_init 36 = .ok (.aastore, 1) := by decide +kernel
theorem dX0_init_37 : decode cX0_init 37 = .ok (.iinc 1 1, 3) := by decide +kernel
theorem dX0_init_40 : decode cX0_init 40 = .ok (.goto (-21), 3) := by decide +kernel
theorem dX0_init_43 : decode cX0_init 43 = .ok (.return_, 1) := by decide +kernel
theorem dX0_states_0 : decode cX0_states 0 = .ok (.aload_n 0, 1) := by decide +kernel
theorem dX0_states_1 : decode cX0_states 1 = .ok (.getfield 17, 3) := by decide +kernel
theorem dX0_states_4 : decode cX0_states 4 = .ok (.ireturn, 1) := by decide +kernel
set_option maxRecDepth 20000 in
theorem ggX0_add_X0_dropOldest : GoodIn wsX0_add wsX0_dropOldest := goodIn_r _ [7, 2, 1, 28, 29] (by decide +kernel) (by decide +kernel)
set_option maxRecDepth 20000 in
theorem gX0_add_X0_dropOldest : GoodIn wsX0_add (wsV RX0 22 RX0 yX0_dropOldest wsX0_dropOldest) := goodIn_app (goodIn_of _ (by decide +kernel)) ggX0_add_X0_dropOldest
set_option maxRecDepth 20000 in
theorem ggX0_add_X1_copyFrom : GoodIn wsX0_add wsX1_copyFrom := goodIn_r _ [12, 13, 14, 15, 16, 17, 18, 19, 20, 21, 22, 23, 24, 25, 26, 27, 30, 31, 32, 33, 34, 35, 36, 37, 38, 39, 40] (by decide +kernel) (by decide +kernel)
set_option maxRecDepth 20000 in
theorem gX0_add_X1_copyFrom : GoodIn wsX0_add (wsV RX0 25 RX1 yX1_copyFrom wsX1_copyFrom) := goodIn_app (goodIn_of _ (by decide +kernel)) ggX0_add_X1_copyFrom
theorem dX0_add_0 : decode cX0_add 0 = .ok (.aload_n 0, 1) := by decide +kernel
theorem dX0_add_1 : decode cX0_add 1 = .ok (.getfield 17, 3) := by decide +kernel
theorem dX0_add_4 : decode cX0_add 4 = .ok (.iconst 4, 1) := by decide +kernel
theorem dX0_add_5 : decode cX0_add 5 = .ok (.if_icmp .lt 7, 3) := by decide +kernel
theorem dX0_add_8 : decode cX0_add 8 = .ok (.aload_n 0, 1) := by decide +kernel
theorem dX0_add_9 : decode cX0_add 9 = .ok (.invokevirtual 22, 3) := by decide +kernel
theorem dX0_add_12 : decode cX0_add 12 = .ok (.aload_n 0, 1) := by decide +kernel
theorem dX0_add_13 : decode cX0_add 13 = .ok (.getfield 13, 3) := by decide +kernel
theorem dX0_add_16 : decode cX0_add 16 = .ok (.aload_n 0, 1) := by decide +kernel
theorem dX0_add_17 : decode cX0_add 17 = .ok (.getfield 17, 3) := by decide +kernel
theorem dX0_add_20 : decode cX0_add 20 = .ok (.aaload, 1) := by decide +kernel
theorem dX0_add_21 : decode cX0_add 21 = .ok (.astore_n 2, 1) := by decide +kernel
theorem dX0_add_22 : decode cX0_add 22 = .ok (.aload_n 2, 1) := by decide +kernel
theorem dX0_add_23 : decode cX0_add 23 = .ok (.ifnull 18, 3) := by decide +kernel
theorem dX0_add_26 : decode cX0_add 26 = .ok (.aload_n 2, 1) := by decide +kernel
theorem dX0_add_27 : decode cX0_add 27 = .ok (.aload_n 1, 1) := by decide +kernel
theorem dX0_add_28 : decode cX0_add 28 = .ok (.invokevirtual 25, 3) := by decide +kernel
theorem dX0_add_31 : decode cX0_add 31 = .ok (.aload_n 0, 1) := by decide +kernel
theorem dX0_add_32 : decode cX0_add 32 = .ok (.dup, 1) := by decide +kernel
theorem dX0_add_33 : decode cX0_add 33 = .ok (.getfield 17, 3) := by decide +kernel
theorem dX0_add_36 : decode cX0_add 36 = .ok (.iconst 1, 1) := by decide +kernel
theorem dX0_add_37 : decode cX0_add 37 = .ok (.iadd, 1) := by decide +kernel
theorem dX0_add_38 : decode cX0_add 38 = .ok (.putfield 17, 3) := by decide +kernel
theorem dX0_add_41 : decode cX0_add 41 = .ok (.return_, 1) := by decide +kernel
theorem dX0_dropOldest_0 : decode cX0_dropOldest 0 = .ok (.aload_n 0, 1) := by decide +kernel
theorem dX0_dropOldest_1 : decode cX0_dropOldest 1 = .ok (.getfield 13, 3) := by decide +kernel
theorem dX0_dropOldest_4 : decode cX0_dropOldest 4 = .ok (.iconst 0, 1) := by decide +kernel
theorem dX0_dropOldest_5 : decode cX0_dropOldest 5 = .ok (.aaload, 1) := by decide +kernel
theorem dX0_dropOldest_6 : decode cX0_dropOldest 6 = .ok (.astore_n 1, 1) := by decide +kernel
theorem dX0_dropOldest_7 : decode cX0_dropOldest 7 = .ok (.iconst 1, 1) := by decide +kernel
theorem dX0_dropOldest_8 : decode cX0_dropOldest 8 = .ok (.istore_n 2, 1) := by decide +kernel
theorem dX0_dropOldest_9 : decode cX0_dropOldest 9 = .ok (.iload_n 2, 1) := by decide +kernel
theorem dX0_dropOldest_10 : decode cX0_dropOldest 10 = .ok (.iconst 4, 1) := by decide +kernel
theorem dX0_dropOldest_11 : decode cX0_dropOldest 11 = .ok (.if_icmp .ge 23, 3) := by decide +kernel
theorem dX0_dropOldest_14 : decode cX0_dropOldest 14 = .ok (.aload_n 0, 1) := by decide +kernel
theorem dX0_dropOldest_15 : decode cX0_dropOldest 15 = .ok (.getfield 13, 3) := by decide +kernel
theorem dX0_dropOldest_18 : decode cX0_dropOldest 18 = .ok (.iload_n 2, 1) := by decide +kernel
theorem dX0_dropOldest_19 : decode cX0_dropOldest 19 = .ok (.iconst 1, 1) := by decide +kernel
theorem dX0_dropOldest_20 : decode cX0_dropOldest 20 = .ok (.isub, 1) := by decide +kernel
theorem dX0_dropOldest_21 : decode cX0_dropOldest 21 = .ok (.aload_n 0, 1) := by decide +kernel
theorem dX0_dropOldest_22 : decode cX0_dropOldest 22 = .ok (.getfield 13, 3) := by decide +kernel
theorem dX0_dropOldest_25 : decode cX0_dropOldest 25 = .ok (.iload_n 2, 1) := by decide +kernel
theorem dX0_dropOldest_26 : decode cX0_dropOldest 26 = .ok (.aaload, 1) := by decide +kernel
theorem dX0_dropOldest_27 : decode cX0_dropOldest 27 = .ok (.aastore, 1) := by decide +kernel
theorem dX0_dropOldest_28 : decode cX0_dropOldest 28 = .ok (.iinc 2 1, 3) := by decide +kernel
theorem dX0_dropOldest_31 : decode cX0_dropOldest 31 = .ok (.goto (-22), 3) := by decide +kernel
theorem dX0_dropOldest_34 : decode cX0_dropOldest 34 = .ok (.aload_n 0, 1) := by decide +kernel
theorem dX0_dropOldest_35 : decode cX0_dropOldest 35 = .ok (.getfield 13, 3) := by decide +kernel
theorem dX0_dropOldest_38 : decode cX0_dropOldest 38 = .ok (.iconst 3, 1) := by decide +kernel
theorem dX0_dropOldest_39 : decode cX0_dropOldest 39 = .ok (.aload_n 1, 1) := by decide +kernel
theorem dX0_dropOldest_40 : decode cX0_dropOldest 40 = .ok (.aastore, 1) := by decide +kernel
theorem dX0_dropOldest_41 : decode cX0_dropOldest 41 = .ok (.aload_n 0, 1) := by decide +kernel
theorem dX0_dropOldest_42 : decode cX0_dropOldest 42 = .ok (.iconst 3, 1) := by decide +kernel
theorem dX0_dropOldest_43 : decode cX0_dropOldest 43 = .ok (.putfield 17, 3) := by decide +kernel
theorem dX0_dropOldest_46 : decode cX0_dropOldest 46 = .ok (.return_, 1) := by decide +kernel
set_option maxRecDepth 20000 in
theorem ggX0_takeLatest_X1_copyFrom : GoodIn wsX0_takeLatest wsX1_copyFrom := goodIn_r _ [7, 8, 9, 10, 11, 12, 13, 14, 15, 16, 17, 18, 19, 20, 21, 22, 25, 26, 27, 28, 29, 30, 31, 32, 33, 34, 35] (by decide +kernel) (by decide +kernel)
set_option maxRecDepth 20000 in
theorem gX0_takeLatest_X1_copyFrom : GoodIn wsX0_takeLatest (wsV RX0 25 RX1 yX1_copyFrom wsX1_copyFrom) := goodIn_app (goodIn_of _ (by decide +kernel)) ggX0_takeLatest_X1_copyFrom
theorem dX0_takeLatest_0 : decode cX0_takeLatest 0 = .ok (.aload_n 0, 1) := by decide +kernel
theorem dX0_takeLatest_1 : decode cX0_takeLatest 1 = .ok (.getfield 17, 3) := by decide +kernel
theorem dX0_takeLatest_4 : decode cX0_takeLatest 4 = .ok (.ifCond .le 7, 3) := by decide +kernel
theorem dX0_takeLatest_7 : decode cX0_takeLatest 7 = .ok (.aload_n 1, 1) := by decide +kernel
theorem dX0_takeLatest_8 : decode cX0_takeLatest 8 = .ok (.ifnonnull 6, 3) := by decide +kernel
theorem dX0_takeLatest_11 : decode cX0_takeLatest 11 = .ok (.bipush (-5), 2) := by decide +kernel
theorem dX0_takeLatest_13 : decode cX0_takeLatest 13 = .ok (.ireturn, 1) := by decide +kernel
theorem dX0_takeLatest_14 : decode cX0_takeLatest 14 = .ok (.aload_n 0, 1) := by decide +kernel
theorem dX0_takeLatest_15 : decode cX0_takeLatest 15 = .ok (.dup, 1) := by decide +kernel
theorem dX0_takeLatest_16 : decode cX0_takeLatest 16 = .ok (.getfield 17, 3) := by decide +kernel
theorem dX0_takeLatest_19 : decode cX0_takeLatest 19 = .ok (.iconst 1, 1) := by decide +kernel
theorem dX0_takeLatest_20 : decode cX0_takeLatest 20 = .ok (.isub, 1) := by decide +kernel
theorem dX0_takeLatest_21 : decode cX0_takeLatest 21 = .ok (.putfield 17, 3) := by decide +kernel
theorem dX0_takeLatest_24 : decode cX0_takeLatest 24 = .ok (.aload_n 1, 1) := by decide +kernel
theorem dX0_takeLatest_25 : decode cX0_takeLatest 25 = .ok (.aload_n 0, 1) := by decide +kernel
theorem dX0_takeLatest_26 : decode cX0_takeLatest 26 = .ok (.getfield 13, 3) := by decide +kernel
theorem dX0_takeLatest_29 : decode cX0_takeLatest 29 = .ok (.aload_n 0, 1) := by decide +kernel
theorem dX0_takeLatest_30 : decode cX0_takeLatest 30 = .ok (.getfield 17, 3) := by decide +kernel
theorem dX0_takeLatest_33 : decode cX0_takeLatest 33 = .ok (.aaload, 1) := by decide +kernel
theorem dX0_takeLatest_34 : decode cX0_takeLatest 34 = .ok (.invokevirtual 25, 3) := by decide +kernel
theorem dX0_takeLatest_37 : decode cX0_takeLatest 37 = .ok (.aload_n 0, 1) := by decide +kernel
theorem dX0_takeLatest_38 : decode cX0_takeLatest 38 = .ok (.getfield 17, 3) := by decide +kernel
theorem dX0_takeLatest_41 : decode cX0_takeLatest 41 = .ok (.ireturn, 1) := by decide +kernel
theorem dX1_init_0 : decode cX1_init 0 = .ok (.aload_n 0, 1) := by decide +kernel
theorem dX1_init_1 : decode cX1_init 1 = .ok (.invokespecial 3, 3) := by decide +kernel
theorem dX1_init_4 : decode cX1_init 4 = .ok (.aload_n 0, 1) := by decide +kernel
theorem dX1_init_5 : decode cX1_init 5 = .ok (.iconst 5, 1) := by decide +kernel
theorem dX1_init_6 : decode cX1_init 6 = .ok (.newarray .int, 2) := by decide +kernel
theorem dX1_init_8 : decode cX1_init 8 = .ok (.dup, 1) := by decide +kernel
theorem dX1_init_9 : decode cX1_init 9 = .ok (.iconst 0, 1) := by decide +kernel
theorem dX1_init_10 : decode cX1_init 10 = .ok (.bipush 31, 2) := by decide +kernel
theorem dX1_init_12 : decode cX1_init 12 = .ok (.iastore, 1) := by decide +kernel
theorem dX1_init_13 : decode cX1_init 13 = .ok (.dup, 1) := by decide +kernel
theorem dX1_init_14 : decode cX1_init 14 = .ok (.iconst 1, 1) := by decide +kernel
theorem dX1_init_15 : decode cX1_init 15 = .ok (.bipush 17, 2) := by decide +kernel
theorem dX1_init_17 : decode cX1_init 17 = .ok (.iastore, 1) := by decide +kernel
theorem dX1_init_18 : decode cX1_init 18 = .ok (.dup, 1) := by decide +kernel
theorem dX1_init_19 : decode cX1_init 19 = .ok (.iconst 2, 1) := by decide +kernel
theorem dX1_init_20 : decode cX1_init 20 = .ok (.bipush 97, 2) := by decide +kernel
theorem dX1_init_22 : decode cX1_init 22 = .ok (.iastore, 1) := by decide +kernel
theorem dX1_init_23 : decode cX1_init 23 = .ok (.dup, 1) := by decide +kernel
theorem dX1_init_24 : decode cX1_init 24 = .ok (.iconst 3, 1) := by decide +kernel
theorem dX1_init_25 : decode cX1_init 25 = .ok (.bipush 10, 2) := by decide +kernel
theorem dX1_init_27 : decode cX1_init 27 = .ok (.iastore, 1) := by decide +kernel
theorem dX1_init_28 : decode cX1_init 28 = .ok (.dup, 1) := by decide +kernel
theorem dX1_init_29 : decode cX1_init 29 = .ok (.iconst 4, 1) := by decide +kernel
theorem dX1_init_30 : decode cX1_init 30 = .ok (.iconst 5, 1) := by decide +kernel
theorem dX1_init_31 : decode cX1_init 31 = .ok (.iastore, 1) := by decide +kernel
theorem dX1_init_32 : decode cX1_init 32 = .ok (.putfield 9, 3) := by decide +kernel
theorem dX1_init_35 : decode cX1_init 35 = .ok (.aload_n 0, 1) := by decide +kernel
theorem dX1_init_36 : decode cX1_init 36 = .ok (.bipush 24, 2) := by decide +kernel
theorem dX1_init_38 : decode cX1_init 38 = .ok (.newarray .int, 2) := by decide +kernel
theorem dX1_init_40 : decode cX1_init 40 = .ok (.putfield 15, 3) := by decide +kernel
theorem dX1_init_43 : decode cX1_init 43 = .ok (.aload_n 0, 1) := by decide +kernel
theorem dX1_init_44 : decode cX1_init 44 = .ok (.bipush 24, 2) := by decide +kernel
theorem dX1_init_46 : decode cX1_init 46 = .ok (.newarray .int, 2) := by decide +kernel
theorem dX1_init_48 : decode cX1_init 48 = .ok (.putfield 18, 3) := by decide +kernel
theorem dX1_init_51 : decode cX1_init 51 = .ok (.aload_n 0, 1) := by decide +kernel
theorem dX1_init_52 : decode cX1_init 52 = .ok (.bipush 24, 2) := by decide +kernel
theorem dX1_init_54 : decode cX1_init 54 = .ok (.newarray .int, 2) := by decide +kernel
theorem dX1_init_56 : decode cX1_init 56 = .ok (.putfield 21, 3) := by decide +kernel
theorem dX1_init_59 : decode cX1_init 59 = .ok (.aload_n 0, 1) := by decide +kernel
theorem dX1_init_60 : decode cX1_init 60 = .ok (.bipush 24, 2) := by decide +kernel
theorem dX1_init_62 : decode cX1_init 62 = .ok (.newarray .int, 2) := by decide +kernel
theorem dX1_init_64 : decode cX1_init 64 = .ok (.putfield 24, 3) := by decide +kernel
theorem dX1_init_67 : decode cX1_init 67 = .ok (.aload_n 0, 1) := by decide +kernel
theorem dX1_init_68 : decode cX1_init 68 = .ok (.bipush 24, 2) := by decide +kernel
theorem dX1_init_70 : decode cX1_init 70 = .ok (.newarray .int, 2) := by decide +kernel
theorem dX1_init_72 : decode cX1_init 72 = .ok (.putfield 27, 3) := by decide +kernel
theorem dX1_init_75 : decode cX1_init 75 = .ok (.aload_n 0, 1) := by decide +kernel
theorem dX1_init_76 : decode cX1_init 76 = .ok (.iconst 0, 1) := by decide +kernel
theorem dX1_init_77 : decode cX1_init 77 = .ok (.putfield 30, 3) := by decide +kernel
theorem dX1_init_80 : decode cX1_init 80 = .ok (.aload_n 0, 1) := by decide +kernel
theorem dX1_init_81 : decode cX1_init 81 = .ok (.iconst 0, 1) := by decide +kernel
theorem dX1_init_82 : decode cX1_init 82 = .ok (.putfield 34, 3) := by decide +kernel
theorem dX1_init_85 : decode cX1_init 85 = .ok (.aload_n 0, 1) := by decide +kernel
theorem dX1_init_86 : decode cX1_init 86 = .ok (.iconst 0, 1) := by decide +kernel
theorem dX1_init_87 : decode cX1_init 87 = .ok (.putfield 37, 3) := by decide +kernel
theorem dX1_init_90 : decode cX1_init 90 = .ok (.aload_n 0, 1) := by decide +kernel
theorem dX1_init_91 : decode cX1_init 91 = .ok (.iconst 0, 1) := by decide +kernel
theorem dX1_init_92 : decode cX1_init 92 = .ok (.putfield 40, 3) := by decide +kernel
theorem dX1_init_95 : decode cX1_init 95 = .ok (.aload_n 0, 1) := by decide +kernel
theorem dX1_init_96 : decode cX1_init 96 = .ok (.iconst 0, 1) := by decide +kernel
theorem dX1_init_97 : decode cX1_init 97 = .ok (.putfield 43, 3) := by decide +kernel
theorem dX1_init_100 : decode cX1_init 100 = .ok (.return_, 1) := by decide +kernel
theorem dX1_copyFrom_0 : decode cX1_copyFrom 0 = .ok (.aload_n 1, 1) := by decide +kernel
theorem dX1_copyFrom_1 : decode cX1_copyFrom 1 = .ok (.ifnonnull 4, 3) := by decide +kernel
theorem dX1_copyFrom_4 : decode cX1_copyFrom 4 = .ok (.return_, 1) := by decide +kernel
theorem dX1_copyFrom_5 : decode cX1_copyFrom 5 = .ok (.aload_n 1, 1) := by decide +kernel
theorem dX1_copyFrom_6 : decode cX1_copyFrom 6 = .ok (.getfield 9, 3) := by decide +kernel
theorem dX1_copyFrom_9 : decode cX1_copyFrom 9 = .ok (.iconst 0, 1) := by decide +kernel
theorem dX1_copyFrom_10 : decode cX1_copyFrom 10 = .ok (.aload_n 0, 1) := by decide +kernel
theorem dX1_copyFrom_11 : decode cX1_copyFrom 11 = .ok (.getfield 9, 3) := by decide +kernel
theorem dX1_copyFrom_14 : decode cX1_copyFrom 14 = .ok (.iconst 0, 1) := by decide +kernel
theorem dX1_copyFrom_15 : decode cX1_copyFrom 15 = .ok (.iconst 5, 1) := by decide +kernel
theorem dX1_copyFrom_16 : decode cX1_copyFrom 16 = .ok (.invokestatic 46, 3) := by decide +kernel
theorem dX1_copyFrom_19 : decode cX1_copyFrom 19 = .ok (.aload_n 1, 1) := by decide +kernel
theorem dX1_copyFrom_20 : decode cX1_copyFrom 20 = .ok (.getfield 15, 3) := by decide +kernel
theorem dX1_copyFrom_23 : decode cX1_copyFrom 23 = .ok (.iconst 0, 1) := by decide +kernel
theorem dX1_copyFrom_24 : decode cX1_copyFrom 24 = .ok (.aload_n 0, 1) := by decide +kernel
theorem dX1_copyFrom_25 : decode cX1_copyFrom 25 = .ok (.getfield 15, 3) := by decide +kernel
theorem dX1_copyFrom_28 : decode cX1_copyFrom 28 = .ok (.iconst 0, 1) := by decide +kernel
theorem dX1_copyFrom_29 : decode cX1_copyFrom 29 = .ok (.bipush 24, 2) := by decide +kernel
theorem dX1_copyFrom_31 : decode cX1_copyFrom 31 = .ok (.invokestatic 46, 3) := by decide +kernel
theorem dX1_copyFrom_34 : decode cX1_copyFrom 34 = .ok (.aload_n 1, 1) := by decide +kernel
theorem dX1_copyFrom_35 : decode cX1_copyFrom 35 = .ok (.getfield 18, 3) := by decide +kernel
theorem dX1_copyFrom_38 : decode cX1_copyFrom 38 = .ok (.iconst 0, 1) := by decide +kernel
theorem dX1_copyFrom_39 : decode cX1_copyFrom 39 = .ok (.aload_n 0, 1) := by decide +kernel
theorem dX1_copyFrom_40 : decode cX1_copyFrom 40 = .ok (.getfield 18, 3) := by decide +kernel
theorem dX1_copyFrom_43 : decode cX1_copyFrom 43 = .ok (.iconst 0, 1) := by decide +kernel
theorem dX1_copyFrom_44 : decode cX1_copyFrom 44 = .ok (.bipush 24, 2) := by decide +kernel
theorem dX1_copyFrom_46 : decode cX1_copyFrom 46 = .ok (.invokestatic 46, 3) := by decide +kernel
theorem dX1_copyFrom_49 : decode cX1_copyFrom 49 = .ok (.aload_n 1, 1) := by decide +kernel
theorem dX1_copyFrom_50 : decode cX1_copyFrom 50 = .ok (.getfield 21, 3) := by decide +kernel
theorem dX1_copyFrom_53 : decode cX1_copyFrom 53 = .ok (.iconst 0, 1) := by decide +kernel
theorem dX1_copyFrom_54 : decode cX1_copyFrom 54 = .ok (.aload_n 0, 1) := by decide +kernel
theorem dX1_copyFrom_55 : decode cX1_copyFrom 55 = .ok (.getfield 21, 3) := by decide +kernel
theorem dX1_copyFrom_58 : decode cX1_copyFrom 58 = .ok (.iconst 0, 1) := by decide +kernel
theorem dX1_copyFrom_59 : decode cX1_copyFrom 59 = .ok (.bipush 24, 2) := by decide +kernel
theorem dX1_copyFrom_61 : decode cX1_copyFrom 61 = .ok (.invokestatic 46, 3) := by decide +kernel
theorem dX1_copyFrom_64 : decode cX1_copyFrom 64 = .ok (.aload_n 1, 1) := by decide +kernel
theorem dX1_copyFrom_65 : decode cX1_copyFrom 65 = .ok (.getfield 24, 3) := by decide +kernel
theorem dX1_copyFrom_68 : decode cX1_copyFrom 68 = .ok (.iconst 0, 1) := by decide +kernel
theorem dX1_copyFrom_69 : decode cX1_copyFrom 69 = .ok (.aload_n 0, 1) := by decide +kernel
theorem dX1_copyFrom_70 : decode cX1_copyFrom 70 = .ok (.getfield 24, 3) := by decide +kernel
theorem dX1_copyFrom_73 : decode cX1_copyFrom 73 = .ok (.iconst 0, 1) := by decide +kernel
theorem dX1_copyFrom_74 : decode cX1_copyFrom 74 = .ok (.bipush 24, 2) := by decide +kernel
theorem dX1_copyFrom_76 : decode cX1_copyFrom 76 = .ok (.invokestatic 46, 3) := by decide +kernel
theorem dX1_copyFrom_79 : decode cX1_copyFrom 79 = .ok (.aload_n 1, 1) := by decide +kernel
theorem dX1_copyFrom_80 : decode cX1_copyFrom 80 = .ok (.getfield 27, 3) := by decide +kernel
theorem dX1_copyFrom_83 : decode cX1_copyFrom 83 = .ok (.iconst 0, 1) := by decide +kernel
theorem dX1_copyFrom_84 : decode cX1_copyFrom 84 = .ok (.aload_n 0, 1) := by decide +kernel
theorem dX1_copyFrom_85 : decode cX1_copyFrom 85 = .ok (.getfield 27, 3) := by decide +kernel
theorem dX1_copyFrom_88 : decode cX1_copyFrom 88 = .ok (.iconst 0, 1) := by decide +kernel
theorem dX1_copyFrom_89 : decode cX1_copyFrom 89 = .ok (.bipush 24, 2) := by decide +kernel
theorem dX1_copyFrom_91 : decode cX1_copyFrom 91 = .ok (.invokestatic 46, 3) := by decide +kernel
theorem dX1_copyFrom_94 : decode cX1_copyFrom 94 = .ok (.aload_n 0, 1) := by decide +kernel
theorem dX1_copyFrom_95 : decode cX1_copyFrom 95 = .ok (.aload_n 1, 1) := by decide +kernel
theorem dX1_copyFrom_96 : decode cX1_copyFrom 96 = .ok (.getfield 30, 3) := by decide +kernel
theorem dX1_copyFrom_99 : decode cX1_copyFrom 99 = .ok (.putfield 30, 3) := by decide +kernel
theorem dX1_copyFrom_102 : decode cX1_copyFrom 102 = .ok (.aload_n 0, 1) := by decide +kernel
theorem dX1_copyFrom_103 : decode cX1_copyFrom 103 = .ok (.aload_n 1, 1) := by decide +kernel
theorem dX1_copyFrom_104 : decode cX1_copyFrom 104 = .ok (.getfield 34, 3) := by decide +kernel
theorem dX1_copyFrom_107 : decode cX1_copyFrom 107 = .ok (.putfield 34, 3) := by decide +kernel
theorem dX1_copyFrom_110 : decode cX1_copyFrom 110 = .ok (.aload_n 0, 1) := by decide +kernel
theorem dX1_copyFrom_111 : decode cX1_copyFrom 111 = .ok (.aload_n 1, 1) := by decide +kernel
theorem dX1_copyFrom_112 : decode cX1_copyFrom 112 = .ok (.getfield 37, 3) := by decide +kernel
theorem dX1_copyFrom_115 : decode cX1_copyFrom 115 = .ok (.putfield 37, 3) := by decide +kernel
theorem dX1_copyFrom_118 : decode cX1_copyFrom 118 = .ok (.aload_n 0, 1) := by decide +kernel
theorem dX1_copyFrom_119 : decode cX1_copyFrom 119 = .ok (.aload_n 1, 1) := by decide +kernel
theorem dX1_copyFrom_120 : decode cX1_copyFrom 120 = .ok (.getfield 40, 3) := by decide +kernel
theorem dX1_copyFrom_123 : decode cX1_copyFrom 123 = .ok (.putfield 40, 3) := by decide +kernel
theorem dX1_copyFrom_126 : decode cX1_copyFrom 126 = .ok (.aload_n 0, 1) := by decide +kernel
theorem dX1_copyFrom_127 : decode cX1_copyFrom 127 = .ok (.aload_n 1, 1) := by decide +kernel
theorem dX1_copyFrom_128 : decode cX1_copyFrom 128 = .ok (.getfield 43, 3) := by decide +kernel
theorem dX1_copyFrom_131 : decode cX1_copyFrom 131 = .ok (.putfield 43, 3) := by decide +kernel
theorem dX1_copyFrom_134 : decode cX1_copyFrom 134 = .ok (.return_, 1) := by decide +kernel
theorem dX1_carts_0 : decode cX1_carts 0 = .ok (.aload_n 0, 1) := by decide +kernel
theorem dX1_carts_1 : decode cX1_carts 1 = .ok (.getfield 30, 3) := by decide +kernel
theorem dX1_carts_4 : decode cX1_carts 4 = .ok (.ireturn, 1) := by decide +kernel
set_option maxRecDepth 20000 in
theorem ggX1_admit_X1_knows : GoodIn wsX1_admit wsX1_knows := goodIn_r _ [12, 1, 25, 26, 27, 28, 29, 30, 31, 32, 33, 34, 35] (by decide +kernel) (by decide +kernel)
set_option maxRecDepth 20000 in
theorem gX1_admit_X1_knows : GoodIn wsX1_admit (wsV RX1 52 RX1 yX1_knows wsX1_knows) := goodIn_app (goodIn_of _ (by decide +kernel)) ggX1_admit_X1_knows
set_option maxRecDepth 20000 in
theorem ggX1_admit_X1_isSacks : GoodIn wsX1_admit wsX1_isSacks := goodIn_r _ [15] (by decide +kernel) (by decide +kernel)
set_option maxRecDepth 20000 in
theorem gX1_admit_X1_isSacks : GoodIn wsX1_admit (va_wsS RX1 56 yX1_isSacks wsX1_isSacks) := goodIn_app (goodIn_of _ (by decide +kernel)) ggX1_admit_X1_isSacks
set_option maxRecDepth 20000 in
theorem ggX1_admit_X1_rightSeal : GoodIn wsX1_admit wsX1_rightSeal := goodIn_r _ [19, 2, 20, 21, 22, 11, 23, 24, 4, 1, 6, 25, 26, 27, 28, 29, 30, 31, 32, 33, 34, 35] (by decide +kernel) (by decide +kernel)
set_option maxRecDepth 20000 in
theorem gX1_admit_X1_rightSeal : GoodIn wsX1_admit (wsV RX1 59 RX1 yX1_rightSeal wsX1_rightSeal) := goodIn_app (goodIn_of _ (by decide +kernel)) ggX1_admit_X1_rightSeal
theorem dX1_admit_0 : decode cX1_admit 0 = .ok (.iload_n 3, 1) := by decide +kernel
theorem dX1_admit_1 : decode cX1_admit 1 = .ok (.iconst (-1), 1) := by decide +kernel
theorem dX1_admit_2 : decode cX1_admit 2 = .ok (.if_icmp .eq 13, 3) := by decide +kernel
theorem dX1_admit_5 : decode cX1_admit 5 = .ok (.aload_n 0, 1) := by decide +kernel
theorem dX1_admit_6 : decode cX1_admit 6 = .ok (.iload_n 3, 1) := by decide +kernel
theorem dX1_admit_7 : decode cX1_admit 7 = .ok (.invokevirtual 52, 3) := by decide +kernel
theorem dX1_admit_10 : decode cX1_admit 10 = .ok (.ifCond .ne 5, 3) := by decide +kernel
theorem dX1_admit_13 : decode cX1_admit 13 = .ok (.iconst (-1), 1) := by decide +kernel
theorem dX1_admit_14 : decode cX1_admit 14 = .ok (.ireturn, 1) := by decide +kernel
theorem dX1_admit_15 : decode cX1_admit 15 = .ok (.iload_n 1, 1) := by decide +kernel
theorem dX1_admit_16 : decode cX1_admit 16 = .ok (.invokestatic 56, 3) := by decide +kernel
theorem dX1_admit_19 : decode cX1_admit 19 = .ok (.ifCond .eq 10, 3) := by decide +kernel
theorem dX1_admit_22 : decode cX1_admit 22 = .ok (.iload_n 2, 1) := by decide +kernel
theorem dX1_admit_23 : decode cX1_admit 23 = .ok (.invokestatic 56, 3) := by decide +kernel
theorem dX1_admit_26 : decode cX1_admit 26 = .ok (.ifCond .ne 6, 3) := by decide +kernel
theorem dX1_admit_29 : decode cX1_admit 29 = .ok (.bipush (-2), 2) := by decide +kernel
theorem dX1_admit_31 : decode cX1_admit 31 = .ok (.ireturn, 1) := by decide +kernel
theorem dX1_admit_32 : decode cX1_admit 32 = .ok (.aload_n 0, 1) := by decide +kernel
theorem dX1_admit_33 : decode cX1_admit 33 = .ok (.getfield 30, 3) := by decide +kernel
theorem dX1_admit_36 : decode cX1_admit 36 = .ok (.bipush 24, 2) := by decide +kernel
theorem dX1_admit_38 : decode cX1_admit 38 = .ok (.if_icmp .lt 6, 3) := by decide +kernel
theorem dX1_admit_41 : decode cX1_admit 41 = .ok (.bipush (-3), 2) := by decide +kernel
theorem dX1_admit_43 : decode cX1_admit 43 = .ok (.ireturn, 1) := by decide +kernel
theorem dX1_admit_44 : decode cX1_admit 44 = .ok (.aload_n 0, 1) := by decide +kernel
theorem dX1_admit_45 : decode cX1_admit 45 = .ok (.getfield 30, 3) := by decide +kernel
theorem dX1_admit_48 : decode cX1_admit 48 = .ok (.istore 4, 2) := by decide +kernel
theorem dX1_admit_50 : decode cX1_admit 50 = .ok (.aload_n 0, 1) := by decide +kernel
theorem dX1_admit_51 : decode cX1_admit 51 = .ok (.dup, 1) := by decide +kernel
theorem dX1_admit_52 : decode cX1_admit 52 = .ok (.getfield 30, 3) := by decide +kernel
theorem dX1_admit_55 : decode cX1_admit 55 = .ok (.iconst 1, 1) := by decide +kernel
theorem dX1_admit_56 : decode cX1_admit 56 = .ok (.iadd, 1) := by decide +kernel
theorem dX1_admit_57 : decode cX1_admit 57 = .ok (.putfield 30, 3) := by decide +kernel
theorem dX1_admit_60 : decode cX1_admit 60 = .ok (.aload_n 0, 1) := by decide +kernel
theorem dX1_admit_61 : decode cX1_admit 61 = .ok (.getfield 15, 3) := by decide +kernel
theorem dX1_admit_64 : decode cX1_admit 64 = .ok (.iload 4, 2) := by decide +kernel
theorem dX1_admit_66 : decode cX1_admit 66 = .ok (.iload_n 1, 1) := by decide +kernel
theorem dX1_admit_67 : decode cX1_admit 67 = .ok (.iastore, 1) := by decide +kernel
theorem dX1_admit_68 : decode cX1_admit 68 = .ok (.aload_n 0, 1) := by decide +kernel
theorem dX1_admit_69 : decode cX1_admit 69 = .ok (.getfield 18, 3) := by decide +kernel
theorem dX1_admit_72 : decode cX1_admit 72 = .ok (.iload 4, 2) := by decide +kernel
theorem dX1_admit_74 : decode cX1_admit 74 = .ok (.iload_n 2, 1) := by decide +kernel
theorem dX1_admit_75 : decode cX1_admit 75 = .ok (.iastore, 1) := by decide +kernel
theorem dX1_admit_76 : decode cX1_admit 76 = .ok (.aload_n 0, 1) := by decide +kernel
theorem dX1_admit_77 : decode cX1_admit 77 = .ok (.getfield 21, 3) := by decide +kernel
theorem dX1_admit_80 : decode cX1_admit 80 = .ok (.iload 4, 2) := by decide +kernel
theorem dX1_admit_82 : decode cX1_admit 82 = .ok (.iload_n 3, 1) := by decide +kernel
theorem dX1_admit_83 : decode cX1_admit 83 = .ok (.iastore, 1) := by decide +kernel
theorem dX1_admit_84 : decode cX1_admit 84 = .ok (.aload_n 0, 1) := by decide +kernel
theorem dX1_admit_85 : decode cX1_admit 85 = .ok (.getfield 27, 3) := by decide +kernel
theorem dX1_admit_88 : decode cX1_admit 88 = .ok (.iload 4, 2) := by decide +kernel
theorem dX1_admit_90 : decode cX1_admit 90 = .ok (.iconst 0, 1) := by decide +kernel
theorem dX1_admit_91 : decode cX1_admit 91 = .ok (.iastore, 1) := by decide +kernel
theorem dX1_admit_92 : decode cX1_admit 92 = .ok (.aload_n 0, 1) := by decide +kernel
theorem dX1_admit_93 : decode cX1_admit 93 = .ok (.getfield 24, 3) := by decide +kernel
theorem dX1_admit_96 : decode cX1_admit 96 = .ok (.iload 4, 2) := by decide +kernel
theorem dX1_admit_98 : decode cX1_admit 98 = .ok (.aload_n 0, 1) := by decide +kernel
theorem dX1_admit_99 : decode cX1_admit 99 = .ok (.iload 4, 2) := by decide +kernel
theorem dX1_admit_101 : decode cX1_admit 101 = .ok (.invokevirtual 59, 3) := by decide +kernel
theorem dX1_admit_104 : decode cX1_admit 104 = .ok (.iastore, 1) := by decide +kernel
theorem dX1_admit_105 : decode cX1_admit 105 = .ok (.aload_n 0, 1) := by decide +kernel
theorem dX1_admit_106 : decode cX1_admit 106 = .ok (.dup, 1) := by decide +kernel
theorem dX1_admit_107 : decode cX1_admit 107 = .ok (.getfield 43, 3) := by decide +kernel
theorem dX1_admit_110 : decode cX1_admit 110 = .ok (.iload_n 1, 1) := by decide +kernel
theorem dX1_admit_111 : decode cX1_admit 111 = .ok (.iadd, 1) := by decide +kernel
theorem dX1_admit_112 : decode cX1_admit 112 = .ok (.putfield 43, 3) := by decide +kernel
theorem dX1_admit_115 : decode cX1_admit 115 = .ok (.iload 4, 2) := by decide +kernel
theorem dX1_admit_117 : decode cX1_admit 117 = .ok (.ireturn, 1) := by decide +kernel
set_option maxRecDepth 20000 in
theorem ggX1_changeClaim_X1_knows : GoodIn wsX1_changeClaim wsX1_knows := goodIn_r _ [7, 8, 18, 19, 20, 21, 22, 23, 24, 25, 26, 27, 28] (by decide +kernel) (by decide +kernel)
set_option maxRecDepth 20000 in
theorem gX1_changeClaim_X1_knows : GoodIn wsX1_changeClaim (wsV RX1 52 RX1 yX1_knows wsX1_knows) := goodIn_app (goodIn_of _ (by decide +kernel)) ggX1_changeClaim_X1_knows
set_option maxRecDepth 20000 in
theorem ggX1_changeClaim_X1_isSacks : GoodIn wsX1_changeClaim wsX1_isSacks := goodIn_r _ [11] (by decide +kernel) (by decide +kernel)
set_option maxRecDepth 20000 in
theorem gX1_changeClaim_X1_isSacks : GoodIn wsX1_changeClaim (va_wsS RX1 56 yX1_isSacks wsX1_isSacks) := goodIn_app (goodIn_of _ (by decide +kernel)) ggX1_changeClaim_X1_isSacks
set_option maxRecDepth 20000 in
theorem ggX1_changeClaim_X1_isIn : GoodIn wsX1_changeClaim wsX1_isIn := goodIn_r _ [14, 15, 16, 6, 17] (by decide +kernel) (by decide +kernel)
set_option maxRecDepth 20000 in
theorem gX1_changeClaim_X1_isIn : GoodIn wsX1_changeClaim (va_wsS RX1 63 yX1_isIn wsX1_isIn) := goodIn_app (goodIn_of _ (by decide +kernel)) ggX1_changeClaim_X1_isIn
theorem dX1_changeClaim_0 : decode cX1_changeClaim 0 = .ok (.aload_n 0, 1) := by decide +kernel
theorem dX1_changeClaim_1 : decode cX1_changeClaim 1 = .ok (.iload_n 1, 1) := by decide +kernel
theorem dX1_changeClaim_2 : decode cX1_changeClaim 2 = .ok (.invokevirtual 52, 3) := by decide +kernel
theorem dX1_changeClaim_5 : decode cX1_changeClaim 5 = .ok (.ifCond .ne 5, 3) := by decide +kernel
theorem dX1_changeClaim_8 : decode cX1_changeClaim 8 = .ok (.iconst (-1), 1) := by decide +kernel
theorem dX1_changeClaim_9 : decode cX1_changeClaim 9 = .ok (.ireturn, 1) := by decide +kernel
theorem dX1_changeClaim_10 : decode cX1_changeClaim 10 = .ok (.iload_n 2, 1) := by decide +kernel
theorem dX1_changeClaim_11 : decode cX1_changeClaim 11 = .ok (.invokestatic 56, 3) := by decide +kernel
theorem dX1_changeClaim_14 : decode cX1_changeClaim 14 = .ok (.ifCond .ne 6, 3) := by decide +kernel
theorem dX1_changeClaim_17 : decode cX1_changeClaim 17 = .ok (.bipush (-2), 2) := by decide +kernel
theorem dX1_changeClaim_19 : decode cX1_changeClaim 19 = .ok (.ireturn, 1) := by decide +kernel
theorem dX1_changeClaim_20 : decode cX1_changeClaim 20 = .ok (.aload_n 0, 1) := by decide +kernel
theorem dX1_changeClaim_21 : decode cX1_changeClaim 21 = .ok (.getfield 34, 3) := by decide +kernel
theorem dX1_changeClaim_24 : decode cX1_changeClaim 24 = .ok (.iload_n 1, 1) := by decide +kernel
theorem dX1_changeClaim_25 : decode cX1_changeClaim 25 = .ok (.invokestatic 63, 3) := by decide +kernel
theorem dX1_changeClaim_28 : decode cX1_changeClaim 28 = .ok (.ifCond .eq 6, 3) := by decide +kernel
theorem dX1_changeClaim_31 : decode cX1_changeClaim 31 = .ok (.bipush (-4), 2) := by decide +kernel
theorem dX1_changeClaim_33 : decode cX1_changeClaim 33 = .ok (.ireturn, 1) := by decide +kernel
theorem dX1_changeClaim_34 : decode cX1_changeClaim 34 = .ok (.aload_n 0, 1) := by decide +kernel
theorem dX1_changeClaim_35 : decode cX1_changeClaim 35 = .ok (.getfield 15, 3) := by decide +kernel
theorem dX1_changeClaim_38 : decode cX1_changeClaim 38 = .ok (.iload_n 1, 1) := by decide +kernel
theorem dX1_changeClaim_39 : decode cX1_changeClaim 39 = .ok (.iaload, 1) := by decide +kernel
theorem dX1_changeClaim_40 : decode cX1_changeClaim 40 = .ok (.istore_n 3, 1) := by decide +kernel
theorem dX1_changeClaim_41 : decode cX1_changeClaim 41 = .ok (.iload_n 3, 1) := by decide +kernel
theorem dX1_changeClaim_42 : decode cX1_changeClaim 42 = .ok (.iload_n 2, 1) := by decide +kernel
theorem dX1_changeClaim_43 : decode cX1_changeClaim 43 = .ok (.if_icmp .ne 6, 3) := by decide +kernel
theorem dX1_changeClaim_46 : decode cX1_changeClaim 46 = .ok (.bipush (-5), 2) := by decide +kernel
theorem dX1_changeClaim_48 : decode cX1_changeClaim 48 = .ok (.ireturn, 1) := by decide +kernel
theorem dX1_changeClaim_49 : decode cX1_changeClaim 49 = .ok (.aload_n 0, 1) := by decide +kernel
theorem dX1_changeClaim_50 : decode cX1_changeClaim 50 = .ok (.getfield 15, 3) := by decide +kernel
theorem dX1_changeClaim_53 : decode cX1_changeClaim 53 = .ok (.iload_n 1, 1) := by decide +kernel
theorem dX1_changeClaim_54 : decode cX1_changeClaim 54 = .ok (.iload_n 2, 1) := by decide +kernel
theorem dX1_changeClaim_55 : decode cX1_changeClaim 55 = .ok (.iastore, 1) := by decide +kernel
theorem dX1_changeClaim_56 : decode cX1_changeClaim 56 = .ok (.iload_n 3, 1) := by decide +kernel
theorem dX1_changeClaim_57 : decode cX1_changeClaim 57 = .ok (.ireturn, 1) := by decide +kernel
set_option maxRecDepth 20000 in
theorem ggX1_mendSeal_X1_knows : GoodIn wsX1_mendSeal wsX1_knows := goodIn_r _ [6, 7, 23, 24, 25, 26, 27, 28, 29, 30, 31, 32, 33] (by decide +kernel) (by decide +kernel)
set_option maxRecDepth 20000 in
theorem gX1_mendSeal_X1_knows : GoodIn wsX1_mendSeal (wsV RX1 52 RX1 yX1_knows wsX1_knows) := goodIn_app (goodIn_of _ (by decide +kernel)) ggX1_mendSeal_X1_knows
set_option maxRecDepth 20000 in
theorem ggX1_mendSeal_X1_isWhole : GoodIn wsX1_mendSeal wsX1_isWhole := goodIn_r _ [11, 1, 12, 13, 14, 15, 5, 16, 17, 18, 7, 23, 24, 25, 26, 27, 28, 29, 30, 31, 32, 33] (by decide +kernel) (by decide +kernel)
set_option maxRecDepth 20000 in
theorem gX1_mendSeal_X1_isWhole : GoodIn wsX1_mendSeal (wsV RX1 67 RX1 yX1_isWhole wsX1_isWhole) := goodIn_app (goodIn_of _ (by decide +kernel)) ggX1_mendSeal_X1_isWhole
set_option maxRecDepth 20000 in
theorem ggX1_mendSeal_X1_rightSeal : GoodIn wsX1_mendSeal wsX1_rightSeal := goodIn_r _ [22, 12, 13, 14, 15, 5, 16, 17, 18, 7, 1, 23, 24, 25, 26, 27, 28, 29, 30, 31, 32, 33] (by decide +kernel) (by decide +kernel)
set_option maxRecDepth 20000 in
theorem gX1_mendSeal_X1_rightSeal : GoodIn wsX1_mendSeal (wsV RX1 59 RX1 yX1_rightSeal wsX1_rightSeal) := goodIn_app (goodIn_of _ (by decide +kernel)) ggX1_mendSeal_X1_rightSeal
theorem dX1_mendSeal_0 : decode cX1_mendSeal 0 = .ok (.aload_n 0, 1) := by decide +kernel
theorem dX1_mendSeal_1 : decode cX1_mendSeal 1 = .ok (.iload_n 1, 1) := by decide +kernel
theorem dX1_mendSeal_2 : decode cX1_mendSeal 2 = .ok (.invokevirtual 52, 3) := by decide +kernel
theorem dX1_mendSeal_5 : decode cX1_mendSeal 5 = .ok (.ifCond .ne 5, 3) := by decide +kernel
theorem dX1_mendSeal_8 : decode cX1_mendSeal 8 = .ok (.iconst (-1), 1) := by decide +kernel
theorem dX1_mendSeal_9 : decode cX1_mendSeal 9 = .ok (.ireturn, 1) := by decide +kernel
theorem dX1_mendSeal_10 : decode cX1_mendSeal 10 = .ok (.aload_n 0, 1) := by decide +kernel
theorem dX1_mendSeal_11 : decode cX1_mendSeal 11 = .ok (.iload_n 1, 1) := by decide +kernel
theorem dX1_mendSeal_12 : decode cX1_mendSeal 12 = .ok (.invokevirtual 67, 3) := by decide +kernel
theorem dX1_mendSeal_15 : decode cX1_mendSeal 15 = .ok (.ifCond .eq 6, 3) := by decide +kernel
theorem dX1_mendSeal_18 : decode cX1_mendSeal 18 = .ok (.bipush (-5), 2) := by decide +kernel
theorem dX1_mendSeal_20 : decode cX1_mendSeal 20 = .ok (.ireturn, 1) := by decide +kernel
theorem dX1_mendSeal_21 : decode cX1_mendSeal 21 = .ok (.aload_n 0, 1) := by decide +kernel
theorem dX1_mendSeal_22 : decode cX1_mendSeal 22 = .ok (.getfield 24, 3) := by decide +kernel
theorem dX1_mendSeal_25 : decode cX1_mendSeal 25 = .ok (.iload_n 1, 1) := by decide +kernel
theorem dX1_mendSeal_26 : decode cX1_mendSeal 26 = .ok (.iaload, 1) := by decide +kernel
theorem dX1_mendSeal_27 : decode cX1_mendSeal 27 = .ok (.istore_n 2, 1) := by decide +kernel
theorem dX1_mendSeal_28 : decode cX1_mendSeal 28 = .ok (.aload_n 0, 1) := by decide +kernel
theorem dX1_mendSeal_29 : decode cX1_mendSeal 29 = .ok (.getfield 24, 3) := by decide +kernel
theorem dX1_mendSeal_32 : decode cX1_mendSeal 32 = .ok (.iload_n 1, 1) := by decide +kernel
theorem dX1_mendSeal_33 : decode cX1_mendSeal 33 = .ok (.aload_n 0, 1) := by decide +kernel
theorem dX1_mendSeal_34 : decode cX1_mendSeal 34 = .ok (.iload_n 1, 1) := by decide +kernel
theorem dX1_mendSeal_35 : decode cX1_mendSeal 35 = .ok (.invokevirtual 59, 3) := by decide +kernel
theorem dX1_mendSeal_38 : decode cX1_mendSeal 38 = .ok (.iastore, 1) := by decide +kernel
theorem dX1_mendSeal_39 : decode cX1_mendSeal 39 = .ok (.iload_n 2, 1) := by decide +kernel
theorem dX1_mendSeal_40 : decode cX1_mendSeal 40 = .ok (.ireturn, 1) := by decide +kernel
set_option maxRecDepth 20000 in
theorem ggX1_inspect_X1_knows : GoodIn wsX1_inspect wsX1_knows := goodIn_r _ [9, 10, 65, 66, 67, 68, 69, 70, 71, 72, 73, 74, 75] (by decide +kernel) (by decide +kernel)
set_option maxRecDepth 20000 in
theorem gX1_inspect_X1_knows : GoodIn wsX1_inspect (wsV RX1 52 RX1 yX1_knows wsX1_knows) := goodIn_app (goodIn_of _ (by decide +kernel)) ggX1_inspect_X1_knows
set_option maxRecDepth 20000 in
theorem ggX1_inspect_X1_isIn : GoodIn wsX1_inspect wsX1_isIn := goodIn_r _ [13, 14, 15, 8, 16] (by decide +kernel) (by decide +kernel)
set_option maxRecDepth 20000 in
theorem gX1_inspect_X1_isIn : GoodIn wsX1_inspect (va_wsS RX1 63 yX1_isIn wsX1_isIn) := goodIn_app (goodIn_of _ (by decide +kernel)) ggX1_inspect_X1_isIn
set_option maxRecDepth 20000 in
theorem ggX1_inspect_X1_bit : GoodIn wsX1_inspect wsX1_bit := goodIn_r _ [16] (by decide +kernel) (by decide +kernel)
set_option maxRecDepth 20000 in
theorem gX1_inspect_X1_bit : GoodIn wsX1_inspect (va_wsS RX1 70 yX1_bit wsX1_bit) := goodIn_app (goodIn_of _ (by decide +kernel)) ggX1_inspect_X1_bit
set_option maxRecDepth 20000 in
theorem ggX1_inspect_X1_ownFine : GoodIn wsX1_inspect wsX1_ownFine := goodIn_r _ [20, 21, 22, 23, 24, 25, 26, 27, 28, 29, 8, 30, 31, 32, 33, 34, 35, 36, 10, 37, 38, 39, 40, 65, 66, 67, 68, 69, 70, 71, 72, 73, 74, 75] (by decide +kernel) (by decide +kernel)
set_option maxRecDepth 20000 in
theorem gX1_inspect_X1_ownFine : GoodIn wsX1_inspect (wsV RX1 73 RX1 yX1_ownFine wsX1_ownFine) := goodIn_app (goodIn_of _ (by decide +kernel)) ggX1_inspect_X1_ownFine
set_option maxRecDepth 20000 in
theorem ggX1_inspect_X1_isLie : GoodIn wsX1_inspect wsX1_isLie := goodIn_r _ [40, 22, 65, 66, 67, 68, 69, 70, 71, 72, 73, 74, 75] (by decide +kernel) (by decide +kernel)
set_option maxRecDepth 20000 in
theorem gX1_inspect_X1_isLie : GoodIn wsX1_inspect (wsV RX1 77 RX1 yX1_isLie wsX1_isLie) := goodIn_app (goodIn_of _ (by decide +kernel)) ggX1_inspect_X1_isLie
set_option maxRecDepth 20000 in
theorem ggX1_inspect_X1_exposeLiar : GoodIn wsX1_inspect wsX1_exposeLiar := goodIn_r _ [44, 45, 4, 10, 2, 21, 14, 15, 8, 16, 46, 47, 48, 49, 36, 27, 28, 29, 30, 31, 22, 32, 33, 34, 35, 11, 12, 13, 65, 66, 67, 68, 69, 70, 71, 72, 73, 74, 75] (by decide +kernel) (by decide +kernel)
set_option maxRecDepth 20000 in
theorem gX1_inspect_X1_exposeLiar : GoodIn wsX1_inspect (wsV RX1 80 RX1 yX1_exposeLiar wsX1_exposeLiar) := goodIn_app (goodIn_of _ (by decide +kernel)) ggX1_inspect_X1_exposeLiar
set_option maxRecDepth 20000 in
theorem ggX1_inspect_X1_clearedIfHonest : GoodIn wsX1_inspect wsX1_clearedIfHonest := goodIn_r _ [53, 45, 4, 54, 55, 56, 8, 57, 36, 5, 6, 7, 9, 10, 14, 15, 16, 27, 28, 29, 30, 31, 22, 32, 33, 34, 35, 21, 65, 66, 67, 68, 69, 70, 71, 72, 73, 74, 75] (by decide +kernel) (by decide +kernel)
set_option maxRecDepth 20000 in
theorem gX1_inspect_X1_clearedIfHonest : GoodIn wsX1_inspect (wsV RX1 84 RX1 yX1_clearedIfHonest wsX1_clearedIfHonest) := goodIn_app (goodIn_of _ (by decide +kernel)) ggX1_inspect_X1_clearedIfHonest
set_option maxRecDepth 20000 in
theorem ggX1_inspect_J6_bitCount_0f7a4 : GoodIn wsX1_inspect wsJ6_bitCount_0f7a4 := goodIn_r _ [61, 62, 63, 64] (by decide +kernel) (by decide +kernel)
set_option maxRecDepth 20000 in
theorem gX1_inspect_J6_bitCount_0f7a4 : GoodIn wsX1_inspect (va_wsS RX1 87 yJ6_bitCount_0f7a4 wsJ6_bitCount_0f7a4) := goodIn_app (goodIn_of _ (by decide +kernel)) ggX1_inspect_J6_bitCount_0f7a4
theorem dX1_inspect_0 : decode cX1_inspect 0 = .ok (.aload_n 0, 1) := by decide +kernel
theorem dX1_inspect_1 : decode cX1_inspect 1 = .ok (.iload_n 1, 1) := by decide +kernel
theorem dX1_inspect_2 : decode cX1_inspect 2 = .ok (.invokevirtual 52, 3) := by decide +kernel
theorem dX1_inspect_5 : decode cX1_inspect 5 = .ok (.ifCond .ne 5, 3) := by decide +kernel
theorem dX1_inspect_8 : decode cX1_inspect 8 = .ok (.iconst (-1), 1) := by decide +kernel
theorem dX1_inspect_9 : decode cX1_inspect 9 = .ok (.ireturn, 1) := by decide +kernel
theorem dX1_inspect_10 : decode cX1_inspect 10 = .ok (.aload_n 0, 1) := by decide +kernel
theorem dX1_inspect_11 : decode cX1_inspect 11 = .ok (.getfield 34, 3) := by decide +kernel
theorem dX1_inspect_14 : decode cX1_inspect 14 = .ok (.iload_n 1, 1) := by decide +kernel
theorem dX1_inspect_15 : decode cX1_inspect 15 = .ok (.invokestatic 63, 3) := by decide +kernel
theorem dX1_inspect_18 : decode cX1_inspect 18 = .ok (.ifCond .eq 6, 3) := by decide +kernel
theorem dX1_inspect_21 : decode cX1_inspect 21 = .ok (.bipush (-4), 2) := by decide +kernel
theorem dX1_inspect_23 : decode cX1_inspect 23 = .ok (.ireturn, 1) := by decide +kernel
theorem dX1_inspect_24 : decode cX1_inspect 24 = .ok (.aload_n 0, 1) := by decide +kernel
theorem dX1_inspect_25 : decode cX1_inspect 25 = .ok (.dup, 1) := by decide +kernel
theorem dX1_inspect_26 : decode cX1_inspect 26 = .ok (.getfield 34, 3) := by decide +kernel
theorem dX1_inspect_29 : decode cX1_inspect 29 = .ok (.iload_n 1, 1) := by decide +kernel
theorem dX1_inspect_30 : decode cX1_inspect 30 = .ok (.invokestatic 70, 3) := by decide +kernel
theorem dX1_inspect_33 : decode cX1_inspect 33 = .ok (.ior, 1) := by decide +kernel
theorem dX1_inspect_34 : decode cX1_inspect 34 = .ok (.putfield 34, 3) := by decide +kernel
theorem dX1_inspect_37 : decode cX1_inspect 37 = .ok (.aload_n 0, 1) := by decide +kernel
theorem dX1_inspect_38 : decode cX1_inspect 38 = .ok (.getfield 27, 3) := by decide +kernel
theorem dX1_inspect_41 : decode cX1_inspect 41 = .ok (.iload_n 1, 1) := by decide +kernel
theorem dX1_inspect_42 : decode cX1_inspect 42 = .ok (.dup2, 1) := by decide +kernel
theorem dX1_inspect_43 : decode cX1_inspect 43 = .ok (.iaload, 1) := by decide +kernel
theorem dX1_inspect_44 : decode cX1_inspect 44 = .ok (.aload_n 0, 1) := by decide +kernel
theorem dX1_inspect_45 : decode cX1_inspect 45 = .ok (.iload_n 1, 1) := by decide +kernel
theorem dX1_inspect_46 : decode cX1_inspect 46 = .ok (.aload_n 0, 1) := by decide +kernel
theorem dX1_inspect_47 : decode cX1_inspect 47 = .ok (.getfield 18, 3) := by decide +kernel
theorem dX1_inspect_50 : decode cX1_inspect 50 = .ok (.iload_n 1, 1) := by decide +kernel
theorem dX1_inspect_51 : decode cX1_inspect 51 = .ok (.iaload, 1) := by decide +kernel
theorem dX1_inspect_52 : decode cX1_inspect 52 = .ok (.invokevirtual 73, 3) := by decide +kernel
theorem dX1_inspect_55 : decode cX1_inspect 55 = .ok (.iadd, 1) := by decide +kernel
theorem dX1_inspect_56 : decode cX1_inspect 56 = .ok (.iastore, 1) := by decide +kernel
theorem dX1_inspect_57 : decode cX1_inspect 57 = .ok (.aload_n 0, 1) := by decide +kernel
theorem dX1_inspect_58 : decode cX1_inspect 58 = .ok (.iload_n 1, 1) := by decide +kernel
theorem dX1_inspect_59 : decode cX1_inspect 59 = .ok (.aload_n 0, 1) := by decide +kernel
theorem dX1_inspect_60 : decode cX1_inspect 60 = .ok (.getfield 18, 3) := by decide +kernel
theorem dX1_inspect_63 : decode cX1_inspect 63 = .ok (.iload_n 1, 1) := by decide +kernel
theorem dX1_inspect_64 : decode cX1_inspect 64 = .ok (.iaload, 1) := by decide +kernel
theorem dX1_inspect_65 : decode cX1_inspect 65 = .ok (.invokevirtual 77, 3) := by decide +kernel
theorem dX1_inspect_68 : decode cX1_inspect 68 = .ok (.ifCond .eq 10, 3) := by decide +kernel
theorem dX1_inspect_71 : decode cX1_inspect 71 = .ok (.aload_n 0, 1) := by decide +kernel
theorem dX1_inspect_72 : decode cX1_inspect 72 = .ok (.iload_n 1, 1) := by decide +kernel
theorem dX1_inspect_73 : decode cX1_inspect 73 = .ok (.invokevirtual 80, 3) := by decide +kernel
theorem dX1_inspect_76 : decode cX1_inspect 76 = .ok (.iconst 0, 1) := by decide +kernel
theorem dX1_inspect_77 : decode cX1_inspect 77 = .ok (.ireturn, 1) := by decide +kernel
theorem dX1_inspect_78 : decode cX1_inspect 78 = .ok (.aload_n 0, 1) := by decide +kernel
theorem dX1_inspect_79 : decode cX1_inspect 79 = .ok (.iload_n 1, 1) := by decide +kernel
theorem dX1_inspect_80 : decode cX1_inspect 80 = .ok (.invokevirtual 84, 3) := by decide +kernel
theorem dX1_inspect_83 : decode cX1_inspect 83 = .ok (.istore_n 2, 1) := by decide +kernel
theorem dX1_inspect_84 : decode cX1_inspect 84 = .ok (.aload_n 0, 1) := by decide +kernel
theorem dX1_inspect_85 : decode cX1_inspect 85 = .ok (.dup, 1) := by decide +kernel
theorem dX1_inspect_86 : decode cX1_inspect 86 = .ok (.getfield 40, 3) := by decide +kernel
theorem dX1_inspect_89 : decode cX1_inspect 89 = .ok (.iload_n 2, 1) := by decide +kernel
theorem dX1_inspect_90 : decode cX1_inspect 90 = .ok (.ior, 1) := by decide +kernel
theorem dX1_inspect_91 : decode cX1_inspect 91 = .ok (.putfield 40, 3) := by decide +kernel
theorem dX1_inspect_94 : decode cX1_inspect 94 = .ok (.iload_n 2, 1) := by decide +kernel
theorem dX1_inspect_95 : decode cX1_inspect 95 = .ok (.invokestatic 87, 3) := by decide +kernel
theorem dX1_inspect_98 : decode cX1_inspect 98 = .ok (.ireturn, 1) := by decide +kernel
set_option maxRecDepth 20000 in
theorem ggX1_exposeLiar_X1_bit : GoodIn wsX1_exposeLiar wsX1_bit := goodIn_r _ [9] (by decide +kernel) (by decide +kernel)
set_option maxRecDepth 20000 in
theorem gX1_exposeLiar_X1_bit : GoodIn wsX1_exposeLiar (va_wsS RX1 70 yX1_bit wsX1_bit) := goodIn_app (goodIn_of _ (by decide +kernel)) ggX1_exposeLiar_X1_bit
set_option maxRecDepth 20000 in
theorem ggX1_exposeLiar_X1_wholeVouchers : GoodIn wsX1_exposeLiar wsX1_wholeVouchers := goodIn_r _ [13, 3, 14, 15, 16, 17, 8, 18, 19, 20, 21, 22, 23, 24, 5, 6, 7, 9, 28, 29, 30, 31, 32, 33, 34, 35, 36, 37, 38] (by decide +kernel) (by decide +kernel)
set_option maxRecDepth 20000 in
theorem gX1_exposeLiar_X1_wholeVouchers : GoodIn wsX1_exposeLiar (wsV RX1 92 RX1 yX1_wholeVouchers wsX1_wholeVouchers) := goodIn_app (goodIn_of _ (by decide +kernel)) ggX1_exposeLiar_X1_wholeVouchers
set_option maxRecDepth 20000 in
theorem ggX1_exposeLiar_X1_isIn : GoodIn wsX1_exposeLiar wsX1_isIn := goodIn_r _ [27, 6, 7, 8, 9] (by decide +kernel) (by decide +kernel)
set_option maxRecDepth 20000 in
theorem gX1_exposeLiar_X1_isIn : GoodIn wsX1_exposeLiar (va_wsS RX1 63 yX1_isIn wsX1_isIn) := goodIn_app (goodIn_of _ (by decide +kernel)) ggX1_exposeLiar_X1_isIn
theorem dX1_exposeLiar_0 : decode cX1_exposeLiar 0 = .ok (.aload_n 0, 1) := by decide +kernel
theorem dX1_exposeLiar_1 : decode cX1_exposeLiar 1 = .ok (.dup, 1) := by decide +kernel
theorem dX1_exposeLiar_2 : decode cX1_exposeLiar 2 = .ok (.getfield 37, 3) := by decide +kernel
theorem dX1_exposeLiar_5 : decode cX1_exposeLiar 5 = .ok (.iload_n 1, 1) := by decide +kernel
theorem dX1_exposeLiar_6 : decode cX1_exposeLiar 6 = .ok (.invokestatic 70, 3) := by decide +kernel
theorem dX1_exposeLiar_9 : decode cX1_exposeLiar 9 = .ok (.ior, 1) := by decide +kernel
theorem dX1_exposeLiar_10 : decode cX1_exposeLiar 10 = .ok (.putfield 37, 3) := by decide +kernel
theorem dX1_exposeLiar_13 : decode cX1_exposeLiar 13 = .ok (.aload_n 0, 1) := by decide +kernel
theorem dX1_exposeLiar_14 : decode cX1_exposeLiar 14 = .ok (.dup, 1) := by decide +kernel
theorem dX1_exposeLiar_15 : decode cX1_exposeLiar 15 = .ok (.getfield 40, 3) := by decide +kernel
theorem dX1_exposeLiar_18 : decode cX1_exposeLiar 18 = .ok (.iload_n 1, 1) := by decide +kernel
theorem dX1_exposeLiar_19 : decode cX1_exposeLiar 19 = .ok (.invokestatic 70, 3) := by decide +kernel
theorem dX1_exposeLiar_22 : decode cX1_exposeLiar 22 = .ok (.iconst (-1), 1) := by decide +kernel
theorem dX1_exposeLiar_23 : decode cX1_exposeLiar 23 = .ok (.ixor, 1) := by decide +kernel
theorem dX1_exposeLiar_24 : decode cX1_exposeLiar 24 = .ok (.iand, 1) := by decide +kernel
theorem dX1_exposeLiar_25 : decode cX1_exposeLiar 25 = .ok (.putfield 40, 3) := by decide +kernel
theorem dX1_exposeLiar_28 : decode cX1_exposeLiar 28 = .ok (.aload_n 0, 1) := by decide +kernel
theorem dX1_exposeLiar_29 : decode cX1_exposeLiar 29 = .ok (.iload_n 1, 1) := by decide +kernel
theorem dX1_exposeLiar_30 : decode cX1_exposeLiar 30 = .ok (.invokevirtual 92, 3) := by decide +kernel
theorem dX1_exposeLiar_33 : decode cX1_exposeLiar 33 = .ok (.istore_n 2, 1) := by decide +kernel
theorem dX1_exposeLiar_34 : decode cX1_exposeLiar 34 = .ok (.iconst 0, 1) := by decide +kernel
theorem dX1_exposeLiar_35 : decode cX1_exposeLiar 35 = .ok (.istore_n 3, 1) := by decide +kernel
theorem dX1_exposeLiar_36 : decode cX1_exposeLiar 36 = .ok (.iload_n 3, 1) := by decide +kernel
theorem dX1_exposeLiar_37 : decode cX1_exposeLiar 37 = .ok (.aload_n 0, 1) := by decide +kernel
theorem dX1_exposeLiar_38 : decode cX1_exposeLiar 38 = .ok (.getfield 30, 3) := by decide +kernel
theorem dX1_exposeLiar_41 : decode cX1_exposeLiar 41 = .ok (.if_icmp .ge 32, 3) := by decide +kernel
theorem dX1_exposeLiar_44 : decode cX1_exposeLiar 44 = .ok (.iload_n 2, 1) := by decide +kernel
theorem dX1_exposeLiar_45 : decode cX1_exposeLiar 45 = .ok (.iload_n 3, 1) := by decide +kernel
theorem dX1_exposeLiar_46 : decode cX1_exposeLiar 46 = .ok (.invokestatic 63, 3) := by decide +kernel
theorem dX1_exposeLiar_49 : decode cX1_exposeLiar 49 = .ok (.ifCond .eq 18, 3) := by decide +kernel
theorem dX1_exposeLiar_52 : decode cX1_exposeLiar 52 = .ok (.aload_n 0, 1) := by decide +kernel
theorem dX1_exposeLiar_53 : decode cX1_exposeLiar 53 = .ok (.getfield 27, 3) := by decide +kernel
theorem dX1_exposeLiar_56 : decode cX1_exposeLiar 56 = .ok (.iload_n 3, 1) := by decide +kernel
theorem dX1_exposeLiar_57 : decode cX1_exposeLiar 57 = .ok (.dup2, 1) := by decide +kernel
theorem dX1_exposeLiar_58 : decode cX1_exposeLiar 58 = .ok (.iaload, 1) := by decide +kernel
theorem dX1_exposeLiar_59 : decode cX1_exposeLiar 59 = .ok (.aload_n 0, 1) := by decide +kernel
theorem dX1_exposeLiar_60 : decode cX1_exposeLiar 60 = .ok (.getfield 9, 3) := by decide +kernel
theorem dX1_exposeLiar_63 : decode cX1_exposeLiar 63 = .ok (.iconst 4, 1) := by decide +kernel
theorem dX1_exposeLiar_64 : decode cX1_exposeLiar 64 = .ok (.iaload, 1) := by decide +kernel
theorem dX1_exposeLiar_65 : decode cX1_exposeLiar 65 = .ok (.iadd, 1) := by decide +kernel
theorem dX1_exposeLiar_66 : decode cX1_exposeLiar 66 = .ok (.iastore, 1) := by decide +kernel
theorem dX1_exposeLiar_67 : decode cX1_exposeLiar 67 = .ok (.iinc 3 1, 3) := by decide +kernel
theorem dX1_exposeLiar_70 : decode cX1_exposeLiar 70 = .ok (.goto (-34), 3) := by decide +kernel
theorem dX1_exposeLiar_73 : decode cX1_exposeLiar 73 = .ok (.return_, 1) := by decide +kernel
set_option maxRecDepth 20000 in
theorem ggX1_inspectAll_X1_waiting : GoodIn wsX1_inspectAll wsX1_waiting := goodIn_r _ [6, 7, 8, 9, 10, 11, 5, 12, 1, 13, 14, 15, 77, 78, 79, 80, 81, 82, 83, 84, 85, 86, 87] (by decide +kernel) (by decide +kernel)
set_option maxRecDepth 20000 in
theorem gX1_inspectAll_X1_waiting : GoodIn wsX1_inspectAll (wsV RX1 95 RX1 yX1_waiting wsX1_waiting) := goodIn_app (goodIn_of _ (by decide +kernel)) ggX1_inspectAll_X1_waiting
set_option maxRecDepth 20000 in
theorem ggX1_inspectAll_X1_isIn : GoodIn wsX1_inspectAll wsX1_isIn := goodIn_r _ [18, 13, 14, 5, 15] (by decide +kernel) (by decide +kernel)
set_option maxRecDepth 20000 in
theorem gX1_inspectAll_X1_isIn : GoodIn wsX1_inspectAll (va_wsS RX1 63 yX1_isIn wsX1_isIn) := goodIn_app (goodIn_of _ (by decide +kernel)) ggX1_inspectAll_X1_isIn
set_option maxRecDepth 20000 in
theorem ggX1_inspectAll_X1_inspect : GoodIn wsX1_inspectAll wsX1_inspect := goodIn_r _ [22, 8, 23, 24, 7, 25, 26, 27, 5, 28, 1, 16, 17, 18, 13, 14, 15, 29, 30, 31, 32, 33, 34, 35, 36, 37, 38, 39, 40, 41, 42, 43, 44, 45, 46, 47, 48, 49, 50, 51, 52, 53, 54, 55, 56, 57, 58, 59, 60, 61, 62, 63, 64, 65, 66, 67, 68, 69, 70, 71, 72, 73, 74, 75, 76, 77, 78, 79, 80, 81, 82, 83, 84, 85, 86, 87] (by decide +kernel) (by decide +kernel)
set_option maxRecDepth 20000 in
theorem gX1_inspectAll_X1_inspect : GoodIn wsX1_inspectAll (wsV RX1 99 RX1 yX1_inspect wsX1_inspect) := goodIn_app (goodIn_of _ (by decide +kernel)) ggX1_inspectAll_X1_inspect
theorem dX1_inspectAll_0 : decode cX1_inspectAll 0 = .ok (.iconst 0, 1) := by decide +kernel
theorem dX1_inspectAll_1 : decode cX1_inspectAll 1 = .ok (.istore_n 1, 1) := by decide +kernel
theorem dX1_inspectAll_2 : decode cX1_inspectAll 2 = .ok (.aload_n 0, 1) := by decide +kernel
theorem dX1_inspectAll_3 : decode cX1_inspectAll 3 = .ok (.getfield 30, 3) := by decide +kernel
theorem dX1_inspectAll_6 : decode cX1_inspectAll 6 = .ok (.iconst 1, 1) := by decide +kernel
theorem dX1_inspectAll_7 : decode cX1_inspectAll 7 = .ok (.isub, 1) := by decide +kernel
theorem dX1_inspectAll_8 : decode cX1_inspectAll 8 = .ok (.istore_n 2, 1) := by decide +kernel
theorem dX1_inspectAll_9 : decode cX1_inspectAll 9 = .ok (.iload_n 2, 1) := by decide +kernel
theorem dX1_inspectAll_10 : decode cX1_inspectAll 10 = .ok (.ifCond .lt 29, 3) := by decide +kernel
theorem dX1_inspectAll_13 : decode cX1_inspectAll 13 = .ok (.aload_n 0, 1) := by decide +kernel
theorem dX1_inspectAll_14 : decode cX1_inspectAll 14 = .ok (.invokevirtual 95, 3) := by decide +kernel
theorem dX1_inspectAll_17 : decode cX1_inspectAll 17 = .ok (.iload_n 2, 1) := by decide +kernel
theorem dX1_inspectAll_18 : decode cX1_inspectAll 18 = .ok (.invokestatic 63, 3) := by decide +kernel
theorem dX1_inspectAll_21 : decode cX1_inspectAll 21 = .ok (.ifCond .eq 12, 3) := by decide +kernel
theorem dX1_inspectAll_24 : decode cX1_inspectAll 24 = .ok (.aload_n 0, 1) := by decide +kernel
theorem dX1_inspectAll_25 : decode cX1_inspectAll 25 = .ok (.iload_n 2, 1) := by decide +kernel
theorem dX1_inspectAll_26 : decode cX1_inspectAll 26 = .ok (.invokevirtual 99, 3) := by decide +kernel
theorem dX1_inspectAll_29 : decode cX1_inspectAll 29 = .ok (.pop, 1) := by decide +kernel
theorem dX1_inspectAll_30 : decode cX1_inspectAll 30 = .ok (.iinc 1 1, 3) := by decide +kernel
theorem dX1_inspectAll_33 : decode cX1_inspectAll 33 = .ok (.iinc 2 (-1), 3) := by decide +kernel
theorem dX1_inspectAll_36 : decode cX1_inspectAll 36 = .ok (.goto (-27), 3) := by decide +kernel
theorem dX1_inspectAll_39 : decode cX1_inspectAll 39 = .ok (.iload_n 1, 1) := by decide +kernel
theorem dX1_inspectAll_40 : decode cX1_inspectAll 40 = .ok (.ifCond .le 7, 3) := by decide +kernel
theorem dX1_inspectAll_43 : decode cX1_inspectAll 43 = .ok (.iload_n 1, 1) := by decide +kernel
theorem dX1_inspectAll_44 : decode cX1_inspectAll 44 = .ok (.goto 5, 3) := by decide +kernel
theorem dX1_inspectAll_47 : decode cX1_inspectAll 47 = .ok (.bipush (-5), 2) := by decide +kernel
theorem dX1_inspectAll_49 : decode cX1_inspectAll 49 = .ok (.ireturn, 1) := by decide +kernel
theorem dX1_changeSetting_0 : decode cX1_changeSetting 0 = .ok (.iload_n 1, 1) := by decide +kernel
theorem dX1_changeSetting_1 : decode cX1_changeSetting 1 = .ok (.ifCond .lt 8, 3) := by decide +kernel
theorem dX1_changeSetting_4 : decode cX1_changeSetting 4 = .ok (.iload_n 1, 1) := by decide +kernel
theorem dX1_changeSetting_5 : decode cX1_changeSetting 5 = .ok (.iconst 5, 1) := by decide +kernel
theorem dX1_changeSetting_6 : decode cX1_changeSetting 6 = .ok (.if_icmp .lt 5, 3) := by decide +kernel
theorem dX1_changeSetting_9 : decode cX1_changeSetting 9 = .ok (.iconst (-1), 1) := by decide +kernel
theorem dX1_changeSetting_10 : decode cX1_changeSetting 10 = .ok (.ireturn, 1) := by decide +kernel
theorem dX1_changeSetting_11 : decode cX1_changeSetting 11 = .ok (.iload_n 2, 1) := by decide +kernel
theorem dX1_changeSetting_12 : decode cX1_changeSetting 12 = .ok (.getstatic 102, 3) := by decide +kernel
theorem dX1_changeSetting_15 : decode cX1_changeSetting 15 = .ok (.iload_n 1, 1) := by decide +kernel
theorem dX1_changeSetting_16 : decode cX1_changeSetting 16 = .ok (.iaload, 1) := by decide +kernel
theorem dX1_changeSetting_17 : decode cX1_changeSetting 17 = .ok (.if_icmp .lt 12, 3) := by decide +kernel
theorem dX1_changeSetting_20 : decode cX1_changeSetting 20 = .ok (.iload_n 2, 1) := by decide +kernel
theorem dX1_changeSetting_21 : decode cX1_changeSetting 21 = .ok (.getstatic 105, 3) := by decide +kernel
theorem dX1_changeSetting_24 : decode cX1_changeSetting 24 = .ok (.iload_n 1, 1) := by decide +kernel
theorem dX1_changeSetting_25 : decode cX1_changeSetting 25 = .ok (.iaload, 1) := by decide +kernel
theorem dX1_changeSetting_26 : decode cX1_changeSetting 26 = .ok (.if_icmp .le 6, 3) := by decide +kernel
theorem dX1_changeSetting_29 : decode cX1_changeSetting 29 = .ok (.bipush (-2), 2) := by decide +kernel
theorem dX1_changeSetting_31 : decode cX1_changeSetting 31 = .ok (.ireturn, 1) := by decide +kernel
theorem dX1_changeSetting_32 : decode cX1_changeSetting 32 = .ok (.aload_n 0, 1) := by decide +kernel
theorem dX1_changeSetting_33 : decode cX1_changeSetting 33 = .ok (.getfield 9, 3) := by decide +kernel
theorem dX1_changeSetting_36 : decode cX1_changeSetting 36 = .ok (.iload_n 1, 1) := by decide +kernel
theorem dX1_changeSetting_37 : decode cX1_changeSetting 37 = .ok (.iaload, 1) := by decide +kernel
theorem dX1_changeSetting_38 : decode cX1_changeSetting 38 = .ok (.istore_n 3, 1) := by decide +kernel
theorem dX1_changeSetting_39 : decode cX1_changeSetting 39 = .ok (.iload_n 3, 1) := by decide +kernel
theorem dX1_changeSetting_40 : decode cX1_changeSetting 40 = .ok (.iload_n 2, 1) := by decide +kernel
theorem dX1_changeSetting_41 : decode cX1_changeSetting 41 = .ok (.if_icmp .ne 6, 3) := by decide +kernel
theorem dX1_changeSetting_44 : decode cX1_changeSetting 44 = .ok (.bipush (-5), 2) := by decide +kernel
theorem dX1_changeSetting_46 : decode cX1_changeSetting 46 = .ok (.ireturn, 1) := by decide +kernel
theorem dX1_changeSetting_47 : decode cX1_changeSetting 47 = .ok (.aload_n 0, 1) := by decide +kernel
theorem dX1_changeSetting_48 : decode cX1_changeSetting 48 = .ok (.getfield 9, 3) := by decide +kernel
theorem dX1_changeSetting_51 : decode cX1_changeSetting 51 = .ok (.iload_n 1, 1) := by decide +kernel
theorem dX1_changeSetting_52 : decode cX1_changeSetting 52 = .ok (.iload_n 2, 1) := by decide +kernel
theorem dX1_changeSetting_53 : decode cX1_changeSetting 53 = .ok (.iastore, 1) := by decide +kernel
theorem dX1_changeSetting_54 : decode cX1_changeSetting 54 = .ok (.iload_n 3, 1) := by decide +kernel
theorem dX1_changeSetting_55 : decode cX1_changeSetting 55 = .ok (.ireturn, 1) := by decide +kernel
set_option maxRecDepth 20000 in
theorem ggX1_tellOfCart_X1_knows : GoodIn wsX1_tellOfCart wsX1_knows := goodIn_r _ [12, 13, 57, 58, 59, 60, 61, 62, 63, 64, 65, 66, 67] (by decide +kernel) (by decide +kernel)
set_option maxRecDepth 20000 in
theorem gX1_tellOfCart_X1_knows : GoodIn wsX1_tellOfCart (wsV RX1 52 RX1 yX1_knows wsX1_knows) := goodIn_app (goodIn_of _ (by decide +kernel)) ggX1_tellOfCart_X1_knows
set_option maxRecDepth 20000 in
theorem ggX1_tellOfCart_X1_isIn : GoodIn wsX1_tellOfCart wsX1_isIn := goodIn_r _ [16, 17, 18, 11, 19] (by decide +kernel) (by decide +kernel)
set_option maxRecDepth 20000 in
theorem gX1_tellOfCart_X1_isIn : GoodIn wsX1_tellOfCart (va_wsS RX1 63 yX1_isIn wsX1_isIn) := goodIn_app (goodIn_of _ (by decide +kernel)) ggX1_tellOfCart_X1_isIn
set_option maxRecDepth 20000 in
theorem ggX1_tellOfCart_X1_rightSeal : GoodIn wsX1_tellOfCart wsX1_rightSeal := goodIn_r _ [23, 1, 24, 25, 26, 11, 27, 28, 4, 13, 5, 57, 58, 59, 60, 61, 62, 63, 64, 65, 66, 67] (by decide +kernel) (by decide +kernel)
set_option maxRecDepth 20000 in
theorem gX1_tellOfCart_X1_rightSeal : GoodIn wsX1_tellOfCart (wsV RX1 59 RX1 yX1_rightSeal wsX1_rightSeal) := goodIn_app (goodIn_of _ (by decide +kernel)) ggX1_tellOfCart_X1_rightSeal
set_option maxRecDepth 20000 in
theorem ggX1_tellOfCart_X1_isWhole : GoodIn wsX1_tellOfCart wsX1_isWhole := goodIn_r _ [32, 5, 1, 24, 25, 26, 11, 27, 28, 4, 13, 57, 58, 59, 60, 61, 62, 63, 64, 65, 66, 67] (by decide +kernel) (by decide +kernel)
set_option maxRecDepth 20000 in
theorem gX1_tellOfCart_X1_isWhole : GoodIn wsX1_tellOfCart (wsV RX1 67 RX1 yX1_isWhole wsX1_isWhole) := goodIn_app (goodIn_of _ (by decide +kernel)) ggX1_tellOfCart_X1_isWhole
set_option maxRecDepth 20000 in
theorem ggX1_tellOfCart_X1_chainOf : GoodIn wsX1_tellOfCart wsX1_chainOf := goodIn_r _ [36, 4, 8, 9, 10, 11, 12, 13, 17, 18, 19, 57, 58, 59, 60, 61, 62, 63, 64, 65, 66, 67] (by decide +kernel) (by decide +kernel)
set_option maxRecDepth 20000 in
theorem gX1_tellOfCart_X1_chainOf : GoodIn wsX1_tellOfCart (wsV RX1 108 RX1 yX1_chainOf wsX1_chainOf) := goodIn_app (goodIn_of _ (by decide +kernel)) ggX1_tellOfCart_X1_chainOf
set_option maxRecDepth 20000 in
theorem ggX1_tellOfCart_J6_bitCount_0f7a4 : GoodIn wsX1_tellOfCart wsJ6_bitCount_0f7a4 := goodIn_r _ [40, 41, 42, 43] (by decide +kernel) (by decide +kernel)
set_option maxRecDepth 20000 in
theorem gX1_tellOfCart_J6_bitCount_0f7a4 : GoodIn wsX1_tellOfCart (va_wsS RX1 87 yJ6_bitCount_0f7a4 wsJ6_bitCount_0f7a4) := goodIn_app (goodIn_of _ (by decide +kernel)) ggX1_tellOfCart_J6_bitCount_0f7a4
set_option maxRecDepth 20000 in
theorem ggX1_tellOfCart_X1_vouchers : GoodIn wsX1_tellOfCart wsX1_vouchers := goodIn_r _ [47, 13, 4, 17, 18, 11, 19, 57, 58, 59, 60, 61, 62, 63, 64, 65, 66, 67] (by decide +kernel) (by decide +kernel)
set_option maxRecDepth 20000 in
theorem gX1_tellOfCart_X1_vouchers : GoodIn wsX1_tellOfCart (wsV RX1 111 RX1 yX1_vouchers wsX1_vouchers) := goodIn_app (goodIn_of _ (by decide +kernel)) ggX1_tellOfCart_X1_vouchers
set_option maxRecDepth 20000 in
theorem ggX1_tellOfCart_X1_countChainsWith : GoodIn wsX1_tellOfCart wsX1_countChainsWith := goodIn_r _ [51, 13, 33, 34, 35, 11, 36, 4, 8, 9, 10, 12, 17, 18, 19, 14, 15, 16, 57, 58, 59, 60, 61, 62, 63, 64, 65, 66, 67] (by decide +kernel) (by decide +kernel)
set_option maxRecDepth 20000 in
theorem gX1_tellOfCart_X1_countChainsWith : GoodIn wsX1_tellOfCart (wsV RX1 114 RX1 yX1_countChainsWith wsX1_countChainsWith) := goodIn_app (goodIn_of _ (by decide +kernel)) ggX1_tellOfCart_X1_countChainsWith
set_option maxRecDepth 20000 in
theorem ggX1_tellOfCart_X1_whyNotCleared : GoodIn wsX1_tellOfCart wsX1_whyNotCleared := goodIn_r _ [55, 6, 56, 14, 15, 11, 16, 17, 18, 19, 44, 45, 46, 47, 13, 4, 57, 58, 59, 60, 61, 62, 63, 64, 65, 66, 67] (by decide +kernel) (by decide +kernel)
set_option maxRecDepth 20000 in
theorem gX1_tellOfCart_X1_whyNotCleared : GoodIn wsX1_tellOfCart (wsV RX1 117 RX1 yX1_whyNotCleared wsX1_whyNotCleared) := goodIn_app (goodIn_of _ (by decide +kernel)) ggX1_tellOfCart_X1_whyNotCleared
theorem dX1_tellOfCart_0 : decode cX1_tellOfCart 0 = .ok (.aload_n 0, 1) := by decide +kernel
theorem dX1_tellOfCart_1 : decode cX1_tellOfCart 1 = .ok (.iload_n 1, 1) := by decide +kernel
theorem dX1_tellOfCart_2 : decode cX1_tellOfCart 2 = .ok (.invokevirtual 52, 3) := by decide +kernel
theorem dX1_tellOfCart_5 : decode cX1_tellOfCart 5 = .ok (.ifCond .ne 5, 3) := by decide +kernel
theorem dX1_tellOfCart_8 : decode cX1_tellOfCart 8 = .ok (.iconst (-1), 1) := by decide +kernel
theorem dX1_tellOfCart_9 : decode cX1_tellOfCart 9 = .ok (.ireturn, 1) := by decide +kernel
theorem dX1_tellOfCart_10 : decode cX1_tellOfCart 10 = .ok (.iload_n 2, 1) := by decide +kernel
theorem dX1_tellOfCart_11 : decode cX1_tellOfCart 11 = .ok (.tableswitch 215 0 12 #[65, 72, 95, 117, 124, 130, 144, 161, 178, 185, 194, 203, 209], 65) := by decide +kernel
theorem dX1_tellOfCart_76 : decode cX1_tellOfCart 76 = .ok (.aload_n 0, 1) := by decide +kernel
theorem dX1_tellOfCart_77 : decode cX1_tellOfCart 77 = .ok (.getfield 15, 3) := by decide +kernel
theorem dX1_tellOfCart_80 : decode cX1_tellOfCart 80 = .ok (.iload_n 1, 1) := by decide +kernel
theorem dX1_tellOfCart_81 : decode cX1_tellOfCart 81 = .ok (.iaload, 1) := by decide +kernel
theorem dX1_tellOfCart_82 : decode cX1_tellOfCart 82 = .ok (.ireturn, 1) := by decide +kernel
theorem dX1_tellOfCart_83 : decode cX1_tellOfCart 83 = .ok (.aload_n 0, 1) := by decide +kernel
theorem dX1_tellOfCart_84 : decode cX1_tellOfCart 84 = .ok (.getfield 34, 3) := by decide +kernel
theorem dX1_tellOfCart_87 : decode cX1_tellOfCart 87 = .ok (.iload_n 1, 1) := by decide +kernel
theorem dX1_tellOfCart_88 : decode cX1_tellOfCart 88 = .ok (.invokestatic 63, 3) := by decide +kernel
theorem dX1_tellOfCart_91 : decode cX1_tellOfCart 91 = .ok (.ifCond .eq 12, 3) := by decide +kernel
theorem dX1_tellOfCart_94 : decode cX1_tellOfCart 94 = .ok (.aload_n 0, 1) := by decide +kernel
theorem dX1_tellOfCart_95 : decode cX1_tellOfCart 95 = .ok (.getfield 18, 3) := by decide +kernel
theorem dX1_tellOfCart_98 : decode cX1_tellOfCart 98 = .ok (.iload_n 1, 1) := by decide +kernel
theorem dX1_tellOfCart_99 : decode cX1_tellOfCart 99 = .ok (.iaload, 1) := by decide +kernel
theorem dX1_tellOfCart_100 : decode cX1_tellOfCart 100 = .ok (.goto 5, 3) := by decide +kernel
theorem dX1_tellOfCart_103 : decode cX1_tellOfCart 103 = .ok (.bipush (-5), 2) := by decide +kernel
theorem dX1_tellOfCart_105 : decode cX1_tellOfCart 105 = .ok (.ireturn, 1) := by decide +kernel
theorem dX1_tellOfCart_106 : decode cX1_tellOfCart 106 = .ok (.aload_n 0, 1) := by decide +kernel
theorem dX1_tellOfCart_107 : decode cX1_tellOfCart 107 = .ok (.getfield 21, 3) := by decide +kernel
theorem dX1_tellOfCart_110 : decode cX1_tellOfCart 110 = .ok (.iload_n 1, 1) := by decide +kernel
theorem dX1_tellOfCart_111 : decode cX1_tellOfCart 111 = .ok (.iaload, 1) := by decide +kernel
theorem dX1_tellOfCart_112 : decode cX1_tellOfCart 112 = .ok (.iconst (-1), 1) := by decide +kernel
theorem dX1_tellOfCart_113 : decode cX1_tellOfCart 113 = .ok (.if_icmp .ne 8, 3) := by decide +kernel
theorem dX1_tellOfCart_116 : decode cX1_tellOfCart 116 = .ok (.bipush (-5), 2) := by decide +kernel
theorem dX1_tellOfCart_118 : decode cX1_tellOfCart 118 = .ok (.goto 9, 3) := by decide +kernel
theorem dX1_tellOfCart_121 : decode cX1_tellOfCart 121 = .ok (.aload_n 0, 1) := by decide +kernel
theorem dX1_tellOfCart_122 : decode cX1_tellOfCart 122 = .ok (.getfield 21, 3) := by decide +kernel
theorem dX1_tellOfCart_125 : decode cX1_tellOfCart 125 = .ok (.iload_n 1, 1) := by decide +kernel
theorem dX1_tellOfCart_126 : decode cX1_tellOfCart 126 = .ok (.iaload, 1) := by decide +kernel
theorem dX1_tellOfCart_127 : decode cX1_tellOfCart 127 = .ok (.ireturn, 1) := by decide +kernel
theorem dX1_tellOfCart_128 : decode cX1_tellOfCart 128 = .ok (.aload_n 0, 1) := by decide +kernel
theorem dX1_tellOfCart_129 : decode cX1_tellOfCart 129 = .ok (.getfield 24, 3) := by decide +kernel
theorem dX1_tellOfCart_132 : decode cX1_tellOfCart 132 = .ok (.iload_n 1, 1) := by decide +kernel
theorem dX1_tellOfCart_133 : decode cX1_tellOfCart 133 = .ok (.iaload, 1) := by decide +kernel
theorem dX1_tellOfCart_134 : decode cX1_tellOfCart 134 = .ok (.ireturn, 1) := by decide +kernel
theorem dX1_tellOfCart_135 : decode cX1_tellOfCart 135 = .ok (.aload_n 0, 1) := by decide +kernel
theorem dX1_tellOfCart_136 : decode cX1_tellOfCart 136 = .ok (.iload_n 1, 1) := by decide +kernel
theorem dX1_tellOfCart_137 : decode cX1_tellOfCart 137 = .ok (.invokevirtual 59, 3) := by decide +kernel
theorem dX1_tellOfCart_140 : decode cX1_tellOfCart 140 = .ok (.ireturn, 1) := by decide +kernel
theorem dX1_tellOfCart_141 : decode cX1_tellOfCart 141 = .ok (.aload_n 0, 1) := by decide +kernel
theorem dX1_tellOfCart_142 : decode cX1_tellOfCart 142 = .ok (.iload_n 1, 1) := by decide +kernel
theorem dX1_tellOfCart_143 : decode cX1_tellOfCart 143 = .ok (.invokevirtual 67, 3) := by decide +kernel
theorem dX1_tellOfCart_146 : decode cX1_tellOfCart 146 = .ok (.ifCond .eq 7, 3) := by decide +kernel
theorem dX1_tellOfCart_149 : decode cX1_tellOfCart 149 = .ok (.iconst 1, 1) := by decide +kernel
theorem dX1_tellOfCart_150 : decode cX1_tellOfCart 150 = .ok (.goto 4, 3) := by decide +kernel
theorem dX1_tellOfCart_153 : decode cX1_tellOfCart 153 = .ok (.iconst 0, 1) := by decide +kernel
theorem dX1_tellOfCart_154 : decode cX1_tellOfCart 154 = .ok (.ireturn, 1) := by decide +kernel
theorem dX1_tellOfCart_155 : decode cX1_tellOfCart 155 = .ok (.aload_n 0, 1) := by decide +kernel
theorem dX1_tellOfCart_156 : decode cX1_tellOfCart 156 = .ok (.getfield 34, 3) := by decide +kernel
theorem dX1_tellOfCart_159 : decode cX1_tellOfCart 159 = .ok (.iload_n 1, 1) := by decide +kernel
theorem dX1_tellOfCart_160 : decode cX1_tellOfCart 160 = .ok (.invokestatic 63, 3) := by decide +kernel
theorem dX1_tellOfCart_163 : decode cX1_tellOfCart 163 = .ok (.ifCond .eq 7, 3) := by decide +kernel
theorem dX1_tellOfCart_166 : decode cX1_tellOfCart 166 = .ok (.iconst 1, 1) := by decide +kernel
theorem dX1_tellOfCart_167 : decode cX1_tellOfCart 167 = .ok (.goto 4, 3) := by decide +kernel
theorem dX1_tellOfCart_170 : decode cX1_tellOfCart 170 = .ok (.iconst 0, 1) := by decide +kernel
theorem dX1_tellOfCart_171 : decode cX1_tellOfCart 171 = .ok (.ireturn, 1) := by decide +kernel
theorem dX1_tellOfCart_172 : decode cX1_tellOfCart 172 = .ok (.aload_n 0, 1) := by decide +kernel
theorem dX1_tellOfCart_173 : decode cX1_tellOfCart 173 = .ok (.getfield 40, 3) := by decide +kernel
theorem dX1_tellOfCart_176 : decode cX1_tellOfCart 176 = .ok (.iload_n 1, 1) := by decide +kernel
theorem dX1_tellOfCart_177 : decode cX1_tellOfCart 177 = .ok (.invokestatic 63, 3) := by decide +kernel
theorem dX1_tellOfCart_180 : decode cX1_tellOfCart 180 = .ok (.ifCond .eq 7, 3) := by decide +kernel
theorem dX1_tellOfCart_183 : decode cX1_tellOfCart 183 = .ok (.iconst 1, 1) := by decide +kernel
theorem dX1_tellOfCart_184 : decode cX1_tellOfCart 184 = .ok (.goto 4, 3) := by decide +kernel
theorem dX1_tellOfCart_187 : decode cX1_tellOfCart 187 = .ok (.iconst 0, 1) := by decide +kernel
theorem dX1_tellOfCart_188 : decode cX1_tellOfCart 188 = .ok (.ireturn, 1) := by decide +kernel
theorem dX1_tellOfCart_189 : decode cX1_tellOfCart 189 = .ok (.aload_n 0, 1) := by decide +kernel
theorem dX1_tellOfCart_190 : decode cX1_tellOfCart 190 = .ok (.getfield 27, 3) := by decide +kernel
theorem dX1_tellOfCart_193 : decode cX1_tellOfCart 193 = .ok (.iload_n 1, 1) := by decide +kernel
theorem dX1_tellOfCart_194 : decode cX1_tellOfCart 194 = .ok (.iaload, 1) := by decide +kernel
theorem dX1_tellOfCart_195 : decode cX1_tellOfCart 195 = .ok (.ireturn, 1) := by decide +kernel
theorem dX1_tellOfCart_196 : decode cX1_tellOfCart 196 = .ok (.aload_n 0, 1) := by decide +kernel
theorem dX1_tellOfCart_197 : decode cX1_tellOfCart 197 = .ok (.iload_n 1, 1) := by decide +kernel
theorem dX1_tellOfCart_198 : decode cX1_tellOfCart 198 = .ok (.invokevirtual 108, 3) := by decide +kernel
theorem dX1_tellOfCart_201 : decode cX1_tellOfCart 201 = .ok (.invokestatic 87, 3) := by decide +kernel
theorem dX1_tellOfCart_204 : decode cX1_tellOfCart 204 = .ok (.ireturn, 1) := by decide +kernel
theorem dX1_tellOfCart_205 : decode cX1_tellOfCart 205 = .ok (.aload_n 0, 1) := by decide +kernel
theorem dX1_tellOfCart_206 : decode cX1_tellOfCart 206 = .ok (.iload_n 1, 1) := by decide +kernel
theorem dX1_tellOfCart_207 : decode cX1_tellOfCart 207 = .ok (.invokevirtual 111, 3) := by decide +kernel
theorem dX1_tellOfCart_210 : decode cX1_tellOfCart 210 = .ok (.invokestatic 87, 3) := by decide +kernel
theorem dX1_tellOfCart_213 : decode cX1_tellOfCart 213 = .ok (.ireturn, 1) := by decide +kernel
theorem dX1_tellOfCart_214 : decode cX1_tellOfCart 214 = .ok (.aload_n 0, 1) := by decide +kernel
theorem dX1_tellOfCart_215 : decode cX1_tellOfCart 215 = .ok (.iload_n 1, 1) := by decide +kernel
theorem dX1_tellOfCart_216 : decode cX1_tellOfCart 216 = .ok (.invokevirtual 114, 3) := by decide +kernel
theorem dX1_tellOfCart_219 : decode cX1_tellOfCart 219 = .ok (.ireturn, 1) := by decide +kernel
theorem dX1_tellOfCart_220 : decode cX1_tellOfCart 220 = .ok (.aload_n 0, 1) := by decide +kernel
theorem dX1_tellOfCart_221 : decode cX1_tellOfCart 221 = .ok (.iload_n 1, 1) := by decide +kernel
theorem dX1_tellOfCart_222 : decode cX1_tellOfCart 222 = .ok (.invokevirtual 117, 3) := by decide +kernel
theorem dX1_tellOfCart_225 : decode cX1_tellOfCart 225 = .ok (.ireturn, 1) := by decide +kernel
theorem dX1_tellOfCart_226 : decode cX1_tellOfCart 226 = .ok (.bipush (-2), 2) := by decide +kernel
theorem dX1_tellOfCart_228 : decode cX1_tellOfCart 228 = .ok (.ireturn, 1) := by decide +kernel
set_option maxRecDepth 20000 in
theorem ggX1_countChainsWith_X1_chainOf : GoodIn wsX1_countChainsWith wsX1_chainOf := goodIn_r _ [6, 7, 8, 9, 10, 5, 11, 1, 12, 13, 14, 18, 19, 20, 21, 22, 23, 24, 25, 26, 27, 28] (by decide +kernel) (by decide +kernel)
set_option maxRecDepth 20000 in
theorem gX1_countChainsWith_X1_chainOf : GoodIn wsX1_countChainsWith (wsV RX1 108 RX1 yX1_chainOf wsX1_chainOf) := goodIn_app (goodIn_of _ (by decide +kernel)) ggX1_countChainsWith_X1_chainOf
set_option maxRecDepth 20000 in
theorem ggX1_countChainsWith_X1_isIn : GoodIn wsX1_countChainsWith wsX1_isIn := goodIn_r _ [17, 12, 13, 5, 14] (by decide +kernel) (by decide +kernel)
set_option maxRecDepth 20000 in
theorem gX1_countChainsWith_X1_isIn : GoodIn wsX1_countChainsWith (va_wsS RX1 63 yX1_isIn wsX1_isIn) := goodIn_app (goodIn_of _ (by decide +kernel)) ggX1_countChainsWith_X1_isIn
theorem dX1_countChainsWith_0 : decode cX1_countChainsWith 0 = .ok (.iconst 0, 1) := by decide +kernel
theorem dX1_countChainsWith_1 : decode cX1_countChainsWith 1 = .ok (.istore_n 2, 1) := by decide +kernel
theorem dX1_countChainsWith_2 : decode cX1_countChainsWith 2 = .ok (.iconst 0, 1) := by decide +kernel
theorem dX1_countChainsWith_3 : decode cX1_countChainsWith 3 = .ok (.istore_n 3, 1) := by decide +kernel
theorem dX1_countChainsWith_4 : decode cX1_countChainsWith 4 = .ok (.iload_n 3, 1) := by decide +kernel
theorem dX1_countChainsWith_5 : decode cX1_countChainsWith 5 = .ok (.aload_n 0, 1) := by decide +kernel
theorem dX1_countChainsWith_6 : decode cX1_countChainsWith 6 = .ok (.getfield 30, 3) := by decide +kernel
theorem dX1_countChainsWith_9 : decode cX1_countChainsWith 9 = .ok (.if_icmp .ge 24, 3) := by decide +kernel
theorem dX1_countChainsWith_12 : decode cX1_countChainsWith 12 = .ok (.aload_n 0, 1) := by decide +kernel
theorem dX1_countChainsWith_13 : decode cX1_countChainsWith 13 = .ok (.iload_n 3, 1) := by decide +kernel
theorem dX1_countChainsWith_14 : decode cX1_countChainsWith 14 = .ok (.invokevirtual 108, 3) := by decide +kernel
theorem dX1_countChainsWith_17 : decode cX1_countChainsWith 17 = .ok (.iload_n 1, 1) := by decide +kernel
theorem dX1_countChainsWith_18 : decode cX1_countChainsWith 18 = .ok (.invokestatic 63, 3) := by decide +kernel
theorem dX1_countChainsWith_21 : decode cX1_countChainsWith 21 = .ok (.ifCond .eq 6, 3) := by decide +kernel
theorem dX1_countChainsWith_24 : decode cX1_countChainsWith 24 = .ok (.iinc 2 1, 3) := by decide +kernel
theorem dX1_countChainsWith_27 : decode cX1_countChainsWith 27 = .ok (.iinc 3 1, 3) := by decide +kernel
theorem dX1_countChainsWith_30 : decode cX1_countChainsWith 30 = .ok (.goto (-26), 3) := by decide +kernel
theorem dX1_countChainsWith_33 : decode cX1_countChainsWith 33 = .ok (.iload_n 2, 1) := by decide +kernel
theorem dX1_countChainsWith_34 : decode cX1_countChainsWith 34 = .ok (.ireturn, 1) := by decide +kernel
set_option maxRecDepth 20000 in
theorem ggX1_whyNotCleared_X1_isIn : GoodIn wsX1_whyNotCleared wsX1_isIn := goodIn_r _ [6, 7, 8, 5, 9] (by decide +kernel) (by decide +kernel)
set_option maxRecDepth 20000 in
theorem gX1_whyNotCleared_X1_isIn : GoodIn wsX1_whyNotCleared (va_wsS RX1 63 yX1_isIn wsX1_isIn) := goodIn_app (goodIn_of _ (by decide +kernel)) ggX1_whyNotCleared_X1_isIn
set_option maxRecDepth 20000 in
theorem ggX1_whyNotCleared_X1_vouchers : GoodIn wsX1_whyNotCleared wsX1_vouchers := goodIn_r _ [13, 14, 15, 7, 8, 5, 9, 16, 17, 18, 19, 20, 21, 22, 23, 24, 25, 26] (by decide +kernel) (by decide +kernel)
set_option maxRecDepth 20000 in
theorem gX1_whyNotCleared_X1_vouchers : GoodIn wsX1_whyNotCleared (wsV RX1 111 RX1 yX1_vouchers wsX1_vouchers) := goodIn_app (goodIn_of _ (by decide +kernel)) ggX1_whyNotCleared_X1_vouchers
theorem dX1_whyNotCleared_0 : decode cX1_whyNotCleared 0 = .ok (.aload_n 0, 1) := by decide +kernel
theorem dX1_whyNotCleared_1 : decode cX1_whyNotCleared 1 = .ok (.getfield 40, 3) := by decide +kernel
theorem dX1_whyNotCleared_4 : decode cX1_whyNotCleared 4 = .ok (.iload_n 1, 1) := by decide +kernel
theorem dX1_whyNotCleared_5 : decode cX1_whyNotCleared 5 = .ok (.invokestatic 63, 3) := by decide +kernel
theorem dX1_whyNotCleared_8 : decode cX1_whyNotCleared 8 = .ok (.ifCond .eq 5, 3) := by decide +kernel
theorem dX1_whyNotCleared_11 : decode cX1_whyNotCleared 11 = .ok (.iconst 0, 1) := by decide +kernel
theorem dX1_whyNotCleared_12 : decode cX1_whyNotCleared 12 = .ok (.ireturn, 1) := by decide +kernel
theorem dX1_whyNotCleared_13 : decode cX1_whyNotCleared 13 = .ok (.aload_n 0, 1) := by decide +kernel
theorem dX1_whyNotCleared_14 : decode cX1_whyNotCleared 14 = .ok (.getfield 37, 3) := by decide +kernel
theorem dX1_whyNotCleared_17 : decode cX1_whyNotCleared 17 = .ok (.iload_n 1, 1) := by decide +kernel
theorem dX1_whyNotCleared_18 : decode cX1_whyNotCleared 18 = .ok (.invokestatic 63, 3) := by decide +kernel
theorem dX1_whyNotCleared_21 : decode cX1_whyNotCleared 21 = .ok (.ifCond .eq 5, 3) := by decide +kernel
theorem dX1_whyNotCleared_24 : decode cX1_whyNotCleared 24 = .ok (.iconst 1, 1) := by decide +kernel
theorem dX1_whyNotCleared_25 : decode cX1_whyNotCleared 25 = .ok (.ireturn, 1) := by decide +kernel
theorem dX1_whyNotCleared_26 : decode cX1_whyNotCleared 26 = .ok (.aload_n 0, 1) := by decide +kernel
theorem dX1_whyNotCleared_27 : decode cX1_whyNotCleared 27 = .ok (.iload_n 1, 1) := by decide +kernel
theorem dX1_whyNotCleared_28 : decode cX1_whyNotCleared 28 = .ok (.invokevirtual 111, 3) := by decide +kernel
theorem dX1_whyNotCleared_31 : decode cX1_whyNotCleared 31 = .ok (.istore_n 2, 1) := by decide +kernel
theorem dX1_whyNotCleared_32 : decode cX1_whyNotCleared 32 = .ok (.iload_n 2, 1) := by decide +kernel
theorem dX1_whyNotCleared_33 : decode cX1_whyNotCleared 33 = .ok (.ifCond .ne 5, 3) := by decide +kernel
theorem dX1_whyNotCleared_36 : decode cX1_whyNotCleared 36 = .ok (.iconst 2, 1) := by decide +kernel
theorem dX1_whyNotCleared_37 : decode cX1_whyNotCleared 37 = .ok (.ireturn, 1) := by decide +kernel
theorem dX1_whyNotCleared_38 : decode cX1_whyNotCleared 38 = .ok (.iload_n 2, 1) := by decide +kernel
theorem dX1_whyNotCleared_39 : decode cX1_whyNotCleared 39 = .ok (.aload_n 0, 1) := by decide +kernel
theorem dX1_whyNotCleared_40 : decode cX1_whyNotCleared 40 = .ok (.getfield 40, 3) := by decide +kernel
theorem dX1_whyNotCleared_43 : decode cX1_whyNotCleared 43 = .ok (.iand, 1) := by decide +kernel
theorem dX1_whyNotCleared_44 : decode cX1_whyNotCleared 44 = .ok (.ifCond .ne 7, 3) := by decide +kernel
theorem dX1_whyNotCleared_47 : decode cX1_whyNotCleared 47 = .ok (.iconst 3, 1) := by decide +kernel
theorem dX1_whyNotCleared_48 : decode cX1_whyNotCleared 48 = .ok (.goto 4, 3) := by decide +kernel
theorem dX1_whyNotCleared_51 : decode cX1_whyNotCleared 51 = .ok (.iconst 4, 1) := by decide +kernel
theorem dX1_whyNotCleared_52 : decode cX1_whyNotCleared 52 = .ok (.ireturn, 1) := by decide +kernel
set_option maxRecDepth 20000 in
theorem ggX1_cartOfChain_X1_knows : GoodIn wsX1_cartOfChain wsX1_knows := goodIn_r _ [6, 7, 8, 9, 10, 11, 12, 13, 14, 15, 16, 17, 18] (by decide +kernel) (by decide +kernel)
set_option maxRecDepth 20000 in
theorem gX1_cartOfChain_X1_knows : GoodIn wsX1_cartOfChain (wsV RX1 52 RX1 yX1_knows wsX1_knows) := goodIn_app (goodIn_of _ (by decide +kernel)) ggX1_cartOfChain_X1_knows
theorem dX1_cartOfChain_0 : decode cX1_cartOfChain 0 = .ok (.aload_n 0, 1) := by decide +kernel
theorem dX1_cartOfChain_1 : decode cX1_cartOfChain 1 = .ok (.iload_n 1, 1) := by decide +kernel
theorem dX1_cartOfChain_2 : decode cX1_cartOfChain 2 = .ok (.invokevirtual 52, 3) := by decide +kernel
theorem dX1_cartOfChain_5 : decode cX1_cartOfChain 5 = .ok (.ifCond .ne 5, 3) := by decide +kernel
theorem dX1_cartOfChain_8 : decode cX1_cartOfChain 8 = .ok (.iconst (-1), 1) := by decide +kernel
theorem dX1_cartOfChain_9 : decode cX1_cartOfChain 9 = .ok (.ireturn, 1) := by decide +kernel
theorem dX1_cartOfChain_10 : decode cX1_cartOfChain 10 = .ok (.iload_n 2, 1) := by decide +kernel
theorem dX1_cartOfChain_11 : decode cX1_cartOfChain 11 = .ok (.ifCond .ge 6, 3) := by decide +kernel
theorem dX1_cartOfChain_14 : decode cX1_cartOfChain 14 = .ok (.bipush (-2), 2) := by decide +kernel
theorem dX1_cartOfChain_16 : decode cX1_cartOfChain 16 = .ok (.ireturn, 1) := by decide +kernel
theorem dX1_cartOfChain_17 : decode cX1_cartOfChain 17 = .ok (.iload_n 2, 1) := by decide +kernel
theorem dX1_cartOfChain_18 : decode cX1_cartOfChain 18 = .ok (.bipush 24, 2) := by decide +kernel
theorem dX1_cartOfChain_20 : decode cX1_cartOfChain 20 = .ok (.if_icmp .lt 6, 3) := by decide +kernel
theorem dX1_cartOfChain_23 : decode cX1_cartOfChain 23 = .ok (.bipush (-5), 2) := by decide +kernel
theorem dX1_cartOfChain_25 : decode cX1_cartOfChain 25 = .ok (.ireturn, 1) := by decide +kernel
theorem dX1_cartOfChain_26 : decode cX1_cartOfChain 26 = .ok (.iload_n 1, 1) := by decide +kernel
theorem dX1_cartOfChain_27 : decode cX1_cartOfChain 27 = .ok (.istore_n 3, 1) := by decide +kernel
theorem dX1_cartOfChain_28 : decode cX1_cartOfChain 28 = .ok (.iconst 0, 1) := by decide +kernel
theorem dX1_cartOfChain_29 : decode cX1_cartOfChain 29 = .ok (.istore 4, 2) := by decide +kernel
theorem dX1_cartOfChain_31 : decode cX1_cartOfChain 31 = .ok (.iload 4, 2) := by decide +kernel
theorem dX1_cartOfChain_33 : decode cX1_cartOfChain 33 = .ok (.iload_n 2, 1) := by decide +kernel
theorem dX1_cartOfChain_34 : decode cX1_cartOfChain 34 = .ok (.if_icmp .ge 24, 3) := by decide +kernel
theorem dX1_cartOfChain_37 : decode cX1_cartOfChain 37 = .ok (.aload_n 0, 1) := by decide +kernel
theorem dX1_cartOfChain_38 : decode cX1_cartOfChain 38 = .ok (.iload_n 3, 1) := by decide +kernel
theorem dX1_cartOfChain_39 : decode cX1_cartOfChain 39 = .ok (.invokevirtual 52, 3) := by decide +kernel
theorem dX1_cartOfChain_42 : decode cX1_cartOfChain 42 = .ok (.ifCond .eq 16, 3) := by decide +kernel
theorem dX1_cartOfChain_45 : decode cX1_cartOfChain 45 = .ok (.aload_n 0, 1) := by decide +kernel
theorem dX1_cartOfChain_46 : decode cX1_cartOfChain 46 = .ok (.getfield 21, 3) := by decide +kernel
theorem dX1_cartOfChain_49 : decode cX1_cartOfChain 49 = .ok (.iload_n 3, 1) := by decide +kernel
theorem dX1_cartOfChain_50 : decode cX1_cartOfChain 50 = .ok (.iaload, 1) := by decide +kernel
theorem dX1_cartOfChain_51 : decode cX1_cartOfChain 51 = .ok (.istore_n 3, 1) := by decide +kernel
theorem dX1_cartOfChain_52 : decode cX1_cartOfChain 52 = .ok (.iinc 4 1, 3) := by decide +kernel
theorem dX1_cartOfChain_55 : decode cX1_cartOfChain 55 = .ok (.goto (-24), 3) := by decide +kernel
theorem dX1_cartOfChain_58 : decode cX1_cartOfChain 58 = .ok (.aload_n 0, 1) := by decide +kernel
theorem dX1_cartOfChain_59 : decode cX1_cartOfChain 59 = .ok (.iload_n 3, 1) := by decide +kernel
theorem dX1_cartOfChain_60 : decode cX1_cartOfChain 60 = .ok (.invokevirtual 52, 3) := by decide +kernel
theorem dX1_cartOfChain_63 : decode cX1_cartOfChain 63 = .ok (.ifCond .eq 7, 3) := by decide +kernel
theorem dX1_cartOfChain_66 : decode cX1_cartOfChain 66 = .ok (.iload_n 3, 1) := by decide +kernel
theorem dX1_cartOfChain_67 : decode cX1_cartOfChain 67 = .ok (.goto 5, 3) := by decide +kernel
theorem dX1_cartOfChain_70 : decode cX1_cartOfChain 70 = .ok (.bipush (-5), 2) := by decide +kernel
theorem dX1_cartOfChain_72 : decode cX1_cartOfChain 72 = .ok (.ireturn, 1) := by decide +kernel
set_option maxRecDepth 20000 in
theorem ggX1_firstBroken_X1_knows : GoodIn wsX1_firstBroken wsX1_knows := goodIn_r _ [6, 7, 19, 20, 21, 22, 23, 24, 25, 26, 27, 28, 29] (by decide +kernel) (by decide +kernel)
set_option maxRecDepth 20000 in
theorem gX1_firstBroken_X1_knows : GoodIn wsX1_firstBroken (wsV RX1 52 RX1 yX1_knows wsX1_knows) := goodIn_app (goodIn_of _ (by decide +kernel)) ggX1_firstBroken_X1_knows
set_option maxRecDepth 20000 in
theorem ggX1_firstBroken_X1_isWhole : GoodIn wsX1_firstBroken wsX1_isWhole := goodIn_r _ [11, 12, 13, 14, 15, 16, 5, 17, 18, 1, 7, 19, 20, 21, 22, 23, 24, 25, 26, 27, 28, 29] (by decide +kernel) (by decide +kernel)
set_option maxRecDepth 20000 in
theorem gX1_firstBroken_X1_isWhole : GoodIn wsX1_firstBroken (wsV RX1 67 RX1 yX1_isWhole wsX1_isWhole) := goodIn_app (goodIn_of _ (by decide +kernel)) ggX1_firstBroken_X1_isWhole
theorem dX1_firstBroken_0 : decode cX1_firstBroken 0 = .ok (.aload_n 0, 1) := by decide +kernel
theorem dX1_firstBroken_1 : decode cX1_firstBroken 1 = .ok (.iload_n 1, 1) := by decide +kernel
theorem dX1_firstBroken_2 : decode cX1_firstBroken 2 = .ok (.invokevirtual 52, 3) := by decide +kernel
theorem dX1_firstBroken_5 : decode cX1_firstBroken 5 = .ok (.ifCond .ne 5, 3) := by decide +kernel
theorem dX1_firstBroken_8 : decode cX1_firstBroken 8 = .ok (.iconst (-1), 1) := by decide +kernel
theorem dX1_firstBroken_9 : decode cX1_firstBroken 9 = .ok (.ireturn, 1) := by decide +kernel
theorem dX1_firstBroken_10 : decode cX1_firstBroken 10 = .ok (.iload_n 1, 1) := by decide +kernel
theorem dX1_firstBroken_11 : decode cX1_firstBroken 11 = .ok (.istore_n 2, 1) := by decide +kernel
theorem dX1_firstBroken_12 : decode cX1_firstBroken 12 = .ok (.iconst 0, 1) := by decide +kernel
theorem dX1_firstBroken_13 : decode cX1_firstBroken 13 = .ok (.istore_n 3, 1) := by decide +kernel
theorem dX1_firstBroken_14 : decode cX1_firstBroken 14 = .ok (.iload_n 3, 1) := by decide +kernel
theorem dX1_firstBroken_15 : decode cX1_firstBroken 15 = .ok (.bipush 24, 2) := by decide +kernel
theorem dX1_firstBroken_17 : decode cX1_firstBroken 17 = .ok (.if_icmp .ge 34, 3) := by decide +kernel
theorem dX1_firstBroken_20 : decode cX1_firstBroken 20 = .ok (.aload_n 0, 1) := by decide +kernel
theorem dX1_firstBroken_21 : decode cX1_firstBroken 21 = .ok (.iload_n 2, 1) := by decide +kernel
theorem dX1_firstBroken_22 : decode cX1_firstBroken 22 = .ok (.invokevirtual 52, 3) := by decide +kernel
theorem dX1_firstBroken_25 : decode cX1_firstBroken 25 = .ok (.ifCond .eq 26, 3) := by decide +kernel
theorem dX1_firstBroken_28 : decode cX1_firstBroken 28 = .ok (.aload_n 0, 1) := by decide +kernel
theorem dX1_firstBroken_29 : decode cX1_firstBroken 29 = .ok (.iload_n 2, 1) := by decide +kernel
theorem dX1_firstBroken_30 : decode cX1_firstBroken 30 = .ok (.invokevirtual 67, 3) := by decide +kernel
theorem dX1_firstBroken_33 : decode cX1_firstBroken 33 = .ok (.ifCond .ne 5, 3) := by decide +kernel
theorem dX1_firstBroken_36 : decode cX1_firstBroken 36 = .ok (.iload_n 2, 1) := by decide +kernel
theorem dX1_firstBroken_37 : decode cX1_firstBroken 37 = .ok (.ireturn, 1) := by decide +kernel
theorem dX1_firstBroken_38 : decode cX1_firstBroken 38 = .ok (.aload_n 0, 1) := by decide +kernel
theorem dX1_firstBroken_39 : decode cX1_firstBroken 39 = .ok (.getfield 21, 3) := by decide +kernel
theorem dX1_firstBroken_42 : decode cX1_firstBroken 42 = .ok (.iload_n 2, 1) := by decide +kernel
theorem dX1_firstBroken_43 : decode cX1_firstBroken 43 = .ok (.iaload, 1) := by decide +kernel
theorem dX1_firstBroken_44 : decode cX1_firstBroken 44 = .ok (.istore_n 2, 1) := by decide +kernel
theorem dX1_firstBroken_45 : decode cX1_firstBroken 45 = .ok (.iinc 3 1, 3) := by decide +kernel
theorem dX1_firstBroken_48 : decode cX1_firstBroken 48 = .ok (.goto (-34), 3) := by decide +kernel
theorem dX1_firstBroken_51 : decode cX1_firstBroken 51 = .ok (.bipush (-5), 2) := by decide +kernel
theorem dX1_firstBroken_53 : decode cX1_firstBroken 53 = .ok (.ireturn, 1) := by decide +kernel
set_option maxRecDepth 20000 in
theorem ggX1_tellOfAll_J6_bitCount_0f7a4 : GoodIn wsX1_tellOfAll wsJ6_bitCount_0f7a4 := goodIn_r _ [10, 11, 12, 13] (by decide +kernel) (by decide +kernel)
set_option maxRecDepth 20000 in
theorem gX1_tellOfAll_J6_bitCount_0f7a4 : GoodIn wsX1_tellOfAll (va_wsS RX1 87 yJ6_bitCount_0f7a4 wsJ6_bitCount_0f7a4) := goodIn_app (goodIn_of _ (by decide +kernel)) ggX1_tellOfAll_J6_bitCount_0f7a4
set_option maxRecDepth 20000 in
theorem ggX1_tellOfAll_X1_countBroken : GoodIn wsX1_tellOfAll wsX1_countBroken := goodIn_r _ [18, 2, 19, 20, 21, 17, 22, 23, 24, 25, 26, 27, 28, 1, 29, 70, 71, 72, 73, 74, 75, 76, 77, 78, 79, 80] (by decide +kernel) (by decide +kernel)
set_option maxRecDepth 20000 in
theorem gX1_tellOfAll_X1_countBroken : GoodIn wsX1_tellOfAll (wsV RX1 120 RX1 yX1_countBroken wsX1_countBroken) := goodIn_app (goodIn_of _ (by decide +kernel)) ggX1_tellOfAll_X1_countBroken
set_option maxRecDepth 20000 in
theorem ggX1_tellOfAll_X1_finesOfAll : GoodIn wsX1_tellOfAll wsX1_finesOfAll := goodIn_r _ [33, 2, 34, 70, 71, 72, 73, 74, 75, 76, 77, 78, 79, 80] (by decide +kernel) (by decide +kernel)
set_option maxRecDepth 20000 in
theorem gX1_tellOfAll_X1_finesOfAll : GoodIn wsX1_tellOfAll (wsV RX1 123 RX1 yX1_finesOfAll wsX1_finesOfAll) := goodIn_app (goodIn_of _ (by decide +kernel)) ggX1_tellOfAll_X1_finesOfAll
set_option maxRecDepth 20000 in
theorem ggX1_tellOfAll_X1_greatestDepth : GoodIn wsX1_tellOfAll wsX1_greatestDepth := goodIn_r _ [38, 2, 39, 40, 41, 42, 43, 44, 45, 17, 46, 29, 47, 48, 49, 50, 51, 52, 53, 7, 8, 9, 10, 11, 12, 13, 70, 71, 72, 73, 74, 75, 76, 77, 78, 79, 80] (by decide +kernel) (by decide +kernel)
set_option maxRecDepth 20000 in
theorem gX1_tellOfAll_X1_greatestDepth : GoodIn wsX1_tellOfAll (wsV RX1 126 RX1 yX1_greatestDepth wsX1_greatestDepth) := goodIn_app (goodIn_of _ (by decide +kernel)) ggX1_tellOfAll_X1_greatestDepth
set_option maxRecDepth 20000 in
theorem ggX1_tellOfAll_X1_countUnvouched : GoodIn wsX1_tellOfAll wsX1_countUnvouched := goodIn_r _ [57, 2, 58, 59, 60, 17, 61, 29, 51, 52, 53, 70, 71, 72, 73, 74, 75, 76, 77, 78, 79, 80] (by decide +kernel) (by decide +kernel)
set_option maxRecDepth 20000 in
theorem gX1_tellOfAll_X1_countUnvouched : GoodIn wsX1_tellOfAll (wsV RX1 129 RX1 yX1_countUnvouched wsX1_countUnvouched) := goodIn_app (goodIn_of _ (by decide +kernel)) ggX1_tellOfAll_X1_countUnvouched
set_option maxRecDepth 20000 in
theorem ggX1_tellOfAll_X1_sacksFound : GoodIn wsX1_tellOfAll wsX1_sacksFound := goodIn_r _ [65, 2, 3, 66, 67, 68, 17, 69, 51, 52, 53, 70, 71, 72, 73, 74, 75, 76, 77, 78, 79, 80] (by decide +kernel) (by decide +kernel)
set_option maxRecDepth 20000 in
theorem gX1_tellOfAll_X1_sacksFound : GoodIn wsX1_tellOfAll (wsV RX1 132 RX1 yX1_sacksFound wsX1_sacksFound) := goodIn_app (goodIn_of _ (by decide +kernel)) ggX1_tellOfAll_X1_sacksFound
theorem dX1_tellOfAll_0 : decode cX1_tellOfAll 0 = .ok (.iload_n 1, 1) := by decide +kernel
theorem dX1_tellOfAll_1 : decode cX1_tellOfAll 1 = .ok (.ifCond .lt 15, 3) := by decide +kernel
theorem dX1_tellOfAll_4 : decode cX1_tellOfAll 4 = .ok (.iload_n 1, 1) := by decide +kernel
theorem dX1_tellOfAll_5 : decode cX1_tellOfAll 5 = .ok (.iconst 5, 1) := by decide +kernel
theorem dX1_tellOfAll_6 : decode cX1_tellOfAll 6 = .ok (.if_icmp .ge 10, 3) := by decide +kernel
theorem dX1_tellOfAll_9 : decode cX1_tellOfAll 9 = .ok (.aload_n 0, 1) := by decide +kernel
theorem dX1_tellOfAll_10 : decode cX1_tellOfAll 10 = .ok (.getfield 9, 3) := by decide +kernel
theorem dX1_tellOfAll_13 : decode cX1_tellOfAll 13 = .ok (.iload_n 1, 1) := by decide +kernel
theorem dX1_tellOfAll_14 : decode cX1_tellOfAll 14 = .ok (.iaload, 1) := by decide +kernel
theorem dX1_tellOfAll_15 : decode cX1_tellOfAll 15 = .ok (.ireturn, 1) := by decide +kernel
theorem dX1_tellOfAll_16 : decode cX1_tellOfAll 16 = .ok (.iload_n 1, 1) := by decide +kernel
theorem dX1_tellOfAll_17 : decode cX1_tellOfAll 17 = .ok (.tableswitch 114 5 14 #[55, 60, 68, 76, 84, 89, 94, 99, 104, 109], 55) := by decide +kernel
theorem dX1_tellOfAll_72 : decode cX1_tellOfAll 72 = .ok (.aload_n 0, 1) := by decide +kernel
theorem dX1_tellOfAll_73 : decode cX1_tellOfAll 73 = .ok (.getfield 30, 3) := by decide +kernel
theorem dX1_tellOfAll_76 : decode cX1_tellOfAll 76 = .ok (.ireturn, 1) := by decide +kernel
theorem dX1_tellOfAll_77 : decode cX1_tellOfAll 77 = .ok (.aload_n 0, 1) := by decide +kernel
theorem dX1_tellOfAll_78 : decode cX1_tellOfAll 78 = .ok (.getfield 34, 3) := by decide +kernel
theorem dX1_tellOfAll_81 : decode cX1_tellOfAll 81 = .ok (.invokestatic 87, 3) := by decide +kernel
theorem dX1_tellOfAll_84 : decode cX1_tellOfAll 84 = .ok (.ireturn, 1) := by decide +kernel
theorem dX1_tellOfAll_85 : decode cX1_tellOfAll 85 = .ok (.aload_n 0, 1) := by decide +kernel
theorem dX1_tellOfAll_86 : decode cX1_tellOfAll 86 = .ok (.getfield 40, 3) := by decide +kernel
theorem dX1_tellOfAll_89 : decode cX1_tellOfAll 89 = .ok (.invokestatic 87, 3) := by decide +kernel
theorem dX1_tellOfAll_92 : decode cX1_tellOfAll 92 = .ok (.ireturn, 1) := by decide +kernel
theorem dX1_tellOfAll_93 : decode cX1_tellOfAll 93 = .ok (.aload_n 0, 1) := by decide +kernel
theorem dX1_tellOfAll_94 : decode cX1_tellOfAll 94 = .ok (.getfield 37, 3) := by decide +kernel
theorem dX1_tellOfAll_97 : decode cX1_tellOfAll 97 = .ok (.invokestatic 87, 3) := by decide +kernel
theorem dX1_tellOfAll_100 : decode cX1_tellOfAll 100 = .ok (.ireturn, 1) := by decide +kernel
theorem dX1_tellOfAll_101 : decode cX1_tellOfAll 101 = .ok (.aload_n 0, 1) := by decide +kernel
theorem dX1_tellOfAll_102 : decode cX1_tellOfAll 102 = .ok (.invokevirtual 120, 3) := by decide +kernel
theorem dX1_tellOfAll_105 : decode cX1_tellOfAll 105 = .ok (.ireturn, 1) := by decide +kernel
theorem dX1_tellOfAll_106 : decode cX1_tellOfAll 106 = .ok (.aload_n 0, 1) := by decide +kernel
theorem dX1_tellOfAll_107 : decode cX1_tellOfAll 107 = .ok (.getfield 43, 3) := by decide +kernel
theorem dX1_tellOfAll_110 : decode cX1_tellOfAll 110 = .ok (.ireturn, 1) := by decide +kernel
theorem dX1_tellOfAll_111 : decode cX1_tellOfAll 111 = .ok (.aload_n 0, 1) := by decide +kernel
theorem dX1_tellOfAll_112 : decode cX1_tellOfAll 112 = .ok (.invokevirtual 123, 3) := by decide +kernel
theorem dX1_tellOfAll_115 : decode cX1_tellOfAll 115 = .ok (.ireturn, 1) := by decide +kernel
theorem dX1_tellOfAll_116 : decode cX1_tellOfAll 116 = .ok (.aload_n 0, 1) := by decide +kernel
theorem dX1_tellOfAll_117 : decode cX1_tellOfAll 117 = .ok (.invokevirtual 126, 3) := by decide +kernel
theorem dX1_tellOfAll_120 : decode cX1_tellOfAll 120 = .ok (.ireturn, 1) := by decide +kernel
theorem dX1_tellOfAll_121 : decode cX1_tellOfAll 121 = .ok (.aload_n 0, 1) := by decide +kernel
theorem dX1_tellOfAll_122 : decode cX1_tellOfAll 122 = .ok (.invokevirtual 129, 3) := by decide +kernel
theorem dX1_tellOfAll_125 : decode cX1_tellOfAll 125 = .ok (.ireturn, 1) := by decide +kernel
theorem dX1_tellOfAll_126 : decode cX1_tellOfAll 126 = .ok (.aload_n 0, 1) := by decide +kernel
theorem dX1_tellOfAll_127 : decode cX1_tellOfAll 127 = .ok (.invokevirtual 132, 3) := by decide +kernel
theorem dX1_tellOfAll_130 : decode cX1_tellOfAll 130 = .ok (.ireturn, 1) := by decide +kernel
theorem dX1_tellOfAll_131 : decode cX1_tellOfAll 131 = .ok (.bipush (-2), 2) := by decide +kernel
theorem dX1_tellOfAll_133 : decode cX1_tellOfAll 133 = .ok (.ireturn, 1) := by decide +kernel
set_option maxRecDepth 20000 in
theorem ggX1_countBroken_X1_isWhole : GoodIn wsX1_countBroken wsX1_isWhole := goodIn_r _ [6, 7, 8, 9, 10, 11, 5, 12, 13, 14, 1, 15, 16, 17, 18, 19, 20, 21, 22, 23, 24, 25] (by decide +kernel) (by decide +kernel)
set_option maxRecDepth 20000 in
theorem gX1_countBroken_X1_isWhole : GoodIn wsX1_countBroken (wsV RX1 67 RX1 yX1_isWhole wsX1_isWhole) := goodIn_app (goodIn_of _ (by decide +kernel)) ggX1_countBroken_X1_isWhole
theorem dX1_countBroken_0 : decode cX1_countBroken 0 = .ok (.iconst 0, 1) := by decide +kernel
theorem dX1_countBroken_1 : decode cX1_countBroken 1 = .ok (.istore_n 1, 1) := by decide +kernel
theorem dX1_countBroken_2 : decode cX1_countBroken 2 = .ok (.iconst 0, 1) := by decide +kernel
theorem dX1_countBroken_3 : decode cX1_countBroken 3 = .ok (.istore_n 2, 1) := by decide +kernel
theorem dX1_countBroken_4 : decode cX1_countBroken 4 = .ok (.iload_n 2, 1) := by decide +kernel
theorem dX1_countBroken_5 : decode cX1_countBroken 5 = .ok (.aload_n 0, 1) := by decide +kernel
theorem dX1_countBroken_6 : decode cX1_countBroken 6 = .ok (.getfield 30, 3) := by decide +kernel
theorem dX1_countBroken_9 : decode cX1_countBroken 9 = .ok (.if_icmp .ge 20, 3) := by decide +kernel
theorem dX1_countBroken_12 : decode cX1_countBroken 12 = .ok (.aload_n 0, 1) := by decide +kernel
theorem dX1_countBroken_13 : decode cX1_countBroken 13 = .ok (.iload_n 2, 1) := by decide +kernel
theorem dX1_countBroken_14 : decode cX1_countBroken 14 = .ok (.invokevirtual 67, 3) := by decide +kernel
theorem dX1_countBroken_17 : decode cX1_countBroken 17 = .ok (.ifCond .ne 6, 3) := by decide +kernel
theorem dX1_countBroken_20 : decode cX1_countBroken 20 = .ok (.iinc 1 1, 3) := by decide +kernel
theorem dX1_countBroken_23 : decode cX1_countBroken 23 = .ok (.iinc 2 1, 3) := by decide +kernel
theorem dX1_countBroken_26 : decode cX1_countBroken 26 = .ok (.goto (-22), 3) := by decide +kernel
theorem dX1_countBroken_29 : decode cX1_countBroken 29 = .ok (.iload_n 1, 1) := by decide +kernel
theorem dX1_countBroken_30 : decode cX1_countBroken 30 = .ok (.ireturn, 1) := by decide +kernel
set_option maxRecDepth 20000 in
theorem ggX1_greatestDepth_X1_chainOf : GoodIn wsX1_greatestDepth wsX1_chainOf := goodIn_r _ [10, 11, 12, 13, 14, 9, 15, 1, 16, 17, 18, 26, 27, 28, 29, 30, 31, 32, 33, 34, 35, 36] (by decide +kernel) (by decide +kernel)
set_option maxRecDepth 20000 in
theorem gX1_greatestDepth_X1_chainOf : GoodIn wsX1_greatestDepth (wsV RX1 108 RX1 yX1_chainOf wsX1_chainOf) := goodIn_app (goodIn_of _ (by decide +kernel)) ggX1_greatestDepth_X1_chainOf
set_option maxRecDepth 20000 in
theorem ggX1_greatestDepth_J6_bitCount_0f7a4 : GoodIn wsX1_greatestDepth wsJ6_bitCount_0f7a4 := goodIn_r _ [22, 23, 24, 25] (by decide +kernel) (by decide +kernel)
set_option maxRecDepth 20000 in
theorem gX1_greatestDepth_J6_bitCount_0f7a4 : GoodIn wsX1_greatestDepth (va_wsS RX1 87 yJ6_bitCount_0f7a4 wsJ6_bitCount_0f7a4) := goodIn_app (goodIn_of _ (by decide +kernel)) ggX1_greatestDepth_J6_bitCount_0f7a4
theorem dX1_greatestDepth_0 : decode cX1_greatestDepth 0 = .ok (.iconst 0, 1) := by decide +kernel
theorem dX1_greatestDepth_1 : decode cX1_greatestDepth 1 = .ok (.istore_n 1, 1) := by decide +kernel
theorem dX1_greatestDepth_2 : decode cX1_greatestDepth 2 = .ok (.iconst 0, 1) := by decide +kernel
theorem dX1_greatestDepth_3 : decode cX1_greatestDepth 3 = .ok (.istore_n 2, 1) := by decide +kernel
theorem dX1_greatestDepth_4 : decode cX1_greatestDepth 4 = .ok (.iload_n 2, 1) := by decide +kernel
theorem dX1_greatestDepth_5 : decode cX1_greatestDepth 5 = .ok (.aload_n 0, 1) := by decide +kernel
theorem dX1_greatestDepth_6 : decode cX1_greatestDepth 6 = .ok (.getfield 30, 3) := by decide +kernel
theorem dX1_greatestDepth_9 : decode cX1_greatestDepth 9 = .ok (.if_icmp .ge 22, 3) := by decide +kernel
theorem dX1_greatestDepth_12 : decode cX1_greatestDepth 12 = .ok (.iload_n 1, 1) := by decide +kernel
theorem dX1_greatestDepth_13 : decode cX1_greatestDepth 13 = .ok (.aload_n 0, 1) := by decide +kernel
theorem dX1_greatestDepth_14 : decode cX1_greatestDepth 14 = .ok (.iload_n 2, 1) := by decide +kernel
theorem dX1_greatestDepth_15 : decode cX1_greatestDepth 15 = .ok (.invokevirtual 108, 3) := by decide +kernel
theorem dX1_greatestDepth_18 : decode cX1_greatestDepth 18 = .ok (.invokestatic 87, 3) := by decide +kernel
theorem dX1_greatestDepth_21 : decode cX1_greatestDepth 21 = .ok (.invokestatic 135, 3) := by decide +kernel
theorem dX1_greatestDepth_24 : decode cX1_greatestDepth 24 = .ok (.istore_n 1, 1) := by decide +kernel
theorem dX1_greatestDepth_25 : decode cX1_greatestDepth 25 = .ok (.iinc 2 1, 3) := by decide +kernel
theorem dX1_greatestDepth_28 : decode cX1_greatestDepth 28 = .ok (.goto (-24), 3) := by decide +kernel
theorem dX1_greatestDepth_31 : decode cX1_greatestDepth 31 = .ok (.iload_n 1, 1) := by decide +kernel
theorem dX1_greatestDepth_32 : decode cX1_greatestDepth 32 = .ok (.ireturn, 1) := by decide +kernel
set_option maxRecDepth 20000 in
theorem ggX1_countUnvouched_X1_vouchers : GoodIn wsX1_countUnvouched wsX1_vouchers := goodIn_r _ [6, 1, 7, 8, 9, 5, 10, 11, 12, 13, 14, 15, 16, 17, 18, 19, 20, 21] (by decide +kernel) (by decide +kernel)
set_option maxRecDepth 20000 in
theorem gX1_countUnvouched_X1_vouchers : GoodIn wsX1_countUnvouched (wsV RX1 111 RX1 yX1_vouchers wsX1_vouchers) := goodIn_app (goodIn_of _ (by decide +kernel)) ggX1_countUnvouched_X1_vouchers
theorem dX1_countUnvouched_0 : decode cX1_countUnvouched 0 = .ok (.iconst 0, 1) := by decide +kernel
theorem dX1_countUnvouched_1 : decode cX1_countUnvouched 1 = .ok (.istore_n 1, 1) := by decide +kernel
theorem dX1_countUnvouched_2 : decode cX1_countUnvouched 2 = .ok (.iconst 0, 1) := by decide +kernel
theorem dX1_countUnvouched_3 : decode cX1_countUnvouched 3 = .ok (.istore_n 2, 1) := by decide +kernel
theorem dX1_countUnvouched_4 : decode cX1_countUnvouched 4 = .ok (.iload_n 2, 1) := by decide +kernel
theorem dX1_countUnvouched_5 : decode cX1_countUnvouched 5 = .ok (.aload_n 0, 1) := by decide +kernel
theorem dX1_countUnvouched_6 : decode cX1_countUnvouched 6 = .ok (.getfield 30, 3) := by decide +kernel
theorem dX1_countUnvouched_9 : decode cX1_countUnvouched 9 = .ok (.if_icmp .ge 20, 3) := by decide +kernel
theorem dX1_countUnvouched_12 : decode cX1_countUnvouched 12 = .ok (.aload_n 0, 1) := by decide +kernel
theorem dX1_countUnvouched_13 : decode cX1_countUnvouched 13 = .ok (.iload_n 2, 1) := by decide +kernel
theorem dX1_countUnvouched_14 : decode cX1_countUnvouched 14 = .ok (.invokevirtual 111, 3) := by decide +kernel
theorem dX1_countUnvouched_17 : decode cX1_countUnvouched 17 = .ok (.ifCond .ne 6, 3) := by decide +kernel
theorem dX1_countUnvouched_20 : decode cX1_countUnvouched 20 = .ok (.iinc 1 1, 3) := by decide +kernel
theorem dX1_countUnvouched_23 : decode cX1_countUnvouched 23 = .ok (.iinc 2 1, 3) := by decide +kernel
theorem dX1_countUnvouched_26 : decode cX1_countUnvouched 26 = .ok (.goto (-22), 3) := by decide +kernel
theorem dX1_countUnvouched_29 : decode cX1_countUnvouched 29 = .ok (.iload_n 1, 1) := by decide +kernel
theorem dX1_countUnvouched_30 : decode cX1_countUnvouched 30 = .ok (.ireturn, 1) := by decide +kernel
theorem dX1_finesOfAll_0 : decode cX1_finesOfAll 0 = .ok (.iconst 0, 1) := by decide +kernel
theorem dX1_finesOfAll_1 : decode cX1_finesOfAll 1 = .ok (.istore_n 1, 1) := by decide +kernel
theorem dX1_finesOfAll_2 : decode cX1_finesOfAll 2 = .ok (.iconst 0, 1) := by decide +kernel
theorem dX1_finesOfAll_3 : decode cX1_finesOfAll 3 = .ok (.istore_n 2, 1) := by decide +kernel
theorem dX1_finesOfAll_4 : decode cX1_finesOfAll 4 = .ok (.iload_n 2, 1) := by decide +kernel
theorem dX1_finesOfAll_5 : decode cX1_finesOfAll 5 = .ok (.aload_n 0, 1) := by decide +kernel
theorem dX1_finesOfAll_6 : decode cX1_finesOfAll 6 = .ok (.getfield 30, 3) := by decide +kernel
theorem dX1_finesOfAll_9 : decode cX1_finesOfAll 9 = .ok (.if_icmp .ge 18, 3) := by decide +kernel
theorem dX1_finesOfAll_12 : decode cX1_finesOfAll 12 = .ok (.iload_n 1, 1) := by decide +kernel
theorem dX1_finesOfAll_13 : decode cX1_finesOfAll 13 = .ok (.aload_n 0, 1) := by decide +kernel
theorem dX1_finesOfAll_14 : decode cX1_finesOfAll 14 = .ok (.getfield 27, 3) := by decide +kernel
theorem dX1_finesOfAll_17 : decode cX1_finesOfAll 17 = .ok (.iload_n 2, 1) := by decide +kernel
theorem dX1_finesOfAll_18 : decode cX1_finesOfAll 18 = .ok (.iaload, 1) := by decide +kernel
theorem dX1_finesOfAll_19 : decode cX1_finesOfAll 19 = .ok (.iadd, 1) := by decide +kernel
theorem dX1_finesOfAll_20 : decode cX1_finesOfAll 20 = .ok (.istore_n 1, 1) := by decide +kernel
theorem dX1_finesOfAll_21 : decode cX1_finesOfAll 21 = .ok (.iinc 2 1, 3) := by decide +kernel
theorem dX1_finesOfAll_24 : decode cX1_finesOfAll 24 = .ok (.goto (-20), 3) := by decide +kernel
theorem dX1_finesOfAll_27 : decode cX1_finesOfAll 27 = .ok (.iload_n 1, 1) := by decide +kernel
theorem dX1_finesOfAll_28 : decode cX1_finesOfAll 28 = .ok (.ireturn, 1) := by decide +kernel
set_option maxRecDepth 20000 in
theorem ggX1_sacksFound_X1_isIn : GoodIn wsX1_sacksFound wsX1_isIn := goodIn_r _ [7, 8, 9, 6, 10] (by decide +kernel) (by decide +kernel)
set_option maxRecDepth 20000 in
theorem gX1_sacksFound_X1_isIn : GoodIn wsX1_sacksFound (va_wsS RX1 63 yX1_isIn wsX1_isIn) := goodIn_app (goodIn_of _ (by decide +kernel)) ggX1_sacksFound_X1_isIn
theorem dX1_sacksFound_0 : decode cX1_sacksFound 0 = .ok (.iconst 0, 1) := by decide +kernel
theorem dX1_sacksFound_1 : decode cX1_sacksFound 1 = .ok (.istore_n 1, 1) := by decide +kernel
theorem dX1_sacksFound_2 : decode cX1_sacksFound 2 = .ok (.iconst 0, 1) := by decide +kernel
theorem dX1_sacksFound_3 : decode cX1_sacksFound 3 = .ok (.istore_n 2, 1) := by decide +kernel
theorem dX1_sacksFound_4 : decode cX1_sacksFound 4 = .ok (.iload_n 2, 1) := by decide +kernel
theorem dX1_sacksFound_5 : decode cX1_sacksFound 5 = .ok (.aload_n 0, 1) := by decide +kernel
theorem dX1_sacksFound_6 : decode cX1_sacksFound 6 = .ok (.getfield 30, 3) := by decide +kernel
theorem dX1_sacksFound_9 : decode cX1_sacksFound 9 = .ok (.if_icmp .ge 29, 3) := by decide +kernel
theorem dX1_sacksFound_12 : decode cX1_sacksFound 12 = .ok (.aload_n 0, 1) := by decide +kernel
theorem dX1_sacksFound_13 : decode cX1_sacksFound 13 = .ok (.getfield 34, 3) := by decide +kernel
theorem dX1_sacksFound_16 : decode cX1_sacksFound 16 = .ok (.iload_n 2, 1) := by decide +kernel
theorem dX1_sacksFound_17 : decode cX1_sacksFound 17 = .ok (.invokestatic 63, 3) := by decide +kernel
theorem dX1_sacksFound_20 : decode cX1_sacksFound 20 = .ok (.ifCond .eq 12, 3) := by decide +kernel
theorem dX1_sacksFound_23 : decode cX1_sacksFound 23 = .ok (.iload_n 1, 1) := by decide +kernel
theorem dX1_sacksFound_24 : decode cX1_sacksFound 24 = .ok (.aload_n 0, 1) := by decide +kernel
theorem dX1_sacksFound_25 : decode cX1_sacksFound 25 = .ok (.getfield 18, 3) := by decide +kernel
theorem dX1_sacksFound_28 : decode cX1_sacksFound 28 = .ok (.iload_n 2, 1) := by decide +kernel
theorem dX1_sacksFound_29 : decode cX1_sacksFound 29 = .ok (.iaload, 1) := by decide +kernel
theorem dX1_sacksFound_30 : decode cX1_sacksFound 30 = .ok (.iadd, 1) := by decide +kernel
theorem dX1_sacksFound_31 : decode cX1_sacksFound 31 = .ok (.istore_n 1, 1) := by decide +kernel
theorem dX1_sacksFound_32 : decode cX1_sacksFound 32 = .ok (.iinc 2 1, 3) := by decide +kernel
theorem dX1_sacksFound_35 : decode cX1_sacksFound 35 = .ok (.goto (-31), 3) := by decide +kernel
theorem dX1_sacksFound_38 : decode cX1_sacksFound 38 = .ok (.iload_n 1, 1) := by decide +kernel
theorem dX1_sacksFound_39 : decode cX1_sacksFound 39 = .ok (.ireturn, 1) := by decide +kernel
set_option maxRecDepth 20000 in
theorem ggX1_foretell_X1_knows : GoodIn wsX1_foretell wsX1_knows := goodIn_r _ [7, 8, 59, 60, 61, 62, 63, 64, 65, 66, 67, 68, 69] (by decide +kernel) (by decide +kernel)
set_option maxRecDepth 20000 in
theorem gX1_foretell_X1_knows : GoodIn wsX1_foretell (wsV RX1 52 RX1 yX1_knows wsX1_knows) := goodIn_app (goodIn_of _ (by decide +kernel)) ggX1_foretell_X1_knows
set_option maxRecDepth 20000 in
theorem ggX1_foretell_X1_isIn : GoodIn wsX1_foretell wsX1_isIn := goodIn_r _ [11, 12, 13, 6, 14] (by decide +kernel) (by decide +kernel)
set_option maxRecDepth 20000 in
theorem gX1_foretell_X1_isIn : GoodIn wsX1_foretell (va_wsS RX1 63 yX1_isIn wsX1_isIn) := goodIn_app (goodIn_of _ (by decide +kernel)) ggX1_foretell_X1_isIn
set_option maxRecDepth 20000 in
theorem ggX1_foretell_X1_clearedIfHonest : GoodIn wsX1_foretell wsX1_clearedIfHonest := goodIn_r _ [18, 19, 20, 21, 22, 23, 6, 24, 25, 3, 4, 5, 7, 8, 12, 13, 14, 26, 27, 28, 29, 30, 31, 32, 33, 34, 35, 2, 59, 60, 61, 62, 63, 64, 65, 66, 67, 68, 69] (by decide +kernel) (by decide +kernel)
set_option maxRecDepth 20000 in
theorem gX1_foretell_X1_clearedIfHonest : GoodIn wsX1_foretell (wsV RX1 84 RX1 yX1_clearedIfHonest wsX1_clearedIfHonest) := goodIn_app (goodIn_of _ (by decide +kernel)) ggX1_foretell_X1_clearedIfHonest
set_option maxRecDepth 20000 in
theorem ggX1_foretell_J6_bitCount_0f7a4 : GoodIn wsX1_foretell wsJ6_bitCount_0f7a4 := goodIn_r _ [39, 40, 41, 42] (by decide +kernel) (by decide +kernel)
set_option maxRecDepth 20000 in
theorem gX1_foretell_J6_bitCount_0f7a4 : GoodIn wsX1_foretell (va_wsS RX1 87 yJ6_bitCount_0f7a4 wsJ6_bitCount_0f7a4) := goodIn_app (goodIn_of _ (by decide +kernel)) ggX1_foretell_J6_bitCount_0f7a4
set_option maxRecDepth 20000 in
theorem ggX1_foretell_X1_ownFine : GoodIn wsX1_foretell wsX1_ownFine := goodIn_r _ [46, 2, 31, 47, 48, 49, 50, 26, 27, 28, 6, 29, 30, 32, 33, 34, 35, 25, 8, 51, 52, 53, 54, 59, 60, 61, 62, 63, 64, 65, 66, 67, 68, 69] (by decide +kernel) (by decide +kernel)
set_option maxRecDepth 20000 in
theorem gX1_foretell_X1_ownFine : GoodIn wsX1_foretell (wsV RX1 73 RX1 yX1_ownFine wsX1_ownFine) := goodIn_app (goodIn_of _ (by decide +kernel)) ggX1_foretell_X1_ownFine
set_option maxRecDepth 20000 in
theorem ggX1_foretell_X1_isLie : GoodIn wsX1_foretell wsX1_isLie := goodIn_r _ [54, 31, 59, 60, 61, 62, 63, 64, 65, 66, 67, 68, 69] (by decide +kernel) (by decide +kernel)
set_option maxRecDepth 20000 in
theorem gX1_foretell_X1_isLie : GoodIn wsX1_foretell (wsV RX1 77 RX1 yX1_isLie wsX1_isLie) := goodIn_app (goodIn_of _ (by decide +kernel)) ggX1_foretell_X1_isLie
set_option maxRecDepth 20000 in
theorem ggX1_foretell_X1_wholeVouchers : GoodIn wsX1_foretell wsX1_wholeVouchers := goodIn_r _ [58, 8, 25, 26, 27, 28, 6, 29, 30, 31, 32, 33, 34, 35, 2, 12, 13, 14, 59, 60, 61, 62, 63, 64, 65, 66, 67, 68, 69] (by decide +kernel) (by decide +kernel)
set_option maxRecDepth 20000 in
theorem gX1_foretell_X1_wholeVouchers : GoodIn wsX1_foretell (wsV RX1 92 RX1 yX1_wholeVouchers wsX1_wholeVouchers) := goodIn_app (goodIn_of _ (by decide +kernel)) ggX1_foretell_X1_wholeVouchers
theorem dX1_foretell_0 : decode cX1_foretell 0 = .ok (.aload_n 0, 1) := by decide +kernel
theorem dX1_foretell_1 : decode cX1_foretell 1 = .ok (.iload_n 1, 1) := by decide +kernel
theorem dX1_foretell_2 : decode cX1_foretell 2 = .ok (.invokevirtual 52, 3) := by decide +kernel
theorem dX1_foretell_5 : decode cX1_foretell 5 = .ok (.ifCond .ne 5, 3) := by decide +kernel
theorem dX1_foretell_8 : decode cX1_foretell 8 = .ok (.iconst (-1), 1) := by decide +kernel
theorem dX1_foretell_9 : decode cX1_foretell 9 = .ok (.ireturn, 1) := by decide +kernel
theorem dX1_foretell_10 : decode cX1_foretell 10 = .ok (.iload_n 2, 1) := by decide +kernel
theorem dX1_foretell_11 : decode cX1_foretell 11 = .ok (.ifCond .lt 8, 3) := by decide +kernel
theorem dX1_foretell_14 : decode cX1_foretell 14 = .ok (.iload_n 2, 1) := by decide +kernel
theorem dX1_foretell_15 : decode cX1_foretell 15 = .ok (.iconst 2, 1) := by decide +kernel
theorem dX1_foretell_16 : decode cX1_foretell 16 = .ok (.if_icmp .le 6, 3) := by decide +kernel
theorem dX1_foretell_19 : decode cX1_foretell 19 = .ok (.bipush (-2), 2) := by decide +kernel
theorem dX1_foretell_21 : decode cX1_foretell 21 = .ok (.ireturn, 1) := by decide +kernel
theorem dX1_foretell_22 : decode cX1_foretell 22 = .ok (.aload_n 0, 1) := by decide +kernel
theorem dX1_foretell_23 : decode cX1_foretell 23 = .ok (.getfield 34, 3) := by decide +kernel
theorem dX1_foretell_26 : decode cX1_foretell 26 = .ok (.iload_n 1, 1) := by decide +kernel
theorem dX1_foretell_27 : decode cX1_foretell 27 = .ok (.invokestatic 63, 3) := by decide +kernel
theorem dX1_foretell_30 : decode cX1_foretell 30 = .ok (.ifCond .eq 6, 3) := by decide +kernel
theorem dX1_foretell_33 : decode cX1_foretell 33 = .ok (.bipush (-4), 2) := by decide +kernel
theorem dX1_foretell_35 : decode cX1_foretell 35 = .ok (.ireturn, 1) := by decide +kernel
theorem dX1_foretell_36 : decode cX1_foretell 36 = .ok (.iload_n 2, 1) := by decide +kernel
theorem dX1_foretell_37 : decode cX1_foretell 37 = .ok (.ifCond .ne 12, 3) := by decide +kernel
theorem dX1_foretell_40 : decode cX1_foretell 40 = .ok (.aload_n 0, 1) := by decide +kernel
theorem dX1_foretell_41 : decode cX1_foretell 41 = .ok (.iload_n 1, 1) := by decide +kernel
theorem dX1_foretell_42 : decode cX1_foretell 42 = .ok (.invokevirtual 84, 3) := by decide +kernel
theorem dX1_foretell_45 : decode cX1_foretell 45 = .ok (.invokestatic 87, 3) := by decide +kernel
theorem dX1_foretell_48 : decode cX1_foretell 48 = .ok (.ireturn, 1) := by decide +kernel
theorem dX1_foretell_49 : decode cX1_foretell 49 = .ok (.iload_n 2, 1) := by decide +kernel
theorem dX1_foretell_50 : decode cX1_foretell 50 = .ok (.iconst 1, 1) := by decide +kernel
theorem dX1_foretell_51 : decode cX1_foretell 51 = .ok (.if_icmp .ne 10, 3) := by decide +kernel
theorem dX1_foretell_54 : decode cX1_foretell 54 = .ok (.aload_n 0, 1) := by decide +kernel
theorem dX1_foretell_55 : decode cX1_foretell 55 = .ok (.iload_n 1, 1) := by decide +kernel
theorem dX1_foretell_56 : decode cX1_foretell 56 = .ok (.iconst 0, 1) := by decide +kernel
theorem dX1_foretell_57 : decode cX1_foretell 57 = .ok (.invokevirtual 73, 3) := by decide +kernel
theorem dX1_foretell_60 : decode cX1_foretell 60 = .ok (.ireturn, 1) := by decide +kernel
theorem dX1_foretell_61 : decode cX1_foretell 61 = .ok (.aload_n 0, 1) := by decide +kernel
theorem dX1_foretell_62 : decode cX1_foretell 62 = .ok (.iload_n 1, 1) := by decide +kernel
theorem dX1_foretell_63 : decode cX1_foretell 63 = .ok (.iconst 0, 1) := by decide +kernel
theorem dX1_foretell_64 : decode cX1_foretell 64 = .ok (.invokevirtual 77, 3) := by decide +kernel
theorem dX1_foretell_67 : decode cX1_foretell 67 = .ok (.ifCond .eq 21, 3) := by decide +kernel
theorem dX1_foretell_70 : decode cX1_foretell 70 = .ok (.aload_n 0, 1) := by decide +kernel
theorem dX1_foretell_71 : decode cX1_foretell 71 = .ok (.getfield 9, 3) := by decide +kernel
theorem dX1_foretell_74 : decode cX1_foretell 74 = .ok (.iconst 4, 1) := by decide +kernel
theorem dX1_foretell_75 : decode cX1_foretell 75 = .ok (.iaload, 1) := by decide +kernel
theorem dX1_foretell_76 : decode cX1_foretell 76 = .ok (.aload_n 0, 1) := by decide +kernel
theorem dX1_foretell_77 : decode cX1_foretell 77 = .ok (.iload_n 1, 1) := by decide +kernel
theorem dX1_foretell_78 : decode cX1_foretell 78 = .ok (.invokevirtual 92, 3) := by decide +kernel
theorem dX1_foretell_81 : decode cX1_foretell 81 = .ok (.invokestatic 87, 3) := by decide +kernel
theorem dX1_foretell_84 : decode cX1_foretell 84 = .ok (.imul, 1) := by decide +kernel
theorem dX1_foretell_85 : decode cX1_foretell 85 = .ok (.goto 4, 3) := by decide +kernel
theorem dX1_foretell_88 : decode cX1_foretell 88 = .ok (.iconst 0, 1) := by decide +kernel
theorem dX1_foretell_89 : decode cX1_foretell 89 = .ok (.ireturn, 1) := by decide +kernel
set_option maxRecDepth 20000 in
theorem ggX1_countEnds_X1_waiting : GoodIn wsX1_countEnds wsX1_waiting := goodIn_r _ [6, 7, 8, 9, 10, 11, 5, 12, 1, 13, 14, 15, 46, 47, 48, 49, 50, 51, 52, 53, 54, 55, 56] (by decide +kernel) (by decide +kernel)
set_option maxRecDepth 20000 in
theorem gX1_countEnds_X1_waiting : GoodIn wsX1_countEnds (wsV RX1 95 RX1 yX1_waiting wsX1_waiting) := goodIn_app (goodIn_of _ (by decide +kernel)) ggX1_countEnds_X1_waiting
set_option maxRecDepth 20000 in
theorem ggX1_countEnds_X1_isIn : GoodIn wsX1_countEnds wsX1_isIn := goodIn_r _ [18, 13, 14, 5, 15] (by decide +kernel) (by decide +kernel)
set_option maxRecDepth 20000 in
theorem gX1_countEnds_X1_isIn : GoodIn wsX1_countEnds (va_wsS RX1 63 yX1_isIn wsX1_isIn) := goodIn_app (goodIn_of _ (by decide +kernel)) ggX1_countEnds_X1_isIn
set_option maxRecDepth 20000 in
theorem ggX1_countEnds_X1_reachedFrom : GoodIn wsX1_countEnds wsX1_reachedFrom := goodIn_r _ [22, 23, 24, 25, 26, 5, 27, 1, 13, 14, 15, 28, 29, 30, 31, 32, 33, 34, 35, 36, 37, 38, 46, 47, 48, 49, 50, 51, 52, 53, 54, 55, 56] (by decide +kernel) (by decide +kernel)
set_option maxRecDepth 20000 in
theorem gX1_countEnds_X1_reachedFrom : GoodIn wsX1_countEnds (wsV RX1 140 RX1 yX1_reachedFrom wsX1_reachedFrom) := goodIn_app (goodIn_of _ (by decide +kernel)) ggX1_countEnds_X1_reachedFrom
set_option maxRecDepth 20000 in
theorem ggX1_countEnds_X1_bit : GoodIn wsX1_countEnds wsX1_bit := goodIn_r _ [15] (by decide +kernel) (by decide +kernel)
set_option maxRecDepth 20000 in
theorem gX1_countEnds_X1_bit : GoodIn wsX1_countEnds (va_wsS RX1 70 yX1_bit wsX1_bit) := goodIn_app (goodIn_of _ (by decide +kernel)) ggX1_countEnds_X1_bit
set_option maxRecDepth 20000 in
theorem ggX1_countEnds_J6_bitCount_0f7a4 : GoodIn wsX1_countEnds wsJ6_bitCount_0f7a4 := goodIn_r _ [42, 43, 44, 45] (by decide +kernel) (by decide +kernel)
set_option maxRecDepth 20000 in
theorem gX1_countEnds_J6_bitCount_0f7a4 : GoodIn wsX1_countEnds (va_wsS RX1 87 yJ6_bitCount_0f7a4 wsJ6_bitCount_0f7a4) := goodIn_app (goodIn_of _ (by decide +kernel)) ggX1_countEnds_J6_bitCount_0f7a4
theorem dX1_countEnds_0 : decode cX1_countEnds 0 = .ok (.aload_n 0, 1) := by decide +kernel
theorem dX1_countEnds_1 : decode cX1_countEnds 1 = .ok (.invokevirtual 95, 3) := by decide +kernel
theorem dX1_countEnds_4 : decode cX1_countEnds 4 = .ok (.istore_n 1, 1) := by decide +kernel
theorem dX1_countEnds_5 : decode cX1_countEnds 5 = .ok (.iconst 0, 1) := by decide +kernel
theorem dX1_countEnds_6 : decode cX1_countEnds 6 = .ok (.istore_n 2, 1) := by decide +kernel
theorem dX1_countEnds_7 : decode cX1_countEnds 7 = .ok (.iconst 0, 1) := by decide +kernel
theorem dX1_countEnds_8 : decode cX1_countEnds 8 = .ok (.istore_n 3, 1) := by decide +kernel
theorem dX1_countEnds_9 : decode cX1_countEnds 9 = .ok (.iload_n 3, 1) := by decide +kernel
theorem dX1_countEnds_10 : decode cX1_countEnds 10 = .ok (.aload_n 0, 1) := by decide +kernel
theorem dX1_countEnds_11 : decode cX1_countEnds 11 = .ok (.getfield 30, 3) := by decide +kernel
theorem dX1_countEnds_14 : decode cX1_countEnds 14 = .ok (.if_icmp .ge 32, 3) := by decide +kernel
theorem dX1_countEnds_17 : decode cX1_countEnds 17 = .ok (.iload_n 1, 1) := by decide +kernel
theorem dX1_countEnds_18 : decode cX1_countEnds 18 = .ok (.iload_n 3, 1) := by decide +kernel
theorem dX1_countEnds_19 : decode cX1_countEnds 19 = .ok (.invokestatic 63, 3) := by decide +kernel
theorem dX1_countEnds_22 : decode cX1_countEnds 22 = .ok (.ifCond .eq 18, 3) := by decide +kernel
theorem dX1_countEnds_25 : decode cX1_countEnds 25 = .ok (.iload_n 2, 1) := by decide +kernel
theorem dX1_countEnds_26 : decode cX1_countEnds 26 = .ok (.aload_n 0, 1) := by decide +kernel
theorem dX1_countEnds_27 : decode cX1_countEnds 27 = .ok (.iload_n 3, 1) := by decide +kernel
theorem dX1_countEnds_28 : decode cX1_countEnds 28 = .ok (.invokevirtual 140, 3) := by decide +kernel
theorem dX1_countEnds_31 : decode cX1_countEnds 31 = .ok (.iload_n 3, 1) := by decide +kernel
theorem dX1_countEnds_32 : decode cX1_countEnds 32 = .ok (.invokestatic 70, 3) := by decide +kernel
theorem dX1_countEnds_35 : decode cX1_countEnds 35 = .ok (.iconst (-1), 1) := by decide +kernel
theorem dX1_countEnds_36 : decode cX1_countEnds 36 = .ok (.ixor, 1) := by decide +kernel
theorem dX1_countEnds_37 : decode cX1_countEnds 37 = .ok (.iand, 1) := by decide +kernel
theorem dX1_countEnds_38 : decode cX1_countEnds 38 = .ok (.ior, 1) := by decide +kernel
theorem dX1_countEnds_39 : decode cX1_countEnds 39 = .ok (.istore_n 2, 1) := by decide +kernel
theorem dX1_countEnds_40 : decode cX1_countEnds 40 = .ok (.iinc 3 1, 3) := by decide +kernel
theorem dX1_countEnds_43 : decode cX1_countEnds 43 = .ok (.goto (-34), 3) := by decide +kernel
theorem dX1_countEnds_46 : decode cX1_countEnds 46 = .ok (.iload_n 1, 1) := by decide +kernel
theorem dX1_countEnds_47 : decode cX1_countEnds 47 = .ok (.iload_n 2, 1) := by decide +kernel
theorem dX1_countEnds_48 : decode cX1_countEnds 48 = .ok (.iconst (-1), 1) := by decide +kernel
theorem dX1_countEnds_49 : decode cX1_countEnds 49 = .ok (.ixor, 1) := by decide +kernel
theorem dX1_countEnds_50 : decode cX1_countEnds 50 = .ok (.iand, 1) := by decide +kernel
theorem dX1_countEnds_51 : decode cX1_countEnds 51 = .ok (.invokestatic 87, 3) := by decide +kernel
theorem dX1_countEnds_54 : decode cX1_countEnds 54 = .ok (.ireturn, 1) := by decide +kernel
set_option maxRecDepth 20000 in
theorem ggX1_countHonestOpenings_X1_waiting : GoodIn wsX1_countHonestOpenings wsX1_waiting := goodIn_r _ [6, 7, 8, 9, 10, 11, 5, 12, 1, 13, 14, 15, 39, 40, 41, 42, 43, 44, 45, 46, 47, 48, 49] (by decide +kernel) (by decide +kernel)
set_option maxRecDepth 20000 in
theorem gX1_countHonestOpenings_X1_waiting : GoodIn wsX1_countHonestOpenings (wsV RX1 95 RX1 yX1_waiting wsX1_waiting) := goodIn_app (goodIn_of _ (by decide +kernel)) ggX1_countHonestOpenings_X1_waiting
set_option maxRecDepth 20000 in
theorem ggX1_countHonestOpenings_X1_isIn : GoodIn wsX1_countHonestOpenings wsX1_isIn := goodIn_r _ [18, 13, 14, 5, 15] (by decide +kernel) (by decide +kernel)
set_option maxRecDepth 20000 in
theorem gX1_countHonestOpenings_X1_isIn : GoodIn wsX1_countHonestOpenings (va_wsS RX1 63 yX1_isIn wsX1_isIn) := goodIn_app (goodIn_of _ (by decide +kernel)) ggX1_countHonestOpenings_X1_isIn
set_option maxRecDepth 20000 in
theorem ggX1_countHonestOpenings_X1_reachedFrom : GoodIn wsX1_countHonestOpenings wsX1_reachedFrom := goodIn_r _ [22, 23, 24, 25, 26, 5, 27, 1, 13, 14, 15, 28, 29, 30, 31, 32, 33, 34, 35, 36, 37, 38, 39, 40, 41, 42, 43, 44, 45, 46, 47, 48, 49] (by decide +kernel) (by decide +kernel)
set_option maxRecDepth 20000 in
theorem gX1_countHonestOpenings_X1_reachedFrom : GoodIn wsX1_countHonestOpenings (wsV RX1 140 RX1 yX1_reachedFrom wsX1_reachedFrom) := goodIn_app (goodIn_of _ (by decide +kernel)) ggX1_countHonestOpenings_X1_reachedFrom
theorem dX1_countHonestOpenings_0 : decode cX1_countHonestOpenings 0 = .ok (.aload_n 0, 1) := by decide +kernel
theorem dX1_countHonestOpenings_1 : decode cX1_countHonestOpenings 1 = .ok (.invokevirtual 95, 3) := by decide +kernel
theorem dX1_countHonestOpenings_4 : decode cX1_countHonestOpenings 4 = .ok (.istore_n 1, 1) := by decide +kernel
theorem dX1_countHonestOpenings_5 : decode cX1_countHonestOpenings 5 = .ok (.iconst 0, 1) := by decide +kernel
theorem dX1_countHonestOpenings_6 : decode cX1_countHonestOpenings 6 = .ok (.istore_n 2, 1) := by decide +kernel
theorem dX1_countHonestOpenings_7 : decode cX1_countHonestOpenings 7 = .ok (.aload_n 0, 1) := by decide +kernel
theorem dX1_countHonestOpenings_8 : decode cX1_countHonestOpenings 8 = .ok (.getfield 30, 3) := by decide +kernel
theorem dX1_countHonestOpenings_11 : decode cX1_countHonestOpenings 11 = .ok (.iconst 1, 1) := by decide +kernel
theorem dX1_countHonestOpenings_12 : decode cX1_countHonestOpenings 12 = .ok (.isub, 1) := by decide +kernel
theorem dX1_countHonestOpenings_13 : decode cX1_countHonestOpenings 13 = .ok (.istore_n 3, 1) := by decide +kernel
theorem dX1_countHonestOpenings_14 : decode cX1_countHonestOpenings 14 = .ok (.iload_n 3, 1) := by decide +kernel
theorem dX1_countHonestOpenings_15 : decode cX1_countHonestOpenings 15 = .ok (.ifCond .lt 30, 3) := by decide +kernel
theorem dX1_countHonestOpenings_18 : decode cX1_countHonestOpenings 18 = .ok (.iload_n 1, 1) := by decide +kernel
theorem dX1_countHonestOpenings_19 : decode cX1_countHonestOpenings 19 = .ok (.iload_n 3, 1) := by decide +kernel
theorem dX1_countHonestOpenings_20 : decode cX1_countHonestOpenings 20 = .ok (.invokestatic 63, 3) := by decide +kernel
theorem dX1_countHonestOpenings_23 : decode cX1_countHonestOpenings 23 = .ok (.ifCond .eq 16, 3) := by decide +kernel
theorem dX1_countHonestOpenings_26 : decode cX1_countHonestOpenings 26 = .ok (.iload_n 1, 1) := by decide +kernel
theorem dX1_countHonestOpenings_27 : decode cX1_countHonestOpenings 27 = .ok (.aload_n 0, 1) := by decide +kernel
theorem dX1_countHonestOpenings_28 : decode cX1_countHonestOpenings 28 = .ok (.iload_n 3, 1) := by decide +kernel
theorem dX1_countHonestOpenings_29 : decode cX1_countHonestOpenings 29 = .ok (.invokevirtual 140, 3) := by decide +kernel
theorem dX1_countHonestOpenings_32 : decode cX1_countHonestOpenings 32 = .ok (.iconst (-1), 1) := by decide +kernel
theorem dX1_countHonestOpenings_33 : decode cX1_countHonestOpenings 33 = .ok (.ixor, 1) := by decide +kernel
theorem dX1_countHonestOpenings_34 : decode cX1_countHonestOpenings 34 = .ok (.iand, 1) := by decide +kernel
theorem dX1_countHonestOpenings_35 : decode cX1_countHonestOpenings 35 = .ok (.istore_n 1, 1) := by decide +kernel
theorem dX1_countHonestOpenings_36 : decode cX1_countHonestOpenings 36 = .ok (.iinc 2 1, 3) := by decide +kernel
theorem dX1_countHonestOpenings_39 : decode cX1_countHonestOpenings 39 = .ok (.iinc 3 (-1), 3) := by decide +kernel
theorem dX1_countHonestOpenings_42 : decode cX1_countHonestOpenings 42 = .ok (.goto (-28), 3) := by decide +kernel
theorem dX1_countHonestOpenings_45 : decode cX1_countHonestOpenings 45 = .ok (.iload_n 2, 1) := by decide +kernel
theorem dX1_countHonestOpenings_46 : decode cX1_countHonestOpenings 46 = .ok (.ireturn, 1) := by decide +kernel
set_option maxRecDepth 20000 in
theorem ggX1_mostClearing_X1_clearedIfHonest : GoodIn wsX1_mostClearing wsX1_clearedIfHonest := goodIn_r _ [7, 8, 9, 10, 11, 12, 6, 13, 14, 15, 16, 17, 18, 1, 19, 20, 21, 22, 23, 24, 25, 26, 27, 28, 29, 30, 31, 32, 43, 44, 45, 46, 47, 48, 49, 50, 51, 52, 53] (by decide +kernel) (by decide +kernel)
set_option maxRecDepth 20000 in
theorem gX1_mostClearing_X1_clearedIfHonest : GoodIn wsX1_mostClearing (wsV RX1 84 RX1 yX1_clearedIfHonest wsX1_clearedIfHonest) := goodIn_app (goodIn_of _ (by decide +kernel)) ggX1_mostClearing_X1_clearedIfHonest
set_option maxRecDepth 20000 in
theorem ggX1_mostClearing_J6_bitCount_0f7a4 : GoodIn wsX1_mostClearing wsJ6_bitCount_0f7a4 := goodIn_r _ [36, 37, 38, 39] (by decide +kernel) (by decide +kernel)
set_option maxRecDepth 20000 in
theorem gX1_mostClearing_J6_bitCount_0f7a4 : GoodIn wsX1_mostClearing (va_wsS RX1 87 yJ6_bitCount_0f7a4 wsJ6_bitCount_0f7a4) := goodIn_app (goodIn_of _ (by decide +kernel)) ggX1_mostClearing_J6_bitCount_0f7a4
set_option maxRecDepth 20000 in
theorem ggX1_mostClearing_X1_isIn : GoodIn wsX1_mostClearing wsX1_isIn := goodIn_r _ [42, 19, 20, 6, 21] (by decide +kernel) (by decide +kernel)
set_option maxRecDepth 20000 in
theorem gX1_mostClearing_X1_isIn : GoodIn wsX1_mostClearing (va_wsS RX1 63 yX1_isIn wsX1_isIn) := goodIn_app (goodIn_of _ (by decide +kernel)) ggX1_mostClearing_X1_isIn
theorem dX1_mostClearing_0 : decode cX1_mostClearing 0 = .ok (.bipush (-5), 2) := by decide +kernel
theorem dX1_mostClearing_2 : decode cX1_mostClearing 2 = .ok (.istore_n 1, 1) := by decide +kernel
theorem dX1_mostClearing_3 : decode cX1_mostClearing 3 = .ok (.iconst (-1), 1) := by decide +kernel
theorem dX1_mostClearing_4 : decode cX1_mostClearing 4 = .ok (.istore_n 2, 1) := by decide +kernel
theorem dX1_mostClearing_5 : decode cX1_mostClearing 5 = .ok (.iconst 0, 1) := by decide +kernel
theorem dX1_mostClearing_6 : decode cX1_mostClearing 6 = .ok (.istore_n 3, 1) := by decide +kernel
theorem dX1_mostClearing_7 : decode cX1_mostClearing 7 = .ok (.iload_n 3, 1) := by decide +kernel
theorem dX1_mostClearing_8 : decode cX1_mostClearing 8 = .ok (.aload_n 0, 1) := by decide +kernel
theorem dX1_mostClearing_9 : decode cX1_mostClearing 9 = .ok (.getfield 30, 3) := by decide +kernel
theorem dX1_mostClearing_12 : decode cX1_mostClearing 12 = .ok (.if_icmp .ge 41, 3) := by decide +kernel
theorem dX1_mostClearing_15 : decode cX1_mostClearing 15 = .ok (.aload_n 0, 1) := by decide +kernel
theorem dX1_mostClearing_16 : decode cX1_mostClearing 16 = .ok (.iload_n 3, 1) := by decide +kernel
theorem dX1_mostClearing_17 : decode cX1_mostClearing 17 = .ok (.invokevirtual 84, 3) := by decide +kernel
theorem dX1_mostClearing_20 : decode cX1_mostClearing 20 = .ok (.invokestatic 87, 3) := by decide +kernel
theorem dX1_mostClearing_23 : decode cX1_mostClearing 23 = .ok (.istore 4, 2) := by decide +kernel
theorem dX1_mostClearing_25 : decode cX1_mostClearing 25 = .ok (.aload_n 0, 1) := by decide +kernel
theorem dX1_mostClearing_26 : decode cX1_mostClearing 26 = .ok (.getfield 34, 3) := by decide +kernel
theorem dX1_mostClearing_29 : decode cX1_mostClearing 29 = .ok (.iload_n 3, 1) := by decide +kernel
theorem dX1_mostClearing_30 : decode cX1_mostClearing 30 = .ok (.invokestatic 63, 3) := by decide +kernel
theorem dX1_mostClearing_33 : decode cX1_mostClearing 33 = .ok (.ifCond .ne 14, 3) := by decide +kernel
theorem dX1_mostClearing_36 : decode cX1_mostClearing 36 = .ok (.iload 4, 2) := by decide +kernel
theorem dX1_mostClearing_38 : decode cX1_mostClearing 38 = .ok (.iload_n 2, 1) := by decide +kernel
theorem dX1_mostClearing_39 : decode cX1_mostClearing 39 = .ok (.if_icmp .le 8, 3) := by decide +kernel
theorem dX1_mostClearing_42 : decode cX1_mostClearing 42 = .ok (.iload_n 3, 1) := by decide +kernel
theorem dX1_mostClearing_43 : decode cX1_mostClearing 43 = .ok (.istore_n 1, 1) := by decide +kernel
theorem dX1_mostClearing_44 : decode cX1_mostClearing 44 = .ok (.iload 4, 2) := by decide +kernel
theorem dX1_mostClearing_46 : decode cX1_mostClearing 46 = .ok (.istore_n 2, 1) := by decide +kernel
theorem dX1_mostClearing_47 : decode cX1_mostClearing 47 = .ok (.iinc 3 1, 3) := by decide +kernel
theorem dX1_mostClearing_50 : decode cX1_mostClearing 50 = .ok (.goto (-43), 3) := by decide +kernel
theorem dX1_mostClearing_53 : decode cX1_mostClearing 53 = .ok (.iload_n 1, 1) := by decide +kernel
theorem dX1_mostClearing_54 : decode cX1_mostClearing 54 = .ok (.ireturn, 1) := by decide +kernel
set_option maxRecDepth 20000 in
theorem ggX1_otherClaimForSeal_X1_knows : GoodIn wsX1_otherClaimForSeal wsX1_knows := goodIn_r _ [6, 7, 19, 20, 21, 22, 23, 24, 25, 26, 27, 28, 29] (by decide +kernel) (by decide +kernel)
set_option maxRecDepth 20000 in
theorem gX1_otherClaimForSeal_X1_knows : GoodIn wsX1_otherClaimForSeal (wsV RX1 52 RX1 yX1_knows wsX1_knows) := goodIn_app (goodIn_of _ (by decide +kernel)) ggX1_otherClaimForSeal_X1_knows
set_option maxRecDepth 20000 in
theorem ggX1_otherClaimForSeal_X1_rightSeal : GoodIn wsX1_otherClaimForSeal wsX1_rightSeal := goodIn_r _ [11, 1, 12, 13, 14, 5, 15, 16, 17, 7, 18, 19, 20, 21, 22, 23, 24, 25, 26, 27, 28, 29] (by decide +kernel) (by decide +kernel)
set_option maxRecDepth 20000 in
theorem gX1_otherClaimForSeal_X1_rightSeal : GoodIn wsX1_otherClaimForSeal (wsV RX1 59 RX1 yX1_rightSeal wsX1_rightSeal) := goodIn_app (goodIn_of _ (by decide +kernel)) ggX1_otherClaimForSeal_X1_rightSeal
set_option maxRecDepth 20000 in
theorem ggX1_otherClaimForSeal_X1_sealFor : GoodIn wsX1_otherClaimForSeal wsX1_sealFor := goodIn_r _ [15, 16, 17, 7, 18, 19, 20, 21, 22, 23, 24, 25, 26, 27, 28, 29] (by decide +kernel) (by decide +kernel)
set_option maxRecDepth 20000 in
theorem gX1_otherClaimForSeal_X1_sealFor : GoodIn wsX1_otherClaimForSeal (wsV RX1 143 RX1 yX1_sealFor wsX1_sealFor) := goodIn_app (goodIn_of _ (by decide +kernel)) ggX1_otherClaimForSeal_X1_sealFor
theorem dX1_otherClaimForSeal_0 : decode cX1_otherClaimForSeal 0 = .ok (.aload_n 0, 1) := by decide +kernel
theorem dX1_otherClaimForSeal_1 : decode cX1_otherClaimForSeal 1 = .ok (.iload_n 1, 1) := by decide +kernel
theorem dX1_otherClaimForSeal_2 : decode cX1_otherClaimForSeal 2 = .ok (.invokevirtual 52, 3) := by decide +kernel
theorem dX1_otherClaimForSeal_5 : decode cX1_otherClaimForSeal 5 = .ok (.ifCond .ne 5, 3) := by decide +kernel
theorem dX1_otherClaimForSeal_8 : decode cX1_otherClaimForSeal 8 = .ok (.iconst (-1), 1) := by decide +kernel
theorem dX1_otherClaimForSeal_9 : decode cX1_otherClaimForSeal 9 = .ok (.ireturn, 1) := by decide +kernel
theorem dX1_otherClaimForSeal_10 : decode cX1_otherClaimForSeal 10 = .ok (.aload_n 0, 1) := by decide +kernel
theorem dX1_otherClaimForSeal_11 : decode cX1_otherClaimForSeal 11 = .ok (.iload_n 1, 1) := by decide +kernel
theorem dX1_otherClaimForSeal_12 : decode cX1_otherClaimForSeal 12 = .ok (.invokevirtual 59, 3) := by decide +kernel
theorem dX1_otherClaimForSeal_15 : decode cX1_otherClaimForSeal 15 = .ok (.istore_n 2, 1) := by decide +kernel
theorem dX1_otherClaimForSeal_16 : decode cX1_otherClaimForSeal 16 = .ok (.iconst 0, 1) := by decide +kernel
theorem dX1_otherClaimForSeal_17 : decode cX1_otherClaimForSeal 17 = .ok (.istore_n 3, 1) := by decide +kernel
theorem dX1_otherClaimForSeal_18 : decode cX1_otherClaimForSeal 18 = .ok (.iload_n 3, 1) := by decide +kernel
theorem dX1_otherClaimForSeal_19 : decode cX1_otherClaimForSeal 19 = .ok (.bipush 99, 2) := by decide +kernel
theorem dX1_otherClaimForSeal_21 : decode cX1_otherClaimForSeal 21 = .ok (.if_icmp .gt 31, 3) := by decide +kernel
theorem dX1_otherClaimForSeal_24 : decode cX1_otherClaimForSeal 24 = .ok (.iload_n 3, 1) := by decide +kernel
theorem dX1_otherClaimForSeal_25 : decode cX1_otherClaimForSeal 25 = .ok (.aload_n 0, 1) := by decide +kernel
theorem dX1_otherClaimForSeal_26 : decode cX1_otherClaimForSeal 26 = .ok (.getfield 15, 3) := by decide +kernel
theorem dX1_otherClaimForSeal_29 : decode cX1_otherClaimForSeal 29 = .ok (.iload_n 1, 1) := by decide +kernel
theorem dX1_otherClaimForSeal_30 : decode cX1_otherClaimForSeal 30 = .ok (.iaload, 1) := by decide +kernel
theorem dX1_otherClaimForSeal_31 : decode cX1_otherClaimForSeal 31 = .ok (.if_icmp .eq 15, 3) := by decide +kernel
theorem dX1_otherClaimForSeal_34 : decode cX1_otherClaimForSeal 34 = .ok (.aload_n 0, 1) := by decide +kernel
theorem dX1_otherClaimForSeal_35 : decode cX1_otherClaimForSeal 35 = .ok (.iload_n 1, 1) := by decide +kernel
theorem dX1_otherClaimForSeal_36 : decode cX1_otherClaimForSeal 36 = .ok (.iload_n 3, 1) := by decide +kernel
theorem dX1_otherClaimForSeal_37 : decode cX1_otherClaimForSeal 37 = .ok (.invokevirtual 143, 3) := by decide +kernel
theorem dX1_otherClaimForSeal_40 : decode cX1_otherClaimForSeal 40 = .ok (.iload_n 2, 1) := by decide +kernel
theorem dX1_otherClaimForSeal_41 : decode cX1_otherClaimForSeal 41 = .ok (.if_icmp .ne 5, 3) := by decide +kernel
theorem dX1_otherClaimForSeal_44 : decode cX1_otherClaimForSeal 44 = .ok (.iload_n 3, 1) := by decide +kernel
theorem dX1_otherClaimForSeal_45 : decode cX1_otherClaimForSeal 45 = .ok (.ireturn, 1) := by decide +kernel
theorem dX1_otherClaimForSeal_46 : decode cX1_otherClaimForSeal 46 = .ok (.iinc 3 1, 3) := by decide +kernel
theorem dX1_otherClaimForSeal_49 : decode cX1_otherClaimForSeal 49 = .ok (.goto (-31), 3) := by decide +kernel
theorem dX1_otherClaimForSeal_52 : decode cX1_otherClaimForSeal 52 = .ok (.bipush (-5), 2) := by decide +kernel
theorem dX1_otherClaimForSeal_54 : decode cX1_otherClaimForSeal 54 = .ok (.ireturn, 1) := by decide +kernel
set_option maxRecDepth 20000 in
theorem ggX1_rightSeal_X1_sealFor : GoodIn wsX1_rightSeal wsX1_sealFor := goodIn_r _ [6, 7, 8, 9, 10, 11, 12, 13, 14, 15, 16, 17, 18, 19, 20, 21] (by decide +kernel) (by decide +kernel)
set_option maxRecDepth 20000 in
theorem gX1_rightSeal_X1_sealFor : GoodIn wsX1_rightSeal (wsV RX1 143 RX1 yX1_sealFor wsX1_sealFor) := goodIn_app (goodIn_of _ (by decide +kernel)) ggX1_rightSeal_X1_sealFor
theorem dX1_rightSeal_0 : decode cX1_rightSeal 0 = .ok (.aload_n 0, 1) := by decide +kernel
theorem dX1_rightSeal_1 : decode cX1_rightSeal 1 = .ok (.iload_n 1, 1) := by decide +kernel
theorem dX1_rightSeal_2 : decode cX1_rightSeal 2 = .ok (.aload_n 0, 1) := by decide +kernel
theorem dX1_rightSeal_3 : decode cX1_rightSeal 3 = .ok (.getfield 15, 3) := by decide +kernel
theorem dX1_rightSeal_6 : decode cX1_rightSeal 6 = .ok (.iload_n 1, 1) := by decide +kernel
theorem dX1_rightSeal_7 : decode cX1_rightSeal 7 = .ok (.iaload, 1) := by decide +kernel
theorem dX1_rightSeal_8 : decode cX1_rightSeal 8 = .ok (.invokevirtual 143, 3) := by decide +kernel
theorem dX1_rightSeal_11 : decode cX1_rightSeal 11 = .ok (.ireturn, 1) := by decide +kernel
theorem dX1_sealFor_0 : decode cX1_sealFor 0 = .ok (.aload_n 0, 1) := by decide +kernel
theorem dX1_sealFor_1 : decode cX1_sealFor 1 = .ok (.getfield 9, 3) := by decide +kernel
theorem dX1_sealFor_4 : decode cX1_sealFor 4 = .ok (.iconst 2, 1) := by decide +kernel
theorem dX1_sealFor_5 : decode cX1_sealFor 5 = .ok (.iaload, 1) := by decide +kernel
theorem dX1_sealFor_6 : decode cX1_sealFor 6 = .ok (.istore_n 3, 1) := by decide +kernel
theorem dX1_sealFor_7 : decode cX1_sealFor 7 = .ok (.iload_n 3, 1) := by decide +kernel
theorem dX1_sealFor_8 : decode cX1_sealFor 8 = .ok (.ifCond .gt 5, 3) := by decide +kernel
theorem dX1_sealFor_11 : decode cX1_sealFor 11 = .ok (.iconst 0, 1) := by decide +kernel
theorem dX1_sealFor_12 : decode cX1_sealFor 12 = .ok (.ireturn, 1) := by decide +kernel
theorem dX1_sealFor_13 : decode cX1_sealFor 13 = .ok (.aload_n 0, 1) := by decide +kernel
theorem dX1_sealFor_14 : decode cX1_sealFor 14 = .ok (.getfield 21, 3) := by decide +kernel
theorem dX1_sealFor_17 : decode cX1_sealFor 17 = .ok (.iload_n 1, 1) := by decide +kernel
theorem dX1_sealFor_18 : decode cX1_sealFor 18 = .ok (.iaload, 1) := by decide +kernel
theorem dX1_sealFor_19 : decode cX1_sealFor 19 = .ok (.istore 4, 2) := by decide +kernel
theorem dX1_sealFor_21 : decode cX1_sealFor 21 = .ok (.iload 4, 2) := by decide +kernel
theorem dX1_sealFor_23 : decode cX1_sealFor 23 = .ok (.ifCond .lt 22, 3) := by decide +kernel
theorem dX1_sealFor_26 : decode cX1_sealFor 26 = .ok (.iload 4, 2) := by decide +kernel
theorem dX1_sealFor_28 : decode cX1_sealFor 28 = .ok (.aload_n 0, 1) := by decide +kernel
theorem dX1_sealFor_29 : decode cX1_sealFor 29 = .ok (.getfield 30, 3) := by decide +kernel
theorem dX1_sealFor_32 : decode cX1_sealFor 32 = .ok (.if_icmp .ge 13, 3) := by decide +kernel
theorem dX1_sealFor_35 : decode cX1_sealFor 35 = .ok (.aload_n 0, 1) := by decide +kernel
theorem dX1_sealFor_36 : decode cX1_sealFor 36 = .ok (.getfield 24, 3) := by decide +kernel
theorem dX1_sealFor_39 : decode cX1_sealFor 39 = .ok (.iload 4, 2) := by decide +kernel
theorem dX1_sealFor_41 : decode cX1_sealFor 41 = .ok (.iaload, 1) := by decide +kernel
theorem dX1_sealFor_42 : decode cX1_sealFor 42 = .ok (.goto 4, 3) := by decide +kernel
theorem dX1_sealFor_45 : decode cX1_sealFor 45 = .ok (.iconst 0, 1) := by decide +kernel
theorem dX1_sealFor_46 : decode cX1_sealFor 46 = .ok (.istore 5, 2) := by decide +kernel
theorem dX1_sealFor_48 : decode cX1_sealFor 48 = .ok (.aload_n 0, 1) := by decide +kernel
theorem dX1_sealFor_49 : decode cX1_sealFor 49 = .ok (.getfield 9, 3) := by decide +kernel
theorem dX1_sealFor_52 : decode cX1_sealFor 52 = .ok (.iconst 0, 1) := by decide +kernel
theorem dX1_sealFor_53 : decode cX1_sealFor 53 = .ok (.iaload, 1) := by decide +kernel
theorem dX1_sealFor_54 : decode cX1_sealFor 54 = .ok (.iload_n 2, 1) := by decide +kernel
theorem dX1_sealFor_55 : decode cX1_sealFor 55 = .ok (.imul, 1) := by decide +kernel
theorem dX1_sealFor_56 : decode cX1_sealFor 56 = .ok (.aload_n 0, 1) := by decide +kernel
theorem dX1_sealFor_57 : decode cX1_sealFor 57 = .ok (.getfield 9, 3) := by decide +kernel
theorem dX1_sealFor_60 : decode cX1_sealFor 60 = .ok (.iconst 1, 1) := by decide +kernel
theorem dX1_sealFor_61 : decode cX1_sealFor 61 = .ok (.iaload, 1) := by decide +kernel
theorem dX1_sealFor_62 : decode cX1_sealFor 62 = .ok (.iload 5, 2) := by decide +kernel
theorem dX1_sealFor_64 : decode cX1_sealFor 64 = .ok (.imul, 1) := by decide +kernel
theorem dX1_sealFor_65 : decode cX1_sealFor 65 = .ok (.iadd, 1) := by decide +kernel
theorem dX1_sealFor_66 : decode cX1_sealFor 66 = .ok (.iload_n 1, 1) := by decide +kernel
theorem dX1_sealFor_67 : decode cX1_sealFor 67 = .ok (.iadd, 1) := by decide +kernel
theorem dX1_sealFor_68 : decode cX1_sealFor 68 = .ok (.iload_n 3, 1) := by decide +kernel
theorem dX1_sealFor_69 : decode cX1_sealFor 69 = .ok (.irem, 1) := by decide +kernel
theorem dX1_sealFor_70 : decode cX1_sealFor 70 = .ok (.ireturn, 1) := by decide +kernel
set_option maxRecDepth 20000 in
theorem ggX1_isWhole_X1_sealFor : GoodIn wsX1_isWhole wsX1_sealFor := goodIn_r _ [7, 8, 9, 10, 1, 11, 12, 13, 14, 15, 16, 17, 18, 19, 20, 21] (by decide +kernel) (by decide +kernel)
set_option maxRecDepth 20000 in
theorem gX1_isWhole_X1_sealFor : GoodIn wsX1_isWhole (wsV RX1 143 RX1 yX1_sealFor wsX1_sealFor) := goodIn_app (goodIn_of _ (by decide +kernel)) ggX1_isWhole_X1_sealFor
theorem dX1_isWhole_0 : decode cX1_isWhole 0 = .ok (.aload_n 0, 1) := by decide +kernel
theorem dX1_isWhole_1 : decode cX1_isWhole 1 = .ok (.getfield 24, 3) := by decide +kernel
theorem dX1_isWhole_4 : decode cX1_isWhole 4 = .ok (.iload_n 1, 1) := by decide +kernel
theorem dX1_isWhole_5 : decode cX1_isWhole 5 = .ok (.iaload, 1) := by decide +kernel
theorem dX1_isWhole_6 : decode cX1_isWhole 6 = .ok (.aload_n 0, 1) := by decide +kernel
theorem dX1_isWhole_7 : decode cX1_isWhole 7 = .ok (.iload_n 1, 1) := by decide +kernel
theorem dX1_isWhole_8 : decode cX1_isWhole 8 = .ok (.aload_n 0, 1) := by decide +kernel
theorem dX1_isWhole_9 : decode cX1_isWhole 9 = .ok (.getfield 15, 3) := by decide +kernel
theorem dX1_isWhole_12 : decode cX1_isWhole 12 = .ok (.iload_n 1, 1) := by decide +kernel
theorem dX1_isWhole_13 : decode cX1_isWhole 13 = .ok (.iaload, 1) := by decide +kernel
theorem dX1_isWhole_14 : decode cX1_isWhole 14 = .ok (.invokevirtual 143, 3) := by decide +kernel
theorem dX1_isWhole_17 : decode cX1_isWhole 17 = .ok (.if_icmp .ne 7, 3) := by decide +kernel
theorem dX1_isWhole_20 : decode cX1_isWhole 20 = .ok (.iconst 1, 1) := by decide +kernel
theorem dX1_isWhole_21 : decode cX1_isWhole 21 = .ok (.goto 4, 3) := by decide +kernel
theorem dX1_isWhole_24 : decode cX1_isWhole 24 = .ok (.iconst 0, 1) := by decide +kernel
theorem dX1_isWhole_25 : decode cX1_isWhole 25 = .ok (.ireturn, 1) := by decide +kernel
theorem dX1_isLie_0 : decode cX1_isLie 0 = .ok (.aload_n 0, 1) := by decide +kernel
theorem dX1_isLie_1 : decode cX1_isLie 1 = .ok (.getfield 15, 3) := by decide +kernel
theorem dX1_isLie_4 : decode cX1_isLie 4 = .ok (.iload_n 1, 1) := by decide +kernel
theorem dX1_isLie_5 : decode cX1_isLie 5 = .ok (.iaload, 1) := by decide +kernel
theorem dX1_isLie_6 : decode cX1_isLie 6 = .ok (.iload_n 2, 1) := by decide +kernel
theorem dX1_isLie_7 : decode cX1_isLie 7 = .ok (.if_icmp .eq 7, 3) := by decide +kernel
theorem dX1_isLie_10 : decode cX1_isLie 10 = .ok (.iconst 1, 1) := by decide +kernel
theorem dX1_isLie_11 : decode cX1_isLie 11 = .ok (.goto 4, 3) := by decide +kernel
theorem dX1_isLie_14 : decode cX1_isLie 14 = .ok (.iconst 0, 1) := by decide +kernel
theorem dX1_isLie_15 : decode cX1_isLie 15 = .ok (.ireturn, 1) := by decide +kernel
set_option maxRecDepth 20000 in
theorem ggX1_ownFine_X1_isWhole : GoodIn wsX1_ownFine wsX1_isWhole := goodIn_r _ [11, 12, 2, 13, 14, 15, 10, 16, 1, 17, 18, 23, 24, 25, 26, 27, 28, 29, 30, 31, 32, 33] (by decide +kernel) (by decide +kernel)
set_option maxRecDepth 20000 in
theorem gX1_ownFine_X1_isWhole : GoodIn wsX1_ownFine (wsV RX1 67 RX1 yX1_isWhole wsX1_isWhole) := goodIn_app (goodIn_of _ (by decide +kernel)) ggX1_ownFine_X1_isWhole
set_option maxRecDepth 20000 in
theorem ggX1_ownFine_X1_isLie : GoodIn wsX1_ownFine wsX1_isLie := goodIn_r _ [22, 2, 23, 24, 25, 26, 27, 28, 29, 30, 31, 32, 33] (by decide +kernel) (by decide +kernel)
set_option maxRecDepth 20000 in
theorem gX1_ownFine_X1_isLie : GoodIn wsX1_ownFine (wsV RX1 77 RX1 yX1_isLie wsX1_isLie) := goodIn_app (goodIn_of _ (by decide +kernel)) ggX1_ownFine_X1_isLie
theorem dX1_ownFine_0 : decode cX1_ownFine 0 = .ok (.aload_n 0, 1) := by decide +kernel
theorem dX1_ownFine_1 : decode cX1_ownFine 1 = .ok (.iload_n 1, 1) := by decide +kernel
theorem dX1_ownFine_2 : decode cX1_ownFine 2 = .ok (.invokevirtual 67, 3) := by decide +kernel
theorem dX1_ownFine_5 : decode cX1_ownFine 5 = .ok (.ifCond .eq 7, 3) := by decide +kernel
theorem dX1_ownFine_8 : decode cX1_ownFine 8 = .ok (.iconst 0, 1) := by decide +kernel
theorem dX1_ownFine_9 : decode cX1_ownFine 9 = .ok (.goto 4, 3) := by decide +kernel
theorem dX1_ownFine_12 : decode cX1_ownFine 12 = .ok (.iconst 3, 1) := by decide +kernel
theorem dX1_ownFine_13 : decode cX1_ownFine 13 = .ok (.istore_n 3, 1) := by decide +kernel
theorem dX1_ownFine_14 : decode cX1_ownFine 14 = .ok (.aload_n 0, 1) := by decide +kernel
theorem dX1_ownFine_15 : decode cX1_ownFine 15 = .ok (.iload_n 1, 1) := by decide +kernel
theorem dX1_ownFine_16 : decode cX1_ownFine 16 = .ok (.iload_n 2, 1) := by decide +kernel
theorem dX1_ownFine_17 : decode cX1_ownFine 17 = .ok (.invokevirtual 77, 3) := by decide +kernel
theorem dX1_ownFine_20 : decode cX1_ownFine 20 = .ok (.ifCond .eq 26, 3) := by decide +kernel
theorem dX1_ownFine_23 : decode cX1_ownFine 23 = .ok (.iload_n 3, 1) := by decide +kernel
theorem dX1_ownFine_24 : decode cX1_ownFine 24 = .ok (.aload_n 0, 1) := by decide +kernel
theorem dX1_ownFine_25 : decode cX1_ownFine 25 = .ok (.getfield 9, 3) := by decide +kernel
theorem dX1_ownFine_28 : decode cX1_ownFine 28 = .ok (.iconst 3, 1) := by decide +kernel
theorem dX1_ownFine_29 : decode cX1_ownFine 29 = .ok (.iaload, 1) := by decide +kernel
theorem dX1_ownFine_30 : decode cX1_ownFine 30 = .ok (.iconst 2, 1) := by decide +kernel
theorem dX1_ownFine_31 : decode cX1_ownFine 31 = .ok (.aload_n 0, 1) := by decide +kernel
theorem dX1_ownFine_32 : decode cX1_ownFine 32 = .ok (.getfield 15, 3) := by decide +kernel
theorem dX1_ownFine_35 : decode cX1_ownFine 35 = .ok (.iload_n 1, 1) := by decide +kernel
theorem dX1_ownFine_36 : decode cX1_ownFine 36 = .ok (.iaload, 1) := by decide +kernel
theorem dX1_ownFine_37 : decode cX1_ownFine 37 = .ok (.iload_n 2, 1) := by decide +kernel
theorem dX1_ownFine_38 : decode cX1_ownFine 38 = .ok (.isub, 1) := by decide +kernel
theorem dX1_ownFine_39 : decode cX1_ownFine 39 = .ok (.invokestatic 146, 3) := by decide +kernel
theorem dX1_ownFine_42 : decode cX1_ownFine 42 = .ok (.imul, 1) := by decide +kernel
theorem dX1_ownFine_43 : decode cX1_ownFine 43 = .ok (.iadd, 1) := by decide +kernel
theorem dX1_ownFine_44 : decode cX1_ownFine 44 = .ok (.iadd, 1) := by decide +kernel
theorem dX1_ownFine_45 : decode cX1_ownFine 45 = .ok (.istore_n 3, 1) := by decide +kernel
theorem dX1_ownFine_46 : decode cX1_ownFine 46 = .ok (.iload_n 3, 1) := by decide +kernel
theorem dX1_ownFine_47 : decode cX1_ownFine 47 = .ok (.ireturn, 1) := by decide +kernel
theorem dX1_knows_0 : decode cX1_knows 0 = .ok (.iload_n 1, 1) := by decide +kernel
theorem dX1_knows_1 : decode cX1_knows 1 = .ok (.ifCond .lt 15, 3) := by decide +kernel
theorem dX1_knows_4 : decode cX1_knows 4 = .ok (.iload_n 1, 1) := by decide +kernel
theorem dX1_knows_5 : decode cX1_knows 5 = .ok (.aload_n 0, 1) := by decide +kernel
theorem dX1_knows_6 : decode cX1_knows 6 = .ok (.getfield 30, 3) := by decide +kernel
theorem dX1_knows_9 : decode cX1_knows 9 = .ok (.if_icmp .ge 7, 3) := by decide +kernel
theorem dX1_knows_12 : decode cX1_knows 12 = .ok (.iconst 1, 1) := by decide +kernel
theorem dX1_knows_13 : decode cX1_knows 13 = .ok (.goto 4, 3) := by decide +kernel
theorem dX1_knows_16 : decode cX1_knows 16 = .ok (.iconst 0, 1) := by decide +kernel
theorem dX1_knows_17 : decode cX1_knows 17 = .ok (.ireturn, 1) := by decide +kernel
theorem dX1_isSacks_0 : decode cX1_isSacks 0 = .ok (.iload_n 0, 1) := by decide +kernel
theorem dX1_isSacks_1 : decode cX1_isSacks 1 = .ok (.ifCond .lt 13, 3) := by decide +kernel
theorem dX1_isSacks_4 : decode cX1_isSacks 4 = .ok (.iload_n 0, 1) := by decide +kernel
theorem dX1_isSacks_5 : decode cX1_isSacks 5 = .ok (.bipush 99, 2) := by decide +kernel
theorem dX1_isSacks_7 : decode cX1_isSacks 7 = .ok (.if_icmp .gt 7, 3) := by decide +kernel
theorem dX1_isSacks_10 : decode cX1_isSacks 10 = .ok (.iconst 1, 1) := by decide +kernel
theorem dX1_isSacks_11 : decode cX1_isSacks 11 = .ok (.goto 4, 3) := by decide +kernel
theorem dX1_isSacks_14 : decode cX1_isSacks 14 = .ok (.iconst 0, 1) := by decide +kernel
theorem dX1_isSacks_15 : decode cX1_isSacks 15 = .ok (.ireturn, 1) := by decide +kernel
theorem dX1_bit_0 : decode cX1_bit 0 = .ok (.iconst 1, 1) := by decide +kernel
theorem dX1_bit_1 : decode cX1_bit 1 = .ok (.iload_n 0, 1) := by decide +kernel
theorem dX1_bit_2 : decode cX1_bit 2 = .ok (.ishl, 1) := by decide +kernel
theorem dX1_bit_3 : decode cX1_bit 3 = .ok (.ireturn, 1) := by decide +kernel
set_option maxRecDepth 20000 in
theorem ggX1_isIn_X1_bit : GoodIn wsX1_isIn wsX1_bit := goodIn_r _ [4] (by decide +kernel) (by decide +kernel)
set_option maxRecDepth 20000 in
theorem gX1_isIn_X1_bit : GoodIn wsX1_isIn (va_wsS RX1 70 yX1_bit wsX1_bit) := goodIn_app (goodIn_of _ (by decide +kernel)) ggX1_isIn_X1_bit
theorem dX1_isIn_0 : decode cX1_isIn 0 = .ok (.iload_n 0, 1) := by decide +kernel
theorem dX1_isIn_1 : decode cX1_isIn 1 = .ok (.iload_n 1, 1) := by decide +kernel
theorem dX1_isIn_2 : decode cX1_isIn 2 = .ok (.invokestatic 70, 3) := by decide +kernel
theorem dX1_isIn_5 : decode cX1_isIn 5 = .ok (.iand, 1) := by decide +kernel
theorem dX1_isIn_6 : decode cX1_isIn 6 = .ok (.ifCond .eq 7, 3) := by decide +kernel
theorem dX1_isIn_9 : decode cX1_isIn 9 = .ok (.iconst 1, 1) := by decide +kernel
theorem dX1_isIn_10 : decode cX1_isIn 10 = .ok (.goto 4, 3) := by decide +kernel
theorem dX1_isIn_13 : decode cX1_isIn 13 = .ok (.iconst 0, 1) := by decide +kernel
theorem dX1_isIn_14 : decode cX1_isIn 14 = .ok (.ireturn, 1) := by decide +kernel
set_option maxRecDepth 20000 in
theorem ggX1_all_X1_bit : GoodIn wsX1_all wsX1_bit := goodIn_r _ [5] (by decide +kernel) (by decide +kernel)
set_option maxRecDepth 20000 in
theorem gX1_all_X1_bit : GoodIn wsX1_all (va_wsS RX1 70 yX1_bit wsX1_bit) := goodIn_app (goodIn_of _ (by decide +kernel)) ggX1_all_X1_bit
theorem dX1_all_0 : decode cX1_all 0 = .ok (.aload_n 0, 1) := by decide +kernel
theorem dX1_all_1 : decode cX1_all 1 = .ok (.getfield 30, 3) := by decide +kernel
theorem dX1_all_4 : decode cX1_all 4 = .ok (.invokestatic 70, 3) := by decide +kernel
theorem dX1_all_7 : decode cX1_all 7 = .ok (.iconst 1, 1) := by decide +kernel
theorem dX1_all_8 : decode cX1_all 8 = .ok (.isub, 1) := by decide +kernel
theorem dX1_all_9 : decode cX1_all 9 = .ok (.ireturn, 1) := by decide +kernel
set_option maxRecDepth 20000 in
theorem ggX1_waiting_X1_all : GoodIn wsX1_waiting wsX1_all := goodIn_r _ [7, 8, 9, 10, 6, 11, 12, 13, 14, 15, 16, 17, 18, 19, 20, 21, 22] (by decide +kernel) (by decide +kernel)
set_option maxRecDepth 20000 in
theorem gX1_waiting_X1_all : GoodIn wsX1_waiting (wsV RX1 149 RX1 yX1_all wsX1_all) := goodIn_app (goodIn_of _ (by decide +kernel)) ggX1_waiting_X1_all
theorem dX1_waiting_0 : decode cX1_waiting 0 = .ok (.aload_n 0, 1) := by decide +kernel
theorem dX1_waiting_1 : decode cX1_waiting 1 = .ok (.invokevirtual 149, 3) := by decide +kernel
theorem dX1_waiting_4 : decode cX1_waiting 4 = .ok (.aload_n 0, 1) := by decide +kernel
theorem dX1_waiting_5 : decode cX1_waiting 5 = .ok (.getfield 40, 3) := by decide +kernel
theorem dX1_waiting_8 : decode cX1_waiting 8 = .ok (.iconst (-1), 1) := by decide +kernel
theorem dX1_waiting_9 : decode cX1_waiting 9 = .ok (.ixor, 1) := by decide +kernel
theorem dX1_waiting_10 : decode cX1_waiting 10 = .ok (.iand, 1) := by decide +kernel
theorem dX1_waiting_11 : decode cX1_waiting 11 = .ok (.aload_n 0, 1) := by decide +kernel
theorem dX1_waiting_12 : decode cX1_waiting 12 = .ok (.getfield 34, 3) := by decide +kernel
theorem dX1_waiting_15 : decode cX1_waiting 15 = .ok (.iconst (-1), 1) := by decide +kernel
theorem dX1_waiting_16 : decode cX1_waiting 16 = .ok (.ixor, 1) := by decide +kernel
theorem dX1_waiting_17 : decode cX1_waiting 17 = .ok (.iand, 1) := by decide +kernel
theorem dX1_waiting_18 : decode cX1_waiting 18 = .ok (.ireturn, 1) := by decide +kernel
set_option maxRecDepth 20000 in
theorem ggX1_chainOf_X1_knows : GoodIn wsX1_chainOf wsX1_knows := goodIn_r _ [6, 7, 11, 12, 13, 14, 15, 16, 17, 18, 19, 20, 21] (by decide +kernel) (by decide +kernel)
set_option maxRecDepth 20000 in
theorem gX1_chainOf_X1_knows : GoodIn wsX1_chainOf (wsV RX1 52 RX1 yX1_knows wsX1_knows) := goodIn_app (goodIn_of _ (by decide +kernel)) ggX1_chainOf_X1_knows
set_option maxRecDepth 20000 in
theorem ggX1_chainOf_X1_bit : GoodIn wsX1_chainOf wsX1_bit := goodIn_r _ [10] (by decide +kernel) (by decide +kernel)
set_option maxRecDepth 20000 in
theorem gX1_chainOf_X1_bit : GoodIn wsX1_chainOf (va_wsS RX1 70 yX1_bit wsX1_bit) := goodIn_app (goodIn_of _ (by decide +kernel)) ggX1_chainOf_X1_bit
theorem dX1_chainOf_0 : decode cX1_chainOf 0 = .ok (.iconst 0, 1) := by decide +kernel
theorem dX1_chainOf_1 : decode cX1_chainOf 1 = .ok (.istore_n 2, 1) := by decide +kernel
theorem dX1_chainOf_2 : decode cX1_chainOf 2 = .ok (.iload_n 1, 1) := by decide +kernel
theorem dX1_chainOf_3 : decode cX1_chainOf 3 = .ok (.istore_n 3, 1) := by decide +kernel
theorem dX1_chainOf_4 : decode cX1_chainOf 4 = .ok (.iconst 0, 1) := by decide +kernel
theorem dX1_chainOf_5 : decode cX1_chainOf 5 = .ok (.istore 4, 2) := by decide +kernel
theorem dX1_chainOf_7 : decode cX1_chainOf 7 = .ok (.iload 4, 2) := by decide +kernel
theorem dX1_chainOf_9 : decode cX1_chainOf 9 = .ok (.bipush 24, 2) := by decide +kernel
theorem dX1_chainOf_11 : decode cX1_chainOf 11 = .ok (.if_icmp .ge 31, 3) := by decide +kernel
theorem dX1_chainOf_14 : decode cX1_chainOf 14 = .ok (.aload_n 0, 1) := by decide +kernel
theorem dX1_chainOf_15 : decode cX1_chainOf 15 = .ok (.iload_n 3, 1) := by decide +kernel
theorem dX1_chainOf_16 : decode cX1_chainOf 16 = .ok (.invokevirtual 52, 3) := by decide +kernel
theorem dX1_chainOf_19 : decode cX1_chainOf 19 = .ok (.ifCond .eq 23, 3) := by decide +kernel
theorem dX1_chainOf_22 : decode cX1_chainOf 22 = .ok (.iload_n 2, 1) := by decide +kernel
theorem dX1_chainOf_23 : decode cX1_chainOf 23 = .ok (.iload_n 3, 1) := by decide +kernel
theorem dX1_chainOf_24 : decode cX1_chainOf 24 = .ok (.invokestatic 70, 3) := by decide +kernel
theorem dX1_chainOf_27 : decode cX1_chainOf 27 = .ok (.ior, 1) := by decide +kernel
theorem dX1_chainOf_28 : decode cX1_chainOf 28 = .ok (.istore_n 2, 1) := by decide +kernel
theorem dX1_chainOf_29 : decode cX1_chainOf 29 = .ok (.aload_n 0, 1) := by decide +kernel
theorem dX1_chainOf_30 : decode cX1_chainOf 30 = .ok (.getfield 21, 3) := by decide +kernel
theorem dX1_chainOf_33 : decode cX1_chainOf 33 = .ok (.iload_n 3, 1) := by decide +kernel
theorem dX1_chainOf_34 : decode cX1_chainOf 34 = .ok (.iaload, 1) := by decide +kernel
theorem dX1_chainOf_35 : decode cX1_chainOf 35 = .ok (.istore_n 3, 1) := by decide +kernel
theorem dX1_chainOf_36 : decode cX1_chainOf 36 = .ok (.iinc 4 1, 3) := by decide +kernel
theorem dX1_chainOf_39 : decode cX1_chainOf 39 = .ok (.goto (-32), 3) := by decide +kernel
theorem dX1_chainOf_42 : decode cX1_chainOf 42 = .ok (.iload_n 2, 1) := by decide +kernel
theorem dX1_chainOf_43 : decode cX1_chainOf 43 = .ok (.ireturn, 1) := by decide +kernel
set_option maxRecDepth 20000 in
theorem ggX1_reachedFrom_X1_knows : GoodIn wsX1_reachedFrom wsX1_knows := goodIn_r _ [6, 7, 22, 23, 24, 25, 26, 27, 28, 29, 30, 31, 32] (by decide +kernel) (by decide +kernel)
set_option maxRecDepth 20000 in
theorem gX1_reachedFrom_X1_knows : GoodIn wsX1_reachedFrom (wsV RX1 52 RX1 yX1_knows wsX1_knows) := goodIn_app (goodIn_of _ (by decide +kernel)) ggX1_reachedFrom_X1_knows
set_option maxRecDepth 20000 in
theorem ggX1_reachedFrom_X1_bit : GoodIn wsX1_reachedFrom wsX1_bit := goodIn_r _ [10] (by decide +kernel) (by decide +kernel)
set_option maxRecDepth 20000 in
theorem gX1_reachedFrom_X1_bit : GoodIn wsX1_reachedFrom (va_wsS RX1 70 yX1_bit wsX1_bit) := goodIn_app (goodIn_of _ (by decide +kernel)) ggX1_reachedFrom_X1_bit
set_option maxRecDepth 20000 in
theorem ggX1_reachedFrom_X1_isWhole : GoodIn wsX1_reachedFrom wsX1_isWhole := goodIn_r _ [14, 15, 16, 17, 18, 19, 5, 20, 21, 1, 7, 22, 23, 24, 25, 26, 27, 28, 29, 30, 31, 32] (by decide +kernel) (by decide +kernel)
set_option maxRecDepth 20000 in
theorem gX1_reachedFrom_X1_isWhole : GoodIn wsX1_reachedFrom (wsV RX1 67 RX1 yX1_isWhole wsX1_isWhole) := goodIn_app (goodIn_of _ (by decide +kernel)) ggX1_reachedFrom_X1_isWhole
theorem dX1_reachedFrom_0 : decode cX1_reachedFrom 0 = .ok (.iconst 0, 1) := by decide +kernel
theorem dX1_reachedFrom_1 : decode cX1_reachedFrom 1 = .ok (.istore_n 2, 1) := by decide +kernel
theorem dX1_reachedFrom_2 : decode cX1_reachedFrom 2 = .ok (.iload_n 1, 1) := by decide +kernel
theorem dX1_reachedFrom_3 : decode cX1_reachedFrom 3 = .ok (.istore_n 3, 1) := by decide +kernel
theorem dX1_reachedFrom_4 : decode cX1_reachedFrom 4 = .ok (.iconst 0, 1) := by decide +kernel
theorem dX1_reachedFrom_5 : decode cX1_reachedFrom 5 = .ok (.istore 4, 2) := by decide +kernel
theorem dX1_reachedFrom_7 : decode cX1_reachedFrom 7 = .ok (.iload 4, 2) := by decide +kernel
theorem dX1_reachedFrom_9 : decode cX1_reachedFrom 9 = .ok (.bipush 24, 2) := by decide +kernel
theorem dX1_reachedFrom_11 : decode cX1_reachedFrom 11 = .ok (.if_icmp .ge 41, 3) := by decide +kernel
theorem dX1_reachedFrom_14 : decode cX1_reachedFrom 14 = .ok (.aload_n 0, 1) := by decide +kernel
theorem dX1_reachedFrom_15 : decode cX1_reachedFrom 15 = .ok (.iload_n 3, 1) := by decide +kernel
theorem dX1_reachedFrom_16 : decode cX1_reachedFrom 16 = .ok (.invokevirtual 52, 3) := by decide +kernel
theorem dX1_reachedFrom_19 : decode cX1_reachedFrom 19 = .ok (.ifCond .eq 33, 3) := by decide +kernel
theorem dX1_reachedFrom_22 : decode cX1_reachedFrom 22 = .ok (.iload_n 2, 1) := by decide +kernel
theorem dX1_reachedFrom_23 : decode cX1_reachedFrom 23 = .ok (.iload_n 3, 1) := by decide +kernel
theorem dX1_reachedFrom_24 : decode cX1_reachedFrom 24 = .ok (.invokestatic 70, 3) := by decide +kernel
theorem dX1_reachedFrom_27 : decode cX1_reachedFrom 27 = .ok (.ior, 1) := by decide +kernel
theorem dX1_reachedFrom_28 : decode cX1_reachedFrom 28 = .ok (.istore_n 2, 1) := by decide +kernel
theorem dX1_reachedFrom_29 : decode cX1_reachedFrom 29 = .ok (.aload_n 0, 1) := by decide +kernel
theorem dX1_reachedFrom_30 : decode cX1_reachedFrom 30 = .ok (.iload_n 3, 1) := by decide +kernel
theorem dX1_reachedFrom_31 : decode cX1_reachedFrom 31 = .ok (.invokevirtual 67, 3) := by decide +kernel
theorem dX1_reachedFrom_34 : decode cX1_reachedFrom 34 = .ok (.ifCond .ne 5, 3) := by decide +kernel
theorem dX1_reachedFrom_37 : decode cX1_reachedFrom 37 = .ok (.iload_n 2, 1) := by decide +kernel
theorem dX1_reachedFrom_38 : decode cX1_reachedFrom 38 = .ok (.ireturn, 1) := by decide +kernel
theorem dX1_reachedFrom_39 : decode cX1_reachedFrom 39 = .ok (.aload_n 0, 1) := by decide +kernel
theorem dX1_reachedFrom_40 : decode cX1_reachedFrom 40 = .ok (.getfield 21, 3) := by decide +kernel
theorem dX1_reachedFrom_43 : decode cX1_reachedFrom 43 = .ok (.iload_n 3, 1) := by decide +kernel
theorem dX1_reachedFrom_44 : decode cX1_reachedFrom 44 = .ok (.iaload, 1) := by decide +kernel
theorem dX1_reachedFrom_45 : decode cX1_reachedFrom 45 = .ok (.istore_n 3, 1) := by decide +kernel
theorem dX1_reachedFrom_46 : decode cX1_reachedFrom 46 = .ok (.iinc 4 1, 3) := by decide +kernel
theorem dX1_reachedFrom_49 : decode cX1_reachedFrom 49 = .ok (.goto (-42), 3) := by decide +kernel
theorem dX1_reachedFrom_52 : decode cX1_reachedFrom 52 = .ok (.iload_n 2, 1) := by decide +kernel
theorem dX1_reachedFrom_53 : decode cX1_reachedFrom 53 = .ok (.ireturn, 1) := by decide +kernel
set_option maxRecDepth 20000 in
theorem ggX1_clearedIfHonest_X1_reachedFrom : GoodIn wsX1_clearedIfHonest wsX1_reachedFrom := goodIn_r _ [7, 8, 9, 10, 11, 6, 12, 13, 14, 15, 16, 17, 18, 19, 20, 21, 22, 23, 24, 25, 26, 27, 28, 29, 30, 31, 32, 33, 34, 35, 36, 37, 38] (by decide +kernel) (by decide +kernel)
set_option maxRecDepth 20000 in
theorem gX1_clearedIfHonest_X1_reachedFrom : GoodIn wsX1_clearedIfHonest (wsV RX1 140 RX1 yX1_reachedFrom wsX1_reachedFrom) := goodIn_app (goodIn_of _ (by decide +kernel)) ggX1_clearedIfHonest_X1_reachedFrom
theorem dX1_clearedIfHonest_0 : decode cX1_clearedIfHonest 0 = .ok (.aload_n 0, 1) := by decide +kernel
theorem dX1_clearedIfHonest_1 : decode cX1_clearedIfHonest 1 = .ok (.iload_n 1, 1) := by decide +kernel
theorem dX1_clearedIfHonest_2 : decode cX1_clearedIfHonest 2 = .ok (.invokevirtual 140, 3) := by decide +kernel
theorem dX1_clearedIfHonest_5 : decode cX1_clearedIfHonest 5 = .ok (.aload_n 0, 1) := by decide +kernel
theorem dX1_clearedIfHonest_6 : decode cX1_clearedIfHonest 6 = .ok (.getfield 37, 3) := by decide +kernel
theorem dX1_clearedIfHonest_9 : decode cX1_clearedIfHonest 9 = .ok (.iconst (-1), 1) := by decide +kernel
theorem dX1_clearedIfHonest_10 : decode cX1_clearedIfHonest 10 = .ok (.ixor, 1) := by decide +kernel
theorem dX1_clearedIfHonest_11 : decode cX1_clearedIfHonest 11 = .ok (.iand, 1) := by decide +kernel
theorem dX1_clearedIfHonest_12 : decode cX1_clearedIfHonest 12 = .ok (.aload_n 0, 1) := by decide +kernel
theorem dX1_clearedIfHonest_13 : decode cX1_clearedIfHonest 13 = .ok (.getfield 40, 3) := by decide +kernel
theorem dX1_clearedIfHonest_16 : decode cX1_clearedIfHonest 16 = .ok (.iconst (-1), 1) := by decide +kernel
theorem dX1_clearedIfHonest_17 : decode cX1_clearedIfHonest 17 = .ok (.ixor, 1) := by decide +kernel
theorem dX1_clearedIfHonest_18 : decode cX1_clearedIfHonest 18 = .ok (.iand, 1) := by decide +kernel
theorem dX1_clearedIfHonest_19 : decode cX1_clearedIfHonest 19 = .ok (.ireturn, 1) := by decide +kernel
set_option maxRecDepth 20000 in
theorem ggX1_vouchers_X1_bit : GoodIn wsX1_vouchers wsX1_bit := goodIn_r _ [6] (by decide +kernel) (by decide +kernel)
set_option maxRecDepth 20000 in
theorem gX1_vouchers_X1_bit : GoodIn wsX1_vouchers (va_wsS RX1 70 yX1_bit wsX1_bit) := goodIn_app (goodIn_of _ (by decide +kernel)) ggX1_vouchers_X1_bit
theorem dX1_vouchers_0 : decode cX1_vouchers 0 = .ok (.iconst 0, 1) := by decide +kernel
theorem dX1_vouchers_1 : decode cX1_vouchers 1 = .ok (.istore_n 2, 1) := by decide +kernel
theorem dX1_vouchers_2 : decode cX1_vouchers 2 = .ok (.iconst 0, 1) := by decide +kernel
theorem dX1_vouchers_3 : decode cX1_vouchers 3 = .ok (.istore_n 3, 1) := by decide +kernel
theorem dX1_vouchers_4 : decode cX1_vouchers 4 = .ok (.iload_n 3, 1) := by decide +kernel
theorem dX1_vouchers_5 : decode cX1_vouchers 5 = .ok (.aload_n 0, 1) := by decide +kernel
theorem dX1_vouchers_6 : decode cX1_vouchers 6 = .ok (.getfield 30, 3) := by decide +kernel
theorem dX1_vouchers_9 : decode cX1_vouchers 9 = .ok (.if_icmp .ge 26, 3) := by decide +kernel
theorem dX1_vouchers_12 : decode cX1_vouchers 12 = .ok (.aload_n 0, 1) := by decide +kernel
theorem dX1_vouchers_13 : decode cX1_vouchers 13 = .ok (.getfield 21, 3) := by decide +kernel
theorem dX1_vouchers_16 : decode cX1_vouchers 16 = .ok (.iload_n 3, 1) := by decide +kernel
theorem dX1_vouchers_17 : decode cX1_vouchers 17 = .ok (.iaload, 1) := by decide +kernel
theorem dX1_vouchers_18 : decode cX1_vouchers 18 = .ok (.iload_n 1, 1) := by decide +kernel
theorem dX1_vouchers_19 : decode cX1_vouchers 19 = .ok (.if_icmp .ne 10, 3) := by decide +kernel
theorem dX1_vouchers_22 : decode cX1_vouchers 22 = .ok (.iload_n 2, 1) := by decide +kernel
theorem dX1_vouchers_23 : decode cX1_vouchers 23 = .ok (.iload_n 3, 1) := by decide +kernel
theorem dX1_vouchers_24 : decode cX1_vouchers 24 = .ok (.invokestatic 70, 3) := by decide +kernel
theorem dX1_vouchers_27 : decode cX1_vouchers 27 = .ok (.ior, 1) := by decide +kernel
theorem dX1_vouchers_28 : decode cX1_vouchers 28 = .ok (.istore_n 2, 1) := by decide +kernel
theorem dX1_vouchers_29 : decode cX1_vouchers 29 = .ok (.iinc 3 1, 3) := by decide +kernel
theorem dX1_vouchers_32 : decode cX1_vouchers 32 = .ok (.goto (-28), 3) := by decide +kernel
theorem dX1_vouchers_35 : decode cX1_vouchers 35 = .ok (.iload_n 2, 1) := by decide +kernel
theorem dX1_vouchers_36 : decode cX1_vouchers 36 = .ok (.ireturn, 1) := by decide +kernel
set_option maxRecDepth 20000 in
theorem ggX1_wholeVouchers_X1_isWhole : GoodIn wsX1_wholeVouchers wsX1_isWhole := goodIn_r _ [7, 8, 9, 10, 11, 12, 6, 13, 14, 2, 1, 18, 19, 20, 21, 22, 23, 24, 25, 26, 27, 28] (by decide +kernel) (by decide +kernel)
set_option maxRecDepth 20000 in
theorem gX1_wholeVouchers_X1_isWhole : GoodIn wsX1_wholeVouchers (wsV RX1 67 RX1 yX1_isWhole wsX1_isWhole) := goodIn_app (goodIn_of _ (by decide +kernel)) ggX1_wholeVouchers_X1_isWhole
set_option maxRecDepth 20000 in
theorem ggX1_wholeVouchers_X1_bit : GoodIn wsX1_wholeVouchers wsX1_bit := goodIn_r _ [17] (by decide +kernel) (by decide +kernel)
set_option maxRecDepth 20000 in
theorem gX1_wholeVouchers_X1_bit : GoodIn wsX1_wholeVouchers (va_wsS RX1 70 yX1_bit wsX1_bit) := goodIn_app (goodIn_of _ (by decide +kernel)) ggX1_wholeVouchers_X1_bit
theorem dX1_wholeVouchers_0 : decode cX1_wholeVouchers 0 = .ok (.iconst 0, 1) := by decide +kernel
theorem dX1_wholeVouchers_1 : decode cX1_wholeVouchers 1 = .ok (.istore_n 2, 1) := by decide +kernel
theorem dX1_wholeVouchers_2 : decode cX1_wholeVouchers 2 = .ok (.iconst 0, 1) := by decide +kernel
theorem dX1_wholeVouchers_3 : decode cX1_wholeVouchers 3 = .ok (.istore_n 3, 1) := by decide +kernel
theorem dX1_wholeVouchers_4 : decode cX1_wholeVouchers 4 = .ok (.iload_n 3, 1) := by decide +kernel
theorem dX1_wholeVouchers_5 : decode cX1_wholeVouchers 5 = .ok (.aload_n 0, 1) := by decide +kernel
theorem dX1_wholeVouchers_6 : decode cX1_wholeVouchers 6 = .ok (.getfield 30, 3) := by decide +kernel
theorem dX1_wholeVouchers_9 : decode cX1_wholeVouchers 9 = .ok (.if_icmp .ge 34, 3) := by decide +kernel
theorem dX1_wholeVouchers_12 : decode cX1_wholeVouchers 12 = .ok (.aload_n 0, 1) := by decide +kernel
theorem dX1_wholeVouchers_13 : decode cX1_wholeVouchers 13 = .ok (.getfield 21, 3) := by decide +kernel
theorem dX1_wholeVouchers_16 : decode cX1_wholeVouchers 16 = .ok (.iload_n 3, 1) := by decide +kernel
theorem dX1_wholeVouchers_17 : decode cX1_wholeVouchers 17 = .ok (.iaload, 1) := by decide +kernel
theorem dX1_wholeVouchers_18 : decode cX1_wholeVouchers 18 = .ok (.iload_n 1, 1) := by decide +kernel
theorem dX1_wholeVouchers_19 : decode cX1_wholeVouchers 19 = .ok (.if_icmp .ne 18, 3) := by decide +kernel
theorem dX1_wholeVouchers_22 : decode cX1_wholeVouchers 22 = .ok (.aload_n 0, 1) := by decide +kernel
theorem dX1_wholeVouchers_23 : decode cX1_wholeVouchers 23 = .ok (.iload_n 3, 1) := by decide +kernel
theorem dX1_wholeVouchers_24 : decode cX1_wholeVouchers 24 = .ok (.invokevirtual 67, 3) := by decide +kernel
theorem dX1_wholeVouchers_27 : decode cX1_wholeVouchers 27 = .ok (.ifCond .eq 10, 3) := by decide +kernel
theorem dX1_wholeVouchers_30 : decode cX1_wholeVouchers 30 = .ok (.iload_n 2, 1) := by decide +kernel
theorem dX1_wholeVouchers_31 : decode cX1_wholeVouchers 31 = .ok (.iload_n 3, 1) := by decide +kernel
theorem dX1_wholeVouchers_32 : decode cX1_wholeVouchers 32 = .ok (.invokestatic 70, 3) := by decide +kernel
theorem dX1_wholeVouchers_35 : decode cX1_wholeVouchers 35 = .ok (.ior, 1) := by decide +kernel
theorem dX1_wholeVouchers_36 : decode cX1_wholeVouchers 36 = .ok (.istore_n 2, 1) := by decide +kernel
theorem dX1_wholeVouchers_37 : decode cX1_wholeVouchers 37 = .ok (.iinc 3 1, 3) := by decide +kernel
theorem dX1_wholeVouchers_40 : decode cX1_wholeVouchers 40 = .ok (.goto (-36), 3) := by decide +kernel
theorem dX1_wholeVouchers_43 : decode cX1_wholeVouchers 43 = .ok (.iload_n 2, 1) := by decide +kernel
theorem dX1_wholeVouchers_44 : decode cX1_wholeVouchers 44 = .ok (.ireturn, 1) := by decide +kernel
