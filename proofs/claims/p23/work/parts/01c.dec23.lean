theorem dX2_init_0 : decode cX2_init 0 = .ok (.aload_n 0, 1) := by decide +kernel
theorem dX2_init_1 : decode cX2_init 1 = .ok (.invokespecial 3, 3) := by decide +kernel
theorem dX2_init_4 : decode cX2_init 4 = .ok (.aload_n 0, 1) := by decide +kernel
theorem dX2_init_5 : decode cX2_init 5 = .ok (.bipush 60, 2) := by decide +kernel
theorem dX2_init_7 : decode cX2_init 7 = .ok (.newarray .char, 2) := by decide +kernel
theorem dX2_init_9 : decode cX2_init 9 = .ok (.putfield 11, 3) := by decide +kernel
theorem dX2_init_12 : decode cX2_init 12 = .ok (.aload_n 0, 1) := by decide +kernel
theorem dX2_init_13 : decode cX2_init 13 = .ok (.iconst 0, 1) := by decide +kernel
theorem dX2_init_14 : decode cX2_init 14 = .ok (.putfield 15, 3) := by decide +kernel
theorem dX2_init_17 : decode cX2_init 17 = .ok (.aload_n 0, 1) := by decide +kernel
theorem dX2_init_18 : decode cX2_init 18 = .ok (.iconst 0, 1) := by decide +kernel
theorem dX2_init_19 : decode cX2_init 19 = .ok (.putfield 19, 3) := by decide +kernel
theorem dX2_init_22 : decode cX2_init 22 = .ok (.aload_n 0, 1) := by decide +kernel
theorem dX2_init_23 : decode cX2_init 23 = .ok (.bipush 32, 2) := by decide +kernel
theorem dX2_init_25 : decode cX2_init 25 = .ok (.putfield 22, 3) := by decide +kernel
theorem dX2_init_28 : decode cX2_init 28 = .ok (.aload_n 0, 1) := by decide +kernel
theorem dX2_init_29 : decode cX2_init 29 = .ok (.iconst (-1), 1) := by decide +kernel
theorem dX2_init_30 : decode cX2_init 30 = .ok (.putfield 26, 3) := by decide +kernel
theorem dX2_init_33 : decode cX2_init 33 = .ok (.aload_n 0, 1) := by decide +kernel
theorem dX2_init_34 : decode cX2_init 34 = .ok (.iconst 0, 1) := by decide +kernel
theorem dX2_init_35 : decode cX2_init 35 = .ok (.putfield 29, 3) := by decide +kernel
theorem dX2_init_38 : decode cX2_init 38 = .ok (.aload_n 0, 1) := by decide +kernel
theorem dX2_init_39 : decode cX2_init 39 = .ok (.iconst 0, 1) := by decide +kernel
theorem dX2_init_40 : decode cX2_init 40 = .ok (.putfield 32, 3) := by decide +kernel
theorem dX2_init_43 : decode cX2_init 43 = .ok (.return_, 1) := by decide +kernel
theorem dX2_length_0 : decode cX2_length 0 = .ok (.aload_n 0, 1) := by decide +kernel
theorem dX2_length_1 : decode cX2_length 1 = .ok (.getfield 15, 3) := by decide +kernel
theorem dX2_length_4 : decode cX2_length 4 = .ok (.ireturn, 1) := by decide +kernel
set_option maxRecDepth 20000 in
theorem ggX3_init_X1_init : GoodIn wsX3_init wsX1_init := goodIn_r _ [20, 21, 2, 3, 22, 23, 24, 25, 26, 27, 28, 29, 30, 31, 32, 33, 52, 53, 54, 55, 56, 57, 58, 59, 60, 61, 62] (by decide +kernel) (by decide +kernel)
set_option maxRecDepth 20000 in
theorem gX3_init_X1_init_n9 : GoodIn wsX3_init (wsX1_init) := ggX3_init_X1_init
set_option maxRecDepth 20000 in
theorem ggX3_init_X0_init : GoodIn wsX3_init wsX0_init := goodIn_r _ [36, 37, 2, 3, 38, 39, 40, 5, 6, 19, 20, 21, 22, 23, 24, 25, 26, 27, 28, 29, 30, 31, 32, 33, 69, 70, 52, 53, 54, 55, 56, 57, 58, 59, 60, 61, 62] (by decide +kernel) (by decide +kernel)
set_option maxRecDepth 20000 in
theorem gX3_init_X0_init : GoodIn wsX3_init (wsX0_init) := ggX3_init_X0_init
set_option maxRecDepth 20000 in
theorem ggX3_init_X2_init : GoodIn wsX3_init wsX2_init := goodIn_r _ [42, 43, 2, 3, 44, 45, 46, 47, 48, 49, 50, 51, 71, 72, 73, 74, 75, 76, 77] (by decide +kernel) (by decide +kernel)
set_option maxRecDepth 20000 in
theorem gX3_init_X2_init_n35 : GoodIn wsX3_init (wsX2_init) := ggX3_init_X2_init
theorem dX3_init_0 : decode cX3_init 0 = .ok (.aload_n 0, 1) := by decide +kernel
theorem dX3_init_1 : decode cX3_init 1 = .ok (.invokespecial 1, 3) := by decide +kernel
theorem dX3_init_4 : decode cX3_init 4 = .ok (.aload_n 0, 1) := by decide +kernel
theorem dX3_init_5 : decode cX3_init 5 = .ok (.new 7, 3) := by decide +kernel
theorem dX3_init_8 : decode cX3_init 8 = .ok (.dup, 1) := by decide +kernel
theorem dX3_init_9 : decode cX3_init 9 = .ok (.invokespecial 9, 3) := by decide +kernel
theorem dX3_init_12 : decode cX3_init 12 = .ok (.putfield 10, 3) := by decide +kernel
theorem dX3_init_15 : decode cX3_init 15 = .ok (.aload_n 0, 1) := by decide +kernel
theorem dX3_init_16 : decode cX3_init 16 = .ok (.new 7, 3) := by decide +kernel
theorem dX3_init_19 : decode cX3_init 19 = .ok (.dup, 1) := by decide +kernel
theorem dX3_init_20 : decode cX3_init 20 = .ok (.invokespecial 9, 3) := by decide +kernel
theorem dX3_init_23 : decode cX3_init 23 = .ok (.putfield 16, 3) := by decide +kernel
theorem dX3_init_26 : decode cX3_init 26 = .ok (.aload_n 0, 1) := by decide +kernel
theorem dX3_init_27 : decode cX3_init 27 = .ok (.new 7, 3) := by decide +kernel
theorem dX3_init_30 : decode cX3_init 30 = .ok (.dup, 1) := by decide +kernel
theorem dX3_init_31 : decode cX3_init 31 = .ok (.invokespecial 9, 3) := by decide +kernel
theorem dX3_init_34 : decode cX3_init 34 = .ok (.putfield 19, 3) := by decide +kernel
theorem dX3_init_37 : decode cX3_init 37 = .ok (.aload_n 0, 1) := by decide +kernel
theorem dX3_init_38 : decode cX3_init 38 = .ok (.iconst 0, 1) := by decide +kernel
theorem dX3_init_39 : decode cX3_init 39 = .ok (.putfield 22, 3) := by decide +kernel
theorem dX3_init_42 : decode cX3_init 42 = .ok (.aload_n 0, 1) := by decide +kernel
theorem dX3_init_43 : decode cX3_init 43 = .ok (.new 26, 3) := by decide +kernel
theorem dX3_init_46 : decode cX3_init 46 = .ok (.dup, 1) := by decide +kernel
theorem dX3_init_47 : decode cX3_init 47 = .ok (.invokespecial 28, 3) := by decide +kernel
theorem dX3_init_50 : decode cX3_init 50 = .ok (.putfield 29, 3) := by decide +kernel
theorem dX3_init_53 : decode cX3_init 53 = .ok (.aload_n 0, 1) := by decide +kernel
theorem dX3_init_54 : decode cX3_init 54 = .ok (.new 33, 3) := by decide +kernel
theorem dX3_init_57 : decode cX3_init 57 = .ok (.dup, 1) := by decide +kernel
theorem dX3_init_58 : decode cX3_init 58 = .ok (.invokespecial 35, 3) := by decide +kernel
theorem dX3_init_61 : decode cX3_init 61 = .ok (.putfield 36, 3) := by decide +kernel
theorem dX3_init_64 : decode cX3_init 64 = .ok (.return_, 1) := by decide +kernel
set_option maxRecDepth 20000 in
theorem ggX3_come_X1_copyFrom : GoodIn wsX3_come wsX1_copyFrom := goodIn_r _ [7, 8, 9, 10, 11, 12, 13, 14, 15, 16, 17, 18, 19, 20, 21, 22, 66, 67, 68, 69, 70, 71, 72, 73, 74, 75, 76] (by decide +kernel) (by decide +kernel)
set_option maxRecDepth 20000 in
theorem gX3_come_X1_copyFrom : GoodIn wsX3_come (wsV RX3 40 RX1 yX1_copyFrom wsX1_copyFrom) := goodIn_app (goodIn_of _ (by decide +kernel)) ggX3_come_X1_copyFrom
set_option maxRecDepth 20000 in
theorem ggX3_come_X1_admit : GoodIn wsX3_come wsX1_admit := goodIn_r _ [26, 18, 13, 14, 15, 17, 16, 22, 27, 28, 29, 6, 30, 31, 32, 33, 34, 35, 36, 37, 38, 39, 40, 41, 8, 66, 67, 68, 69, 70, 71, 72, 73, 74, 75, 76] (by decide +kernel) (by decide +kernel)
set_option maxRecDepth 20000 in
theorem gX3_come_X1_admit : GoodIn wsX3_come (wsV RX3 44 RX1 yX1_admit wsX1_admit) := goodIn_app (goodIn_of _ (by decide +kernel)) ggX3_come_X1_admit
set_option maxRecDepth 20000 in
theorem ggX3_come_X3_recorded : GoodIn wsX3_come wsX3_recorded := goodIn_r _ [46, 47, 1, 48, 49, 50, 51, 52, 53, 54, 55, 56, 57, 58, 59, 4, 5, 6, 7, 8, 9, 10, 11, 12, 13, 14, 15, 16, 17, 18, 19, 20, 21, 22, 60, 61, 62, 63, 64, 65, 77, 78, 66, 67, 68, 69, 70, 71, 72, 73, 74, 75, 76] (by decide +kernel) (by decide +kernel)
set_option maxRecDepth 20000 in
theorem gX3_come_X3_recorded : GoodIn wsX3_come (wsV RX3 48 RX3 yX3_recorded wsX3_recorded) := goodIn_app (goodIn_of _ (by decide +kernel)) ggX3_come_X3_recorded
theorem dX3_come_0 : decode cX3_come 0 = .ok (.aload_n 0, 1) := by decide +kernel
theorem dX3_come_1 : decode cX3_come 1 = .ok (.getfield 16, 3) := by decide +kernel
theorem dX3_come_4 : decode cX3_come 4 = .ok (.aload_n 0, 1) := by decide +kernel
theorem dX3_come_5 : decode cX3_come 5 = .ok (.getfield 10, 3) := by decide +kernel
theorem dX3_come_8 : decode cX3_come 8 = .ok (.invokevirtual 40, 3) := by decide +kernel
theorem dX3_come_11 : decode cX3_come 11 = .ok (.aload_n 0, 1) := by decide +kernel
theorem dX3_come_12 : decode cX3_come 12 = .ok (.aload_n 0, 1) := by decide +kernel
theorem dX3_come_13 : decode cX3_come 13 = .ok (.getfield 10, 3) := by decide +kernel
theorem dX3_come_16 : decode cX3_come 16 = .ok (.iload_n 1, 1) := by decide +kernel
theorem dX3_come_17 : decode cX3_come 17 = .ok (.iload_n 2, 1) := by decide +kernel
theorem dX3_come_18 : decode cX3_come 18 = .ok (.iload_n 3, 1) := by decide +kernel
theorem dX3_come_19 : decode cX3_come 19 = .ok (.invokevirtual 44, 3) := by decide +kernel
theorem dX3_come_22 : decode cX3_come 22 = .ok (.invokevirtual 48, 3) := by decide +kernel
theorem dX3_come_25 : decode cX3_come 25 = .ok (.ireturn, 1) := by decide +kernel
set_option maxRecDepth 20000 in
theorem ggX3_alter_X1_copyFrom : GoodIn wsX3_alter wsX1_copyFrom := goodIn_r _ [7, 8, 9, 10, 11, 12, 13, 14, 15, 16, 17, 18, 19, 20, 21, 22, 64, 65, 66, 67, 68, 69, 70, 71, 72, 73, 74] (by decide +kernel) (by decide +kernel)
set_option maxRecDepth 20000 in
theorem gX3_alter_X1_copyFrom : GoodIn wsX3_alter (wsV RX3 40 RX1 yX1_copyFrom wsX1_copyFrom) := goodIn_app (goodIn_of _ (by decide +kernel)) ggX3_alter_X1_copyFrom
set_option maxRecDepth 20000 in
theorem ggX3_alter_X1_changeClaim : GoodIn wsX3_alter wsX1_changeClaim := goodIn_r _ [26, 19, 13, 27, 28, 29, 6, 30, 18, 31, 32, 33, 34, 35, 36, 37, 38, 39, 64, 65, 66, 67, 68, 69, 70, 71, 72, 73, 74] (by decide +kernel) (by decide +kernel)
set_option maxRecDepth 20000 in
theorem gX3_alter_X1_changeClaim : GoodIn wsX3_alter (wsV RX3 52 RX1 yX1_changeClaim wsX1_changeClaim) := goodIn_app (goodIn_of _ (by decide +kernel)) ggX3_alter_X1_changeClaim
set_option maxRecDepth 20000 in
theorem ggX3_alter_X3_recorded : GoodIn wsX3_alter wsX3_recorded := goodIn_r _ [44, 45, 1, 46, 47, 48, 49, 50, 51, 52, 53, 54, 55, 56, 57, 4, 5, 6, 7, 8, 9, 10, 11, 12, 13, 14, 15, 16, 17, 18, 19, 20, 21, 22, 58, 59, 60, 61, 62, 63, 75, 76, 64, 65, 66, 67, 68, 69, 70, 71, 72, 73, 74] (by decide +kernel) (by decide +kernel)
set_option maxRecDepth 20000 in
theorem gX3_alter_X3_recorded : GoodIn wsX3_alter (wsV RX3 48 RX3 yX3_recorded wsX3_recorded) := goodIn_app (goodIn_of _ (by decide +kernel)) ggX3_alter_X3_recorded
theorem dX3_alter_0 : decode cX3_alter 0 = .ok (.aload_n 0, 1) := by decide +kernel
theorem dX3_alter_1 : decode cX3_alter 1 = .ok (.getfield 16, 3) := by decide +kernel
theorem dX3_alter_4 : decode cX3_alter 4 = .ok (.aload_n 0, 1) := by decide +kernel
theorem dX3_alter_5 : decode cX3_alter 5 = .ok (.getfield 10, 3) := by decide +kernel
theorem dX3_alter_8 : decode cX3_alter 8 = .ok (.invokevirtual 40, 3) := by decide +kernel
theorem dX3_alter_11 : decode cX3_alter 11 = .ok (.aload_n 0, 1) := by decide +kernel
theorem dX3_alter_12 : decode cX3_alter 12 = .ok (.aload_n 0, 1) := by decide +kernel
theorem dX3_alter_13 : decode cX3_alter 13 = .ok (.getfield 10, 3) := by decide +kernel
theorem dX3_alter_16 : decode cX3_alter 16 = .ok (.iload_n 1, 1) := by decide +kernel
theorem dX3_alter_17 : decode cX3_alter 17 = .ok (.iload_n 2, 1) := by decide +kernel
theorem dX3_alter_18 : decode cX3_alter 18 = .ok (.invokevirtual 52, 3) := by decide +kernel
theorem dX3_alter_21 : decode cX3_alter 21 = .ok (.invokevirtual 48, 3) := by decide +kernel
theorem dX3_alter_24 : decode cX3_alter 24 = .ok (.ireturn, 1) := by decide +kernel
set_option maxRecDepth 20000 in
theorem ggX3_reseal_X1_copyFrom : GoodIn wsX3_reseal wsX1_copyFrom := goodIn_r _ [7, 8, 9, 10, 11, 12, 13, 14, 15, 16, 17, 18, 19, 20, 21, 22, 67, 68, 69, 70, 71, 72, 73, 74, 75, 76, 77] (by decide +kernel) (by decide +kernel)
set_option maxRecDepth 20000 in
theorem gX3_reseal_X1_copyFrom : GoodIn wsX3_reseal (wsV RX3 40 RX1 yX1_copyFrom wsX1_copyFrom) := goodIn_app (goodIn_of _ (by decide +kernel)) ggX3_reseal_X1_copyFrom
set_option maxRecDepth 20000 in
theorem ggX3_reseal_X1_mendSeal : GoodIn wsX3_reseal wsX1_mendSeal := goodIn_r _ [26, 16, 27, 28, 29, 6, 30, 18, 31, 32, 33, 34, 13, 35, 36, 37, 38, 8, 15, 39, 40, 41, 42, 67, 68, 69, 70, 71, 72, 73, 74, 75, 76, 77] (by decide +kernel) (by decide +kernel)
set_option maxRecDepth 20000 in
theorem gX3_reseal_X1_mendSeal : GoodIn wsX3_reseal (wsV RX3 56 RX1 yX1_mendSeal wsX1_mendSeal) := goodIn_app (goodIn_of _ (by decide +kernel)) ggX3_reseal_X1_mendSeal
set_option maxRecDepth 20000 in
theorem ggX3_reseal_X3_recorded : GoodIn wsX3_reseal wsX3_recorded := goodIn_r _ [47, 48, 1, 49, 50, 51, 52, 53, 54, 55, 56, 57, 58, 59, 60, 4, 5, 6, 7, 8, 9, 10, 11, 12, 13, 14, 15, 16, 17, 18, 19, 20, 21, 22, 61, 62, 63, 64, 65, 66, 78, 79, 67, 68, 69, 70, 71, 72, 73, 74, 75, 76, 77] (by decide +kernel) (by decide +kernel)
set_option maxRecDepth 20000 in
theorem gX3_reseal_X3_recorded : GoodIn wsX3_reseal (wsV RX3 48 RX3 yX3_recorded wsX3_recorded) := goodIn_app (goodIn_of _ (by decide +kernel)) ggX3_reseal_X3_recorded
theorem dX3_reseal_0 : decode cX3_reseal 0 = .ok (.aload_n 0, 1) := by decide +kernel
theorem dX3_reseal_1 : decode cX3_reseal 1 = .ok (.getfield 16, 3) := by decide +kernel
theorem dX3_reseal_4 : decode cX3_reseal 4 = .ok (.aload_n 0, 1) := by decide +kernel
theorem dX3_reseal_5 : decode cX3_reseal 5 = .ok (.getfield 10, 3) := by decide +kernel
theorem dX3_reseal_8 : decode cX3_reseal 8 = .ok (.invokevirtual 40, 3) := by decide +kernel
theorem dX3_reseal_11 : decode cX3_reseal 11 = .ok (.aload_n 0, 1) := by decide +kernel
theorem dX3_reseal_12 : decode cX3_reseal 12 = .ok (.aload_n 0, 1) := by decide +kernel
theorem dX3_reseal_13 : decode cX3_reseal 13 = .ok (.getfield 10, 3) := by decide +kernel
theorem dX3_reseal_16 : decode cX3_reseal 16 = .ok (.iload_n 1, 1) := by decide +kernel
theorem dX3_reseal_17 : decode cX3_reseal 17 = .ok (.invokevirtual 56, 3) := by decide +kernel
theorem dX3_reseal_20 : decode cX3_reseal 20 = .ok (.invokevirtual 48, 3) := by decide +kernel
theorem dX3_reseal_23 : decode cX3_reseal 23 = .ok (.ireturn, 1) := by decide +kernel
set_option maxRecDepth 20000 in
theorem ggX3_open_X1_copyFrom : GoodIn wsX3_open wsX1_copyFrom := goodIn_r _ [7, 8, 9, 10, 11, 12, 13, 14, 15, 16, 17, 18, 19, 20, 21, 22, 104, 105, 106, 107, 108, 109, 110, 111, 112, 113, 114] (by decide +kernel) (by decide +kernel)
set_option maxRecDepth 20000 in
theorem gX3_open_X1_copyFrom : GoodIn wsX3_open (wsV RX3 40 RX1 yX1_copyFrom wsX1_copyFrom) := goodIn_app (goodIn_of _ (by decide +kernel)) ggX3_open_X1_copyFrom
set_option maxRecDepth 20000 in
theorem ggX3_open_X1_inspect : GoodIn wsX3_open wsX1_inspect := goodIn_r _ [26, 19, 17, 14, 21, 27, 28, 29, 6, 30, 18, 31, 32, 33, 34, 35, 36, 37, 38, 39, 40, 8, 13, 41, 42, 43, 44, 45, 46, 47, 48, 16, 49, 50, 51, 52, 15, 53, 54, 55, 56, 57, 58, 59, 60, 20, 61, 62, 63, 64, 65, 66, 67, 68, 69, 70, 71, 72, 73, 74, 75, 76, 77, 78, 79, 104, 105, 106, 107, 108, 109, 110, 111, 112, 113, 114] (by decide +kernel) (by decide +kernel)
set_option maxRecDepth 20000 in
theorem gX3_open_X1_inspect : GoodIn wsX3_open (wsV RX3 59 RX1 yX1_inspect wsX1_inspect) := goodIn_app (goodIn_of _ (by decide +kernel)) ggX3_open_X1_inspect
set_option maxRecDepth 20000 in
theorem ggX3_open_X3_recorded : GoodIn wsX3_open wsX3_recorded := goodIn_r _ [84, 85, 1, 86, 87, 88, 89, 90, 91, 92, 93, 94, 95, 96, 97, 4, 5, 6, 7, 8, 9, 10, 11, 12, 13, 14, 15, 16, 17, 18, 19, 20, 21, 22, 98, 99, 100, 101, 102, 103, 115, 116, 104, 105, 106, 107, 108, 109, 110, 111, 112, 113, 114] (by decide +kernel) (by decide +kernel)
set_option maxRecDepth 20000 in
theorem gX3_open_X3_recorded : GoodIn wsX3_open (wsV RX3 48 RX3 yX3_recorded wsX3_recorded) := goodIn_app (goodIn_of _ (by decide +kernel)) ggX3_open_X3_recorded
theorem dX3_open_0 : decode cX3_open 0 = .ok (.aload_n 0, 1) := by decide +kernel
theorem dX3_open_1 : decode cX3_open 1 = .ok (.getfield 16, 3) := by decide +kernel
theorem dX3_open_4 : decode cX3_open 4 = .ok (.aload_n 0, 1) := by decide +kernel
theorem dX3_open_5 : decode cX3_open 5 = .ok (.getfield 10, 3) := by decide +kernel
theorem dX3_open_8 : decode cX3_open 8 = .ok (.invokevirtual 40, 3) := by decide +kernel
theorem dX3_open_11 : decode cX3_open 11 = .ok (.aload_n 0, 1) := by decide +kernel
theorem dX3_open_12 : decode cX3_open 12 = .ok (.aload_n 0, 1) := by decide +kernel
theorem dX3_open_13 : decode cX3_open 13 = .ok (.getfield 10, 3) := by decide +kernel
theorem dX3_open_16 : decode cX3_open 16 = .ok (.iload_n 1, 1) := by decide +kernel
theorem dX3_open_17 : decode cX3_open 17 = .ok (.invokevirtual 59, 3) := by decide +kernel
theorem dX3_open_20 : decode cX3_open 20 = .ok (.invokevirtual 48, 3) := by decide +kernel
theorem dX3_open_23 : decode cX3_open 23 = .ok (.ireturn, 1) := by decide +kernel
set_option maxRecDepth 20000 in
theorem ggX3_openAll_X1_copyFrom : GoodIn wsX3_openAll wsX1_copyFrom := goodIn_r _ [7, 8, 9, 10, 11, 12, 13, 14, 15, 16, 17, 18, 19, 20, 21, 22, 116, 117, 118, 119, 120, 121, 122, 123, 124, 125, 126] (by decide +kernel) (by decide +kernel)
set_option maxRecDepth 20000 in
theorem gX3_openAll_X1_copyFrom : GoodIn wsX3_openAll (wsV RX3 40 RX1 yX1_copyFrom wsX1_copyFrom) := goodIn_app (goodIn_of _ (by decide +kernel)) ggX3_openAll_X1_copyFrom
set_option maxRecDepth 20000 in
theorem ggX3_openAll_X1_inspectAll : GoodIn wsX3_openAll wsX1_inspectAll := goodIn_r _ [26, 18, 27, 28, 29, 6, 30, 21, 19, 31, 32, 33, 34, 35, 36, 37, 38, 39, 40, 41, 42, 43, 44, 17, 14, 45, 46, 47, 48, 49, 50, 51, 52, 8, 13, 53, 54, 55, 56, 57, 58, 59, 60, 16, 61, 62, 63, 64, 15, 65, 66, 67, 68, 69, 70, 71, 72, 20, 73, 74, 75, 76, 77, 78, 79, 80, 81, 82, 83, 84, 85, 86, 87, 88, 89, 90, 91, 116, 117, 118, 119, 120, 121, 122, 123, 124, 125, 126] (by decide +kernel) (by decide +kernel)
set_option maxRecDepth 20000 in
theorem gX3_openAll_X1_inspectAll : GoodIn wsX3_openAll (wsV RX3 62 RX1 yX1_inspectAll wsX1_inspectAll) := goodIn_app (goodIn_of _ (by decide +kernel)) ggX3_openAll_X1_inspectAll
set_option maxRecDepth 20000 in
theorem ggX3_openAll_X3_recorded : GoodIn wsX3_openAll wsX3_recorded := goodIn_r _ [96, 97, 1, 98, 99, 100, 101, 102, 103, 104, 105, 106, 107, 108, 109, 4, 5, 6, 7, 8, 9, 10, 11, 12, 13, 14, 15, 16, 17, 18, 19, 20, 21, 22, 110, 111, 112, 113, 114, 115, 127, 128, 116, 117, 118, 119, 120, 121, 122, 123, 124, 125, 126] (by decide +kernel) (by decide +kernel)
set_option maxRecDepth 20000 in
theorem gX3_openAll_X3_recorded : GoodIn wsX3_openAll (wsV RX3 48 RX3 yX3_recorded wsX3_recorded) := goodIn_app (goodIn_of _ (by decide +kernel)) ggX3_openAll_X3_recorded
theorem dX3_openAll_0 : decode cX3_openAll 0 = .ok (.aload_n 0, 1) := by decide +kernel
theorem dX3_openAll_1 : decode cX3_openAll 1 = .ok (.getfield 16, 3) := by decide +kernel
theorem dX3_openAll_4 : decode cX3_openAll 4 = .ok (.aload_n 0, 1) := by decide +kernel
theorem dX3_openAll_5 : decode cX3_openAll 5 = .ok (.getfield 10, 3) := by decide +kernel
theorem dX3_openAll_8 : decode cX3_openAll 8 = .ok (.invokevirtual 40, 3) := by decide +kernel
theorem dX3_openAll_11 : decode cX3_openAll 11 = .ok (.aload_n 0, 1) := by decide +kernel
theorem dX3_openAll_12 : decode cX3_openAll 12 = .ok (.aload_n 0, 1) := by decide +kernel
theorem dX3_openAll_13 : decode cX3_openAll 13 = .ok (.getfield 10, 3) := by decide +kernel
theorem dX3_openAll_16 : decode cX3_openAll 16 = .ok (.invokevirtual 62, 3) := by decide +kernel
theorem dX3_openAll_19 : decode cX3_openAll 19 = .ok (.invokevirtual 48, 3) := by decide +kernel
theorem dX3_openAll_22 : decode cX3_openAll 22 = .ok (.ireturn, 1) := by decide +kernel
set_option maxRecDepth 20000 in
theorem ggX3_set_X1_copyFrom : GoodIn wsX3_set wsX1_copyFrom := goodIn_r _ [7, 8, 9, 10, 11, 12, 13, 14, 15, 16, 17, 18, 19, 20, 21, 22, 53, 54, 55, 56, 57, 58, 59, 60, 61, 62, 63] (by decide +kernel) (by decide +kernel)
set_option maxRecDepth 20000 in
theorem gX3_set_X1_copyFrom : GoodIn wsX3_set (wsV RX3 40 RX1 yX1_copyFrom wsX1_copyFrom) := goodIn_app (goodIn_of _ (by decide +kernel)) ggX3_set_X1_copyFrom
set_option maxRecDepth 20000 in
theorem ggX3_set_X1_changeSetting : GoodIn wsX3_set wsX1_changeSetting := goodIn_r _ [26, 27, 28, 8, 53, 54, 55, 56, 57, 58, 59, 60, 61, 62, 63] (by decide +kernel) (by decide +kernel)
set_option maxRecDepth 20000 in
theorem gX3_set_X1_changeSetting : GoodIn wsX3_set (wsV RX3 66 RX1 yX1_changeSetting wsX1_changeSetting) := goodIn_app (goodIn_of _ (by decide +kernel)) ggX3_set_X1_changeSetting
set_option maxRecDepth 20000 in
theorem ggX3_set_X3_recorded : GoodIn wsX3_set wsX3_recorded := goodIn_r _ [33, 34, 1, 35, 36, 37, 38, 39, 40, 41, 42, 43, 44, 45, 46, 4, 5, 6, 7, 8, 9, 10, 11, 12, 13, 14, 15, 16, 17, 18, 19, 20, 21, 22, 47, 48, 49, 50, 51, 52, 64, 65, 53, 54, 55, 56, 57, 58, 59, 60, 61, 62, 63] (by decide +kernel) (by decide +kernel)
set_option maxRecDepth 20000 in
theorem gX3_set_X3_recorded : GoodIn wsX3_set (wsV RX3 48 RX3 yX3_recorded wsX3_recorded) := goodIn_app (goodIn_of _ (by decide +kernel)) ggX3_set_X3_recorded
theorem dX3_set_0 : decode cX3_set 0 = .ok (.aload_n 0, 1) := by decide +kernel
theorem dX3_set_1 : decode cX3_set 1 = .ok (.getfield 16, 3) := by decide +kernel
theorem dX3_set_4 : decode cX3_set 4 = .ok (.aload_n 0, 1) := by decide +kernel
theorem dX3_set_5 : decode cX3_set 5 = .ok (.getfield 10, 3) := by decide +kernel
theorem dX3_set_8 : decode cX3_set 8 = .ok (.invokevirtual 40, 3) := by decide +kernel
theorem dX3_set_11 : decode cX3_set 11 = .ok (.aload_n 0, 1) := by decide +kernel
theorem dX3_set_12 : decode cX3_set 12 = .ok (.aload_n 0, 1) := by decide +kernel
theorem dX3_set_13 : decode cX3_set 13 = .ok (.getfield 10, 3) := by decide +kernel
theorem dX3_set_16 : decode cX3_set 16 = .ok (.iload_n 1, 1) := by decide +kernel
theorem dX3_set_17 : decode cX3_set 17 = .ok (.iload_n 2, 1) := by decide +kernel
theorem dX3_set_18 : decode cX3_set 18 = .ok (.invokevirtual 66, 3) := by decide +kernel
theorem dX3_set_21 : decode cX3_set 21 = .ok (.invokevirtual 48, 3) := by decide +kernel
theorem dX3_set_24 : decode cX3_set 24 = .ok (.ireturn, 1) := by decide +kernel
set_option maxRecDepth 20000 in
theorem ggX3_undo_X0_takeLatest : GoodIn wsX3_undo wsX0_takeLatest := goodIn_r _ [7, 8, 9, 10, 11, 12, 13, 14, 15, 16, 17, 18, 19, 20, 21, 22, 23, 24, 25, 26, 27, 28, 29, 36, 37, 38, 39, 40, 41, 42, 43, 44, 45, 46, 47, 48] (by decide +kernel) (by decide +kernel)
set_option maxRecDepth 20000 in
theorem gX3_undo_X0_takeLatest : GoodIn wsX3_undo (wsV RX3 95 RX0 yX0_takeLatest wsX0_takeLatest) := goodIn_app (goodIn_of _ (by decide +kernel)) ggX3_undo_X0_takeLatest
theorem dX3_undo_0 : decode cX3_undo 0 = .ok (.aload_n 0, 1) := by decide +kernel
theorem dX3_undo_1 : decode cX3_undo 1 = .ok (.getfield 29, 3) := by decide +kernel
theorem dX3_undo_4 : decode cX3_undo 4 = .ok (.aload_n 0, 1) := by decide +kernel
theorem dX3_undo_5 : decode cX3_undo 5 = .ok (.getfield 10, 3) := by decide +kernel
theorem dX3_undo_8 : decode cX3_undo 8 = .ok (.invokevirtual 95, 3) := by decide +kernel
theorem dX3_undo_11 : decode cX3_undo 11 = .ok (.ireturn, 1) := by decide +kernel
set_option maxRecDepth 20000 in
theorem ggX3_keep_X1_copyFrom : GoodIn wsX3_keep wsX1_copyFrom := goodIn_r _ [8, 9, 10, 11, 12, 13, 14, 15, 16, 17, 18, 19, 20, 21, 22, 23, 34, 35, 36, 37, 38, 39, 40, 41, 42, 43, 44] (by decide +kernel) (by decide +kernel)
set_option maxRecDepth 20000 in
theorem gX3_keep_X1_copyFrom : GoodIn wsX3_keep (wsV RX3 40 RX1 yX1_copyFrom wsX1_copyFrom) := goodIn_app (goodIn_of _ (by decide +kernel)) ggX3_keep_X1_copyFrom
set_option maxRecDepth 20000 in
theorem ggX3_keep_X1_carts : GoodIn wsX3_keep wsX1_carts := goodIn_r _ [27, 19, 34, 35, 36, 37, 38, 39, 40, 41, 42, 43, 44] (by decide +kernel) (by decide +kernel)
set_option maxRecDepth 20000 in
theorem gX3_keep_X1_carts : GoodIn wsX3_keep (wsV RX3 99 RX1 yX1_carts wsX1_carts) := goodIn_app (goodIn_of _ (by decide +kernel)) ggX3_keep_X1_carts
theorem dX3_keep_0 : decode cX3_keep 0 = .ok (.aload_n 0, 1) := by decide +kernel
theorem dX3_keep_1 : decode cX3_keep 1 = .ok (.getfield 19, 3) := by decide +kernel
theorem dX3_keep_4 : decode cX3_keep 4 = .ok (.aload_n 0, 1) := by decide +kernel
theorem dX3_keep_5 : decode cX3_keep 5 = .ok (.getfield 10, 3) := by decide +kernel
theorem dX3_keep_8 : decode cX3_keep 8 = .ok (.invokevirtual 40, 3) := by decide +kernel
theorem dX3_keep_11 : decode cX3_keep 11 = .ok (.aload_n 0, 1) := by decide +kernel
theorem dX3_keep_12 : decode cX3_keep 12 = .ok (.iconst 1, 1) := by decide +kernel
theorem dX3_keep_13 : decode cX3_keep 13 = .ok (.putfield 22, 3) := by decide +kernel
theorem dX3_keep_16 : decode cX3_keep 16 = .ok (.aload_n 0, 1) := by decide +kernel
theorem dX3_keep_17 : decode cX3_keep 17 = .ok (.getfield 10, 3) := by decide +kernel
theorem dX3_keep_20 : decode cX3_keep 20 = .ok (.invokevirtual 99, 3) := by decide +kernel
theorem dX3_keep_23 : decode cX3_keep 23 = .ok (.ireturn, 1) := by decide +kernel
set_option maxRecDepth 20000 in
theorem ggX3_restore_X1_copyFrom : GoodIn wsX3_restore wsX1_copyFrom := goodIn_r _ [9, 10, 11, 12, 13, 14, 15, 16, 17, 18, 19, 20, 21, 22, 23, 24, 53, 54, 55, 56, 57, 58, 59, 60, 61, 62, 63] (by decide +kernel) (by decide +kernel)
set_option maxRecDepth 20000 in
theorem gX3_restore_X1_copyFrom : GoodIn wsX3_restore (wsV RX3 40 RX1 yX1_copyFrom wsX1_copyFrom) := goodIn_app (goodIn_of _ (by decide +kernel)) ggX3_restore_X1_copyFrom
set_option maxRecDepth 20000 in
theorem ggX3_restore_X1_carts : GoodIn wsX3_restore wsX1_carts := goodIn_r _ [28, 20, 53, 54, 55, 56, 57, 58, 59, 60, 61, 62, 63] (by decide +kernel) (by decide +kernel)
set_option maxRecDepth 20000 in
theorem gX3_restore_X1_carts : GoodIn wsX3_restore (wsV RX3 99 RX1 yX1_carts wsX1_carts) := goodIn_app (goodIn_of _ (by decide +kernel)) ggX3_restore_X1_carts
set_option maxRecDepth 20000 in
theorem ggX3_restore_X3_recorded : GoodIn wsX3_restore wsX3_recorded := goodIn_r _ [33, 34, 2, 35, 36, 37, 38, 39, 40, 41, 42, 43, 44, 45, 46, 6, 7, 8, 9, 10, 11, 12, 13, 14, 15, 16, 17, 18, 19, 20, 21, 22, 23, 24, 47, 48, 49, 50, 51, 52, 64, 65, 53, 54, 55, 56, 57, 58, 59, 60, 61, 62, 63] (by decide +kernel) (by decide +kernel)
set_option maxRecDepth 20000 in
theorem gX3_restore_X3_recorded : GoodIn wsX3_restore (wsV RX3 48 RX3 yX3_recorded wsX3_recorded) := goodIn_app (goodIn_of _ (by decide +kernel)) ggX3_restore_X3_recorded
theorem dX3_restore_0 : decode cX3_restore 0 = .ok (.aload_n 0, 1) := by decide +kernel
theorem dX3_restore_1 : decode cX3_restore 1 = .ok (.getfield 22, 3) := by decide +kernel
theorem dX3_restore_4 : decode cX3_restore 4 = .ok (.ifCond .ne 6, 3) := by decide +kernel
theorem dX3_restore_7 : decode cX3_restore 7 = .ok (.bipush (-5), 2) := by decide +kernel
theorem dX3_restore_9 : decode cX3_restore 9 = .ok (.ireturn, 1) := by decide +kernel
theorem dX3_restore_10 : decode cX3_restore 10 = .ok (.aload_n 0, 1) := by decide +kernel
theorem dX3_restore_11 : decode cX3_restore 11 = .ok (.getfield 16, 3) := by decide +kernel
theorem dX3_restore_14 : decode cX3_restore 14 = .ok (.aload_n 0, 1) := by decide +kernel
theorem dX3_restore_15 : decode cX3_restore 15 = .ok (.getfield 10, 3) := by decide +kernel
theorem dX3_restore_18 : decode cX3_restore 18 = .ok (.invokevirtual 40, 3) := by decide +kernel
theorem dX3_restore_21 : decode cX3_restore 21 = .ok (.aload_n 0, 1) := by decide +kernel
theorem dX3_restore_22 : decode cX3_restore 22 = .ok (.getfield 10, 3) := by decide +kernel
theorem dX3_restore_25 : decode cX3_restore 25 = .ok (.aload_n 0, 1) := by decide +kernel
theorem dX3_restore_26 : decode cX3_restore 26 = .ok (.getfield 19, 3) := by decide +kernel
theorem dX3_restore_29 : decode cX3_restore 29 = .ok (.invokevirtual 40, 3) := by decide +kernel
theorem dX3_restore_32 : decode cX3_restore 32 = .ok (.aload_n 0, 1) := by decide +kernel
theorem dX3_restore_33 : decode cX3_restore 33 = .ok (.aload_n 0, 1) := by decide +kernel
theorem dX3_restore_34 : decode cX3_restore 34 = .ok (.getfield 10, 3) := by decide +kernel
theorem dX3_restore_37 : decode cX3_restore 37 = .ok (.invokevirtual 99, 3) := by decide +kernel
theorem dX3_restore_40 : decode cX3_restore 40 = .ok (.invokevirtual 48, 3) := by decide +kernel
theorem dX3_restore_43 : decode cX3_restore 43 = .ok (.ireturn, 1) := by decide +kernel
set_option maxRecDepth 20000 in
theorem ggX3_cart_X1_tellOfCart : GoodIn wsX3_cart wsX1_tellOfCart := goodIn_r _ [6, 7, 8, 9, 10, 11, 12, 13, 14, 15, 16, 5, 17, 18, 19, 20, 21, 22, 23, 24, 25, 26, 27, 28, 29, 30, 31, 32, 33, 34, 35, 36, 37, 38, 39, 40, 41, 42, 43, 44, 45, 46, 47, 48, 49, 50, 51, 52, 53, 54, 55, 56, 57, 58, 59, 60, 61, 68, 69, 70, 71, 72, 73, 74, 75, 76, 77, 78] (by decide +kernel) (by decide +kernel)
set_option maxRecDepth 20000 in
theorem gX3_cart_X1_tellOfCart : GoodIn wsX3_cart (wsV RX3 102 RX1 yX1_tellOfCart wsX1_tellOfCart) := goodIn_app (goodIn_of _ (by decide +kernel)) ggX3_cart_X1_tellOfCart
theorem dX3_cart_0 : decode cX3_cart 0 = .ok (.aload_n 0, 1) := by decide +kernel
theorem dX3_cart_1 : decode cX3_cart 1 = .ok (.getfield 10, 3) := by decide +kernel
theorem dX3_cart_4 : decode cX3_cart 4 = .ok (.iload_n 1, 1) := by decide +kernel
theorem dX3_cart_5 : decode cX3_cart 5 = .ok (.iload_n 2, 1) := by decide +kernel
theorem dX3_cart_6 : decode cX3_cart 6 = .ok (.invokevirtual 102, 3) := by decide +kernel
theorem dX3_cart_9 : decode cX3_cart 9 = .ok (.ireturn, 1) := by decide +kernel
set_option maxRecDepth 20000 in
theorem ggX3_chain_X1_cartOfChain : GoodIn wsX3_chain wsX1_cartOfChain := goodIn_r _ [6, 7, 8, 9, 10, 5, 11, 12, 19, 20, 21, 22, 23, 24, 25, 26, 27, 28, 29] (by decide +kernel) (by decide +kernel)
set_option maxRecDepth 20000 in
theorem gX3_chain_X1_cartOfChain : GoodIn wsX3_chain (wsV RX3 105 RX1 yX1_cartOfChain wsX1_cartOfChain) := goodIn_app (goodIn_of _ (by decide +kernel)) ggX3_chain_X1_cartOfChain
theorem dX3_chain_0 : decode cX3_chain 0 = .ok (.aload_n 0, 1) := by decide +kernel
theorem dX3_chain_1 : decode cX3_chain 1 = .ok (.getfield 10, 3) := by decide +kernel
theorem dX3_chain_4 : decode cX3_chain 4 = .ok (.iload_n 1, 1) := by decide +kernel
theorem dX3_chain_5 : decode cX3_chain 5 = .ok (.iload_n 2, 1) := by decide +kernel
theorem dX3_chain_6 : decode cX3_chain 6 = .ok (.invokevirtual 105, 3) := by decide +kernel
theorem dX3_chain_9 : decode cX3_chain 9 = .ok (.ireturn, 1) := by decide +kernel
set_option maxRecDepth 20000 in
theorem ggX3_brokenIn_X1_firstBroken : GoodIn wsX3_brokenIn wsX1_firstBroken := goodIn_r _ [6, 7, 8, 9, 10, 5, 11, 12, 13, 14, 15, 16, 17, 18, 19, 20, 21, 22, 23, 30, 31, 32, 33, 34, 35, 36, 37, 38, 39, 40] (by decide +kernel) (by decide +kernel)
set_option maxRecDepth 20000 in
theorem gX3_brokenIn_X1_firstBroken : GoodIn wsX3_brokenIn (wsV RX3 108 RX1 yX1_firstBroken wsX1_firstBroken) := goodIn_app (goodIn_of _ (by decide +kernel)) ggX3_brokenIn_X1_firstBroken
theorem dX3_brokenIn_0 : decode cX3_brokenIn 0 = .ok (.aload_n 0, 1) := by decide +kernel
theorem dX3_brokenIn_1 : decode cX3_brokenIn 1 = .ok (.getfield 10, 3) := by decide +kernel
theorem dX3_brokenIn_4 : decode cX3_brokenIn 4 = .ok (.iload_n 1, 1) := by decide +kernel
theorem dX3_brokenIn_5 : decode cX3_brokenIn 5 = .ok (.invokevirtual 108, 3) := by decide +kernel
theorem dX3_brokenIn_8 : decode cX3_brokenIn 8 = .ok (.ireturn, 1) := by decide +kernel
set_option maxRecDepth 20000 in
theorem ggX3_total_X0_states : GoodIn wsX3_total wsX0_states := goodIn_r _ [8, 9, 95, 96] (by decide +kernel) (by decide +kernel)
set_option maxRecDepth 20000 in
theorem gX3_total_X0_states : GoodIn wsX3_total (wsV RX3 111 RX0 yX0_states wsX0_states) := goodIn_app (goodIn_of _ (by decide +kernel)) ggX3_total_X0_states
set_option maxRecDepth 20000 in
theorem ggX3_total_X2_length : GoodIn wsX3_total wsX2_length := goodIn_r _ [14, 15, 97, 98, 99, 100, 101, 102, 103] (by decide +kernel) (by decide +kernel)
set_option maxRecDepth 20000 in
theorem gX3_total_X2_length : GoodIn wsX3_total (wsV RX3 114 RX2 yX2_length wsX2_length) := goodIn_app (goodIn_of _ (by decide +kernel)) ggX3_total_X2_length
set_option maxRecDepth 20000 in
theorem ggX3_total_X1_tellOfAll : GoodIn wsX3_total wsX1_tellOfAll := goodIn_r _ [20, 21, 22, 23, 24, 25, 26, 27, 28, 29, 30, 31, 32, 33, 34, 35, 36, 19, 37, 38, 39, 40, 41, 42, 43, 44, 45, 46, 47, 48, 49, 50, 51, 52, 53, 54, 55, 56, 57, 58, 59, 60, 61, 62, 63, 64, 65, 66, 67, 68, 69, 70, 71, 72, 73, 74, 75, 76, 77, 78, 79, 80, 81, 82, 83, 84, 85, 86, 87, 88, 104, 105, 106, 107, 108, 109, 110, 111, 112, 113, 114] (by decide +kernel) (by decide +kernel)
set_option maxRecDepth 20000 in
theorem gX3_total_X1_tellOfAll : GoodIn wsX3_total (wsV RX3 117 RX1 yX1_tellOfAll wsX1_tellOfAll) := goodIn_app (goodIn_of _ (by decide +kernel)) ggX3_total_X1_tellOfAll
theorem dX3_total_0 : decode cX3_total 0 = .ok (.iload_n 1, 1) := by decide +kernel
theorem dX3_total_1 : decode cX3_total 1 = .ok (.bipush 15, 2) := by decide +kernel
theorem dX3_total_3 : decode cX3_total 3 = .ok (.if_icmp .ne 11, 3) := by decide +kernel
theorem dX3_total_6 : decode cX3_total 6 = .ok (.aload_n 0, 1) := by decide +kernel
theorem dX3_total_7 : decode cX3_total 7 = .ok (.getfield 29, 3) := by decide +kernel
theorem dX3_total_10 : decode cX3_total 10 = .ok (.invokevirtual 111, 3) := by decide +kernel
theorem dX3_total_13 : decode cX3_total 13 = .ok (.ireturn, 1) := by decide +kernel
theorem dX3_total_14 : decode cX3_total 14 = .ok (.iload_n 1, 1) := by decide +kernel
theorem dX3_total_15 : decode cX3_total 15 = .ok (.bipush 16, 2) := by decide +kernel
theorem dX3_total_17 : decode cX3_total 17 = .ok (.if_icmp .ne 11, 3) := by decide +kernel
theorem dX3_total_20 : decode cX3_total 20 = .ok (.aload_n 0, 1) := by decide +kernel
theorem dX3_total_21 : decode cX3_total 21 = .ok (.getfield 36, 3) := by decide +kernel
theorem dX3_total_24 : decode cX3_total 24 = .ok (.invokevirtual 114, 3) := by decide +kernel
theorem dX3_total_27 : decode cX3_total 27 = .ok (.ireturn, 1) := by decide +kernel
theorem dX3_total_28 : decode cX3_total 28 = .ok (.aload_n 0, 1) := by decide +kernel
theorem dX3_total_29 : decode cX3_total 29 = .ok (.getfield 10, 3) := by decide +kernel
theorem dX3_total_32 : decode cX3_total 32 = .ok (.iload_n 1, 1) := by decide +kernel
theorem dX3_total_33 : decode cX3_total 33 = .ok (.invokevirtual 117, 3) := by decide +kernel
theorem dX3_total_36 : decode cX3_total 36 = .ok (.ireturn, 1) := by decide +kernel
set_option maxRecDepth 20000 in
theorem ggX3_ifOpened_X1_foretell : GoodIn wsX3_ifOpened wsX1_foretell := goodIn_r _ [6, 7, 8, 9, 10, 11, 5, 12, 13, 14, 15, 16, 17, 18, 19, 20, 21, 22, 23, 24, 25, 26, 27, 28, 29, 30, 31, 32, 33, 34, 35, 36, 37, 38, 39, 40, 41, 42, 43, 44, 45, 46, 47, 48, 49, 50, 51, 52, 53, 54, 55, 56, 57, 58, 59, 60, 61, 62, 63, 70, 71, 72, 73, 74, 75, 76, 77, 78, 79, 80] (by decide +kernel) (by decide +kernel)
set_option maxRecDepth 20000 in
theorem gX3_ifOpened_X1_foretell : GoodIn wsX3_ifOpened (wsV RX3 120 RX1 yX1_foretell wsX1_foretell) := goodIn_app (goodIn_of _ (by decide +kernel)) ggX3_ifOpened_X1_foretell
theorem dX3_ifOpened_0 : decode cX3_ifOpened 0 = .ok (.aload_n 0, 1) := by decide +kernel
theorem dX3_ifOpened_1 : decode cX3_ifOpened 1 = .ok (.getfield 10, 3) := by decide +kernel
theorem dX3_ifOpened_4 : decode cX3_ifOpened 4 = .ok (.iload_n 1, 1) := by decide +kernel
theorem dX3_ifOpened_5 : decode cX3_ifOpened 5 = .ok (.iload_n 2, 1) := by decide +kernel
theorem dX3_ifOpened_6 : decode cX3_ifOpened 6 = .ok (.invokevirtual 120, 3) := by decide +kernel
theorem dX3_ifOpened_9 : decode cX3_ifOpened 9 = .ok (.ireturn, 1) := by decide +kernel
set_option maxRecDepth 20000 in
theorem ggX3_fewestOpenings_X1_countEnds : GoodIn wsX3_fewestOpenings wsX1_countEnds := goodIn_r _ [6, 7, 8, 9, 10, 5, 11, 12, 13, 14, 15, 16, 17, 18, 19, 20, 21, 22, 23, 24, 25, 26, 27, 28, 29, 30, 31, 32, 33, 34, 35, 36, 37, 38, 39, 40, 41, 42, 43, 44, 45, 46, 47, 48, 49, 50, 61, 62, 63, 64, 65, 66, 67, 68, 69, 70, 71] (by decide +kernel) (by decide +kernel)
set_option maxRecDepth 20000 in
theorem gX3_fewestOpenings_X1_countEnds : GoodIn wsX3_fewestOpenings (wsV RX3 123 RX1 yX1_countEnds wsX1_countEnds) := goodIn_app (goodIn_of _ (by decide +kernel)) ggX3_fewestOpenings_X1_countEnds
set_option maxRecDepth 20000 in
theorem ggX3_fewestOpenings_X1_countHonestOpenings : GoodIn wsX3_fewestOpenings wsX1_countHonestOpenings := goodIn_r _ [54, 7, 8, 9, 10, 5, 11, 12, 13, 14, 15, 16, 17, 18, 19, 20, 21, 22, 23, 24, 25, 26, 27, 28, 29, 30, 31, 32, 33, 34, 35, 36, 37, 38, 39, 40, 41, 42, 43, 61, 62, 63, 64, 65, 66, 67, 68, 69, 70, 71] (by decide +kernel) (by decide +kernel)
set_option maxRecDepth 20000 in
theorem gX3_fewestOpenings_X1_countHonestOpenings : GoodIn wsX3_fewestOpenings (wsV RX3 126 RX1 yX1_countHonestOpenings wsX1_countHonestOpenings) := goodIn_app (goodIn_of _ (by decide +kernel)) ggX3_fewestOpenings_X1_countHonestOpenings
theorem dX3_fewestOpenings_0 : decode cX3_fewestOpenings 0 = .ok (.iload_n 1, 1) := by decide +kernel
theorem dX3_fewestOpenings_1 : decode cX3_fewestOpenings 1 = .ok (.ifCond .ne 11, 3) := by decide +kernel
theorem dX3_fewestOpenings_4 : decode cX3_fewestOpenings 4 = .ok (.aload_n 0, 1) := by decide +kernel
theorem dX3_fewestOpenings_5 : decode cX3_fewestOpenings 5 = .ok (.getfield 10, 3) := by decide +kernel
theorem dX3_fewestOpenings_8 : decode cX3_fewestOpenings 8 = .ok (.invokevirtual 123, 3) := by decide +kernel
theorem dX3_fewestOpenings_11 : decode cX3_fewestOpenings 11 = .ok (.ireturn, 1) := by decide +kernel
theorem dX3_fewestOpenings_12 : decode cX3_fewestOpenings 12 = .ok (.iload_n 1, 1) := by decide +kernel
theorem dX3_fewestOpenings_13 : decode cX3_fewestOpenings 13 = .ok (.iconst 1, 1) := by decide +kernel
theorem dX3_fewestOpenings_14 : decode cX3_fewestOpenings 14 = .ok (.if_icmp .ne 11, 3) := by decide +kernel
theorem dX3_fewestOpenings_17 : decode cX3_fewestOpenings 17 = .ok (.aload_n 0, 1) := by decide +kernel
theorem dX3_fewestOpenings_18 : decode cX3_fewestOpenings 18 = .ok (.getfield 10, 3) := by decide +kernel
theorem dX3_fewestOpenings_21 : decode cX3_fewestOpenings 21 = .ok (.invokevirtual 126, 3) := by decide +kernel
theorem dX3_fewestOpenings_24 : decode cX3_fewestOpenings 24 = .ok (.ireturn, 1) := by decide +kernel
theorem dX3_fewestOpenings_25 : decode cX3_fewestOpenings 25 = .ok (.bipush (-2), 2) := by decide +kernel
theorem dX3_fewestOpenings_27 : decode cX3_fewestOpenings 27 = .ok (.ireturn, 1) := by decide +kernel
set_option maxRecDepth 20000 in
theorem ggX3_bestOpening_X1_mostClearing : GoodIn wsX3_bestOpening wsX1_mostClearing := goodIn_r _ [6, 7, 8, 9, 10, 11, 5, 12, 13, 14, 15, 16, 17, 18, 19, 20, 21, 22, 23, 24, 25, 26, 27, 28, 29, 30, 31, 32, 33, 34, 35, 36, 37, 38, 39, 40, 41, 42, 43, 44, 45, 46, 47, 54, 55, 56, 57, 58, 59, 60, 61, 62, 63, 64] (by decide +kernel) (by decide +kernel)
set_option maxRecDepth 20000 in
theorem gX3_bestOpening_X1_mostClearing : GoodIn wsX3_bestOpening (wsV RX3 129 RX1 yX1_mostClearing wsX1_mostClearing) := goodIn_app (goodIn_of _ (by decide +kernel)) ggX3_bestOpening_X1_mostClearing
theorem dX3_bestOpening_0 : decode cX3_bestOpening 0 = .ok (.aload_n 0, 1) := by decide +kernel
theorem dX3_bestOpening_1 : decode cX3_bestOpening 1 = .ok (.getfield 10, 3) := by decide +kernel
theorem dX3_bestOpening_4 : decode cX3_bestOpening 4 = .ok (.invokevirtual 129, 3) := by decide +kernel
theorem dX3_bestOpening_7 : decode cX3_bestOpening 7 = .ok (.ireturn, 1) := by decide +kernel
set_option maxRecDepth 20000 in
theorem ggX3_sameSeal_X1_otherClaimForSeal : GoodIn wsX3_sameSeal wsX1_otherClaimForSeal := goodIn_r _ [6, 7, 8, 9, 10, 5, 11, 12, 13, 14, 15, 16, 17, 18, 19, 20, 21, 22, 23, 30, 31, 32, 33, 34, 35, 36, 37, 38, 39, 40] (by decide +kernel) (by decide +kernel)
set_option maxRecDepth 20000 in
theorem gX3_sameSeal_X1_otherClaimForSeal : GoodIn wsX3_sameSeal (wsV RX3 132 RX1 yX1_otherClaimForSeal wsX1_otherClaimForSeal) := goodIn_app (goodIn_of _ (by decide +kernel)) ggX3_sameSeal_X1_otherClaimForSeal
theorem dX3_sameSeal_0 : decode cX3_sameSeal 0 = .ok (.aload_n 0, 1) := by decide +kernel
theorem dX3_sameSeal_1 : decode cX3_sameSeal 1 = .ok (.getfield 10, 3) := by decide +kernel
theorem dX3_sameSeal_4 : decode cX3_sameSeal 4 = .ok (.iload_n 1, 1) := by decide +kernel
theorem dX3_sameSeal_5 : decode cX3_sameSeal 5 = .ok (.invokevirtual 132, 3) := by decide +kernel
theorem dX3_sameSeal_8 : decode cX3_sameSeal 8 = .ok (.ireturn, 1) := by decide +kernel
set_option maxRecDepth 20000 in
theorem ggX3_recorded_X0_add : GoodIn wsX3_recorded wsX0_add := goodIn_r _ [7, 8, 9, 10, 11, 12, 6, 13, 14, 15, 16, 17, 18, 19, 20, 21, 22, 23, 24, 25, 26, 27, 28, 29, 30, 31, 32, 33, 40, 41, 42, 43, 44, 45, 46, 47, 48, 49, 50, 51, 52] (by decide +kernel) (by decide +kernel)
set_option maxRecDepth 20000 in
theorem gX3_recorded_X0_add : GoodIn wsX3_recorded (wsV RX3 135 RX0 yX0_add wsX0_add) := goodIn_app (goodIn_of _ (by decide +kernel)) ggX3_recorded_X0_add
theorem dX3_recorded_0 : decode cX3_recorded 0 = .ok (.iload_n 1, 1) := by decide +kernel
theorem dX3_recorded_1 : decode cX3_recorded 1 = .ok (.ifCond .lt 14, 3) := by decide +kernel
theorem dX3_recorded_4 : decode cX3_recorded 4 = .ok (.aload_n 0, 1) := by decide +kernel
theorem dX3_recorded_5 : decode cX3_recorded 5 = .ok (.getfield 29, 3) := by decide +kernel
theorem dX3_recorded_8 : decode cX3_recorded 8 = .ok (.aload_n 0, 1) := by decide +kernel
theorem dX3_recorded_9 : decode cX3_recorded 9 = .ok (.getfield 16, 3) := by decide +kernel
theorem dX3_recorded_12 : decode cX3_recorded 12 = .ok (.invokevirtual 135, 3) := by decide +kernel
theorem dX3_recorded_15 : decode cX3_recorded 15 = .ok (.iload_n 1, 1) := by decide +kernel
theorem dX3_recorded_16 : decode cX3_recorded 16 = .ok (.ireturn, 1) := by decide +kernel
