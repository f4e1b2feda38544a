theorem dX2_init_0 : decode cX2_init 0 = .ok (.aload_n 0, 1) := by decide +kernel
theorem dX2_init_1 : decode cX2_init 1 = .ok (.invokespecial 3, 3) := by decide +kernel
theorem dX2_init_4 : decode cX2_init 4 = .ok (.aload_n 0, 1) := by decide +kernel
theorem dX2_init_5 : decode cX2_init 5 = .ok (.bipush 60, 2) := by decide +kernel
theorem dX2_init_7 : decode cX2_init 7 = .ok (.newarray .char, 2) := by decide +kernel
theorem dX2_init_9 : decode cX2_init 9 = .ok (.putfield 11, 3) := by decide +kernel
theorem dX2_init_12 : decode cX2_init 12 = .ok (.aload_n 0, 1) := by decide +kernel
theorem dX2_init_13 : decode cX2_init 13 = .ok (.iconst 0, 1) := by decide +kernel
theorem dX2_init_14 : decode cX2_init 14 = .ok (.putfield 15, 3) := by decide +kernel
theorem dX2_init_17 : decode cX2_init 17 = .ok (.aload_n 0, 1) := by decide +kernel
theorem dX2_init_18 : decode cX2_init 18 = .ok (.iconst 0, 1) := by decide +kernel
theorem dX2_init_19 : decode cX2_init 19 = .ok (.putfield 19, 3) := by decide +kernel
theorem dX2_init_22 : decode cX2_init 22 = .ok (.aload_n 0, 1) := by decide +kernel
theorem dX2_init_23 : decode cX2_init 23 = .ok (.bipush 32, 2) := by decide +kernel
theorem dX2_init_25 : decode cX2_init 25 = .ok (.putfield 22, 3) := by decide +kernel
theorem dX2_init_28 : decode cX2_init 28 = .ok (.aload_n 0, 1) := by decide +kernel
theorem dX2_init_29 : decode cX2_init 29 = .ok (.iconst (-1), 1) := by decide +kernel
theorem dX2_init_30 : decode cX2_init 30 = .ok (.putfield 26, 3) := by decide +kernel
theorem dX2_init_33 : decode cX2_init 33 = .ok (.aload_n 0, 1) := by decide +kernel
theorem dX2_init_34 : decode cX2_init 34 = .ok (.iconst 0, 1) := by decide +kernel
theorem dX2_init_35 : decode cX2_init 35 = .ok (.putfield 29, 3) := by decide +kernel
theorem dX2_init_38 : decode cX2_init 38 = .ok (.aload_n 0, 1) := by decide +kernel
theorem dX2_init_39 : decode cX2_init 39 = .ok (.iconst 0, 1) := by decide +kernel
theorem dX2_init_40 : decode cX2_init 40 = .ok (.putfield 32, 3) := by decide +kernel
theorem dX2_init_43 : decode cX2_init 43 = .ok (.return_, 1) := by decide +kernel
theorem dX2_append_0 : decode cX2_append 0 = .ok (.aload_n 0, 1) := by decide +kernel
theorem dX2_append_1 : decode cX2_append 1 = .ok (.getfield 15, 3) := by decide +kernel
theorem dX2_append_4 : decode cX2_append 4 = .ok (.bipush 60, 2) := by decide +kernel
theorem dX2_append_6 : decode cX2_append 6 = .ok (.if_icmp .lt 6, 3) := by decide +kernel
theorem dX2_append_9 : decode cX2_append 9 = .ok (.bipush (-3), 2) := by decide +kernel
theorem dX2_append_11 : decode cX2_append 11 = .ok (.ireturn, 1) := by decide +kernel
theorem dX2_append_12 : decode cX2_append 12 = .ok (.aload_n 0, 1) := by decide +kernel
theorem dX2_append_13 : decode cX2_append 13 = .ok (.getfield 11, 3) := by decide +kernel
theorem dX2_append_16 : decode cX2_append 16 = .ok (.aload_n 0, 1) := by decide +kernel
theorem dX2_append_17 : decode cX2_append 17 = .ok (.getfield 15, 3) := by decide +kernel
theorem dX2_append_20 : decode cX2_append 20 = .ok (.iload_n 1, 1) := by decide +kernel
theorem dX2_append_21 : decode cX2_append 21 = .ok (.castore, 1) := by decide +kernel
theorem dX2_append_22 : decode cX2_append 22 = .ok (.aload_n 0, 1) := by decide +kernel
theorem dX2_append_23 : decode cX2_append 23 = .ok (.dup, 1) := by decide +kernel
theorem dX2_append_24 : decode cX2_append 24 = .ok (.getfield 15, 3) := by decide +kernel
theorem dX2_append_27 : decode cX2_append 27 = .ok (.iconst 1, 1) := by decide +kernel
theorem dX2_append_28 : decode cX2_append 28 = .ok (.iadd, 1) := by decide +kernel
theorem dX2_append_29 : decode cX2_append 29 = .ok (.putfield 15, 3) := by decide +kernel
theorem dX2_append_32 : decode cX2_append 32 = .ok (.aload_n 0, 1) := by decide +kernel
theorem dX2_append_33 : decode cX2_append 33 = .ok (.getfield 15, 3) := by decide +kernel
theorem dX2_append_36 : decode cX2_append 36 = .ok (.ireturn, 1) := by decide +kernel
theorem dX2_empty_0 : decode cX2_empty 0 = .ok (.aload_n 0, 1) := by decide +kernel
theorem dX2_empty_1 : decode cX2_empty 1 = .ok (.getfield 15, 3) := by decide +kernel
theorem dX2_empty_4 : decode cX2_empty 4 = .ok (.istore_n 1, 1) := by decide +kernel
theorem dX2_empty_5 : decode cX2_empty 5 = .ok (.aload_n 0, 1) := by decide +kernel
theorem dX2_empty_6 : decode cX2_empty 6 = .ok (.iconst 0, 1) := by decide +kernel
theorem dX2_empty_7 : decode cX2_empty 7 = .ok (.putfield 15, 3) := by decide +kernel
theorem dX2_empty_10 : decode cX2_empty 10 = .ok (.iload_n 1, 1) := by decide +kernel
theorem dX2_empty_11 : decode cX2_empty 11 = .ok (.ireturn, 1) := by decide +kernel
theorem dX2_length_0 : decode cX2_length 0 = .ok (.aload_n 0, 1) := by decide +kernel
theorem dX2_length_1 : decode cX2_length 1 = .ok (.getfield 15, 3) := by decide +kernel
theorem dX2_length_4 : decode cX2_length 4 = .ok (.ireturn, 1) := by decide +kernel
theorem dX2_reached_0 : decode cX2_reached 0 = .ok (.aload_n 0, 1) := by decide +kernel
theorem dX2_reached_1 : decode cX2_reached 1 = .ok (.getfield 19, 3) := by decide +kernel
theorem dX2_reached_4 : decode cX2_reached 4 = .ok (.ireturn, 1) := by decide +kernel
theorem dX2_kind_0 : decode cX2_kind 0 = .ok (.aload_n 0, 1) := by decide +kernel
theorem dX2_kind_1 : decode cX2_kind 1 = .ok (.getfield 22, 3) := by decide +kernel
theorem dX2_kind_4 : decode cX2_kind 4 = .ok (.ireturn, 1) := by decide +kernel
theorem dX2_cartNumber_0 : decode cX2_cartNumber 0 = .ok (.aload_n 0, 1) := by decide +kernel
theorem dX2_cartNumber_1 : decode cX2_cartNumber 1 = .ok (.getfield 26, 3) := by decide +kernel
theorem dX2_cartNumber_4 : decode cX2_cartNumber 4 = .ok (.ireturn, 1) := by decide +kernel
theorem dX2_claim_0 : decode cX2_claim 0 = .ok (.aload_n 0, 1) := by decide +kernel
theorem dX2_claim_1 : decode cX2_claim 1 = .ok (.getfield 29, 3) := by decide +kernel
theorem dX2_claim_4 : decode cX2_claim 4 = .ok (.ireturn, 1) := by decide +kernel
theorem dX2_load_0 : decode cX2_load 0 = .ok (.aload_n 0, 1) := by decide +kernel
theorem dX2_load_1 : decode cX2_load 1 = .ok (.getfield 32, 3) := by decide +kernel
theorem dX2_load_4 : decode cX2_load 4 = .ok (.ireturn, 1) := by decide +kernel
set_option maxRecDepth 20000 in
theorem ggX2_countOrders_X2_rewind : GoodIn wsX2_countOrders wsX2_rewind := goodIn_r _ [7, 1, 45, 46, 47, 48, 49, 50, 51] (by decide +kernel) (by decide +kernel)
set_option maxRecDepth 20000 in
theorem gX2_countOrders_X2_rewind : GoodIn wsX2_countOrders (wsV RX2 35 RX2 yX2_rewind wsX2_rewind) := goodIn_app (goodIn_of _ (by decide +kernel)) ggX2_countOrders_X2_rewind
set_option maxRecDepth 20000 in
theorem ggX2_countOrders_X2_readOrder : GoodIn wsX2_countOrders wsX2_readOrder := goodIn_r _ [11, 12, 13, 14, 15, 6, 16, 17, 18, 19, 20, 21, 1, 2, 22, 23, 24, 25, 26, 27, 28, 29, 30, 31, 32, 33, 34, 35, 36, 37, 38, 39, 40, 41, 42, 43, 44, 45, 46, 47, 48, 49, 50, 51] (by decide +kernel) (by decide +kernel)
set_option maxRecDepth 20000 in
theorem gX2_countOrders_X2_readOrder : GoodIn wsX2_countOrders (wsV RX2 38 RX2 yX2_readOrder wsX2_readOrder) := goodIn_app (goodIn_of _ (by decide +kernel)) ggX2_countOrders_X2_readOrder
set_option maxRecDepth 20000 in
theorem ggX2_countOrders_X2_takes : GoodIn wsX2_countOrders wsX2_takes := goodIn_r _ [21, 1, 2, 22, 45, 46, 47, 48, 49, 50, 51] (by decide +kernel) (by decide +kernel)
set_option maxRecDepth 20000 in
theorem gX2_countOrders_X2_takes : GoodIn wsX2_countOrders (wsV RX2 42 RX2 yX2_takes wsX2_takes) := goodIn_app (goodIn_of _ (by decide +kernel)) ggX2_countOrders_X2_takes
theorem dX2_countOrders_0 : decode cX2_countOrders 0 = .ok (.aload_n 0, 1) := by decide +kernel
theorem dX2_countOrders_1 : decode cX2_countOrders 1 = .ok (.invokevirtual 35, 3) := by decide +kernel
theorem dX2_countOrders_4 : decode cX2_countOrders 4 = .ok (.iconst 1, 1) := by decide +kernel
theorem dX2_countOrders_5 : decode cX2_countOrders 5 = .ok (.istore_n 1, 1) := by decide +kernel
theorem dX2_countOrders_6 : decode cX2_countOrders 6 = .ok (.iload_n 1, 1) := by decide +kernel
theorem dX2_countOrders_7 : decode cX2_countOrders 7 = .ok (.bipush 60, 2) := by decide +kernel
theorem dX2_countOrders_9 : decode cX2_countOrders 9 = .ok (.if_icmp .gt 42, 3) := by decide +kernel
theorem dX2_countOrders_12 : decode cX2_countOrders 12 = .ok (.aload_n 0, 1) := by decide +kernel
theorem dX2_countOrders_13 : decode cX2_countOrders 13 = .ok (.invokevirtual 38, 3) := by decide +kernel
theorem dX2_countOrders_16 : decode cX2_countOrders 16 = .ok (.ifCond .ne 5, 3) := by decide +kernel
theorem dX2_countOrders_19 : decode cX2_countOrders 19 = .ok (.iconst (-1), 1) := by decide +kernel
theorem dX2_countOrders_20 : decode cX2_countOrders 20 = .ok (.ireturn, 1) := by decide +kernel
theorem dX2_countOrders_21 : decode cX2_countOrders 21 = .ok (.aload_n 0, 1) := by decide +kernel
theorem dX2_countOrders_22 : decode cX2_countOrders 22 = .ok (.getfield 19, 3) := by decide +kernel
theorem dX2_countOrders_25 : decode cX2_countOrders 25 = .ok (.aload_n 0, 1) := by decide +kernel
theorem dX2_countOrders_26 : decode cX2_countOrders 26 = .ok (.getfield 15, 3) := by decide +kernel
theorem dX2_countOrders_29 : decode cX2_countOrders 29 = .ok (.if_icmp .ne 5, 3) := by decide +kernel
theorem dX2_countOrders_32 : decode cX2_countOrders 32 = .ok (.iload_n 1, 1) := by decide +kernel
theorem dX2_countOrders_33 : decode cX2_countOrders 33 = .ok (.ireturn, 1) := by decide +kernel
theorem dX2_countOrders_34 : decode cX2_countOrders 34 = .ok (.aload_n 0, 1) := by decide +kernel
theorem dX2_countOrders_35 : decode cX2_countOrders 35 = .ok (.bipush 59, 2) := by decide +kernel
theorem dX2_countOrders_37 : decode cX2_countOrders 37 = .ok (.invokevirtual 42, 3) := by decide +kernel
theorem dX2_countOrders_40 : decode cX2_countOrders 40 = .ok (.ifCond .ne 5, 3) := by decide +kernel
theorem dX2_countOrders_43 : decode cX2_countOrders 43 = .ok (.iconst (-1), 1) := by decide +kernel
theorem dX2_countOrders_44 : decode cX2_countOrders 44 = .ok (.ireturn, 1) := by decide +kernel
theorem dX2_countOrders_45 : decode cX2_countOrders 45 = .ok (.iinc 1 1, 3) := by decide +kernel
theorem dX2_countOrders_48 : decode cX2_countOrders 48 = .ok (.goto (-42), 3) := by decide +kernel
theorem dX2_countOrders_51 : decode cX2_countOrders 51 = .ok (.iconst (-1), 1) := by decide +kernel
theorem dX2_countOrders_52 : decode cX2_countOrders 52 = .ok (.ireturn, 1) := by decide +kernel
theorem dX2_rewind_0 : decode cX2_rewind 0 = .ok (.aload_n 0, 1) := by decide +kernel
theorem dX2_rewind_1 : decode cX2_rewind 1 = .ok (.iconst 0, 1) := by decide +kernel
theorem dX2_rewind_2 : decode cX2_rewind 2 = .ok (.putfield 19, 3) := by decide +kernel
theorem dX2_rewind_5 : decode cX2_rewind 5 = .ok (.return_, 1) := by decide +kernel
set_option maxRecDepth 20000 in
theorem ggX2_nextOrder_X2_takes : GoodIn wsX2_nextOrder wsX2_takes := goodIn_r _ [5, 6, 7, 8, 41, 42, 43, 44, 45, 46, 47] (by decide +kernel) (by decide +kernel)
set_option maxRecDepth 20000 in
theorem gX2_nextOrder_X2_takes : GoodIn wsX2_nextOrder (wsV RX2 42 RX2 yX2_takes wsX2_takes) := goodIn_app (goodIn_of _ (by decide +kernel)) ggX2_nextOrder_X2_takes
set_option maxRecDepth 20000 in
theorem ggX2_nextOrder_X2_readOrder : GoodIn wsX2_nextOrder wsX2_readOrder := goodIn_r _ [12, 13, 14, 15, 16, 4, 17, 18, 1, 2, 3, 5, 6, 7, 8, 19, 20, 21, 22, 23, 24, 25, 26, 27, 28, 29, 30, 31, 32, 33, 34, 35, 36, 37, 38, 39, 40, 41, 42, 43, 44, 45, 46, 47] (by decide +kernel) (by decide +kernel)
set_option maxRecDepth 20000 in
theorem gX2_nextOrder_X2_readOrder : GoodIn wsX2_nextOrder (wsV RX2 38 RX2 yX2_readOrder wsX2_readOrder) := goodIn_app (goodIn_of _ (by decide +kernel)) ggX2_nextOrder_X2_readOrder
theorem dX2_nextOrder_0 : decode cX2_nextOrder 0 = .ok (.aload_n 0, 1) := by decide +kernel
theorem dX2_nextOrder_1 : decode cX2_nextOrder 1 = .ok (.bipush 59, 2) := by decide +kernel
theorem dX2_nextOrder_3 : decode cX2_nextOrder 3 = .ok (.invokevirtual 42, 3) := by decide +kernel
theorem dX2_nextOrder_6 : decode cX2_nextOrder 6 = .ok (.pop, 1) := by decide +kernel
theorem dX2_nextOrder_7 : decode cX2_nextOrder 7 = .ok (.aload_n 0, 1) := by decide +kernel
theorem dX2_nextOrder_8 : decode cX2_nextOrder 8 = .ok (.invokevirtual 38, 3) := by decide +kernel
theorem dX2_nextOrder_11 : decode cX2_nextOrder 11 = .ok (.pop, 1) := by decide +kernel
theorem dX2_nextOrder_12 : decode cX2_nextOrder 12 = .ok (.return_, 1) := by decide +kernel
set_option maxRecDepth 20000 in
theorem ggX2_readOrder_X2_takesKind : GoodIn wsX2_readOrder wsX2_takesKind := goodIn_r _ [6, 7, 8, 9, 10, 5, 11, 12, 13, 14, 37, 38, 39, 40, 41, 42, 43] (by decide +kernel) (by decide +kernel)
set_option maxRecDepth 20000 in
theorem gX2_readOrder_X2_takesKind : GoodIn wsX2_readOrder (wsV RX2 46 RX2 yX2_takesKind wsX2_takesKind) := goodIn_app (goodIn_of _ (by decide +kernel)) ggX2_readOrder_X2_takesKind
set_option maxRecDepth 20000 in
theorem ggX2_readOrder_X2_readClaim : GoodIn wsX2_readOrder wsX2_readClaim := goodIn_r _ [18, 19, 20, 21, 22, 5, 23, 12, 24, 25, 26, 27, 13, 14, 37, 38, 39, 40, 41, 42, 43] (by decide +kernel) (by decide +kernel)
set_option maxRecDepth 20000 in
theorem gX2_readOrder_X2_readClaim : GoodIn wsX2_readOrder (wsV RX2 49 RX2 yX2_readClaim wsX2_readClaim) := goodIn_app (goodIn_of _ (by decide +kernel)) ggX2_readOrder_X2_readClaim
set_option maxRecDepth 20000 in
theorem ggX2_readOrder_X2_takes : GoodIn wsX2_readOrder wsX2_takes := goodIn_r _ [11, 12, 13, 14, 37, 38, 39, 40, 41, 42, 43] (by decide +kernel) (by decide +kernel)
set_option maxRecDepth 20000 in
theorem gX2_readOrder_X2_takes : GoodIn wsX2_readOrder (wsV RX2 42 RX2 yX2_takes wsX2_takes) := goodIn_app (goodIn_of _ (by decide +kernel)) ggX2_readOrder_X2_takes
set_option maxRecDepth 20000 in
theorem ggX2_readOrder_X2_readLoad : GoodIn wsX2_readOrder wsX2_readLoad := goodIn_r _ [31, 32, 20, 21, 22, 5, 23, 12, 24, 25, 26, 27, 13, 14, 37, 38, 39, 40, 41, 42, 43] (by decide +kernel) (by decide +kernel)
set_option maxRecDepth 20000 in
theorem gX2_readOrder_X2_readLoad : GoodIn wsX2_readOrder (wsV RX2 52 RX2 yX2_readLoad wsX2_readLoad) := goodIn_app (goodIn_of _ (by decide +kernel)) ggX2_readOrder_X2_readLoad
set_option maxRecDepth 20000 in
theorem ggX2_readOrder_X2_readCart : GoodIn wsX2_readOrder wsX2_readCart := goodIn_r _ [36, 1, 20, 21, 22, 5, 23, 12, 24, 25, 26, 27, 13, 14, 37, 38, 39, 40, 41, 42, 43] (by decide +kernel) (by decide +kernel)
set_option maxRecDepth 20000 in
theorem gX2_readOrder_X2_readCart : GoodIn wsX2_readOrder (wsV RX2 55 RX2 yX2_readCart wsX2_readCart) := goodIn_app (goodIn_of _ (by decide +kernel)) ggX2_readOrder_X2_readCart
theorem dX2_readOrder_0 : decode cX2_readOrder 0 = .ok (.aload_n 0, 1) := by decide +kernel
theorem dX2_readOrder_1 : decode cX2_readOrder 1 = .ok (.iconst (-1), 1) := by decide +kernel
theorem dX2_readOrder_2 : decode cX2_readOrder 2 = .ok (.putfield 26, 3) := by decide +kernel
theorem dX2_readOrder_5 : decode cX2_readOrder 5 = .ok (.aload_n 0, 1) := by decide +kernel
theorem dX2_readOrder_6 : decode cX2_readOrder 6 = .ok (.bipush 99, 2) := by decide +kernel
theorem dX2_readOrder_8 : decode cX2_readOrder 8 = .ok (.invokevirtual 46, 3) := by decide +kernel
theorem dX2_readOrder_11 : decode cX2_readOrder 11 = .ok (.ifCond .eq 48, 3) := by decide +kernel
theorem dX2_readOrder_14 : decode cX2_readOrder 14 = .ok (.aload_n 0, 1) := by decide +kernel
theorem dX2_readOrder_15 : decode cX2_readOrder 15 = .ok (.invokevirtual 49, 3) := by decide +kernel
theorem dX2_readOrder_18 : decode cX2_readOrder 18 = .ok (.ifCond .eq 39, 3) := by decide +kernel
theorem dX2_readOrder_21 : decode cX2_readOrder 21 = .ok (.aload_n 0, 1) := by decide +kernel
theorem dX2_readOrder_22 : decode cX2_readOrder 22 = .ok (.bipush 47, 2) := by decide +kernel
theorem dX2_readOrder_24 : decode cX2_readOrder 24 = .ok (.invokevirtual 42, 3) := by decide +kernel
theorem dX2_readOrder_27 : decode cX2_readOrder 27 = .ok (.ifCond .eq 30, 3) := by decide +kernel
theorem dX2_readOrder_30 : decode cX2_readOrder 30 = .ok (.aload_n 0, 1) := by decide +kernel
theorem dX2_readOrder_31 : decode cX2_readOrder 31 = .ok (.invokevirtual 52, 3) := by decide +kernel
theorem dX2_readOrder_34 : decode cX2_readOrder 34 = .ok (.ifCond .eq 23, 3) := by decide +kernel
theorem dX2_readOrder_37 : decode cX2_readOrder 37 = .ok (.aload_n 0, 1) := by decide +kernel
theorem dX2_readOrder_38 : decode cX2_readOrder 38 = .ok (.bipush 62, 2) := by decide +kernel
theorem dX2_readOrder_40 : decode cX2_readOrder 40 = .ok (.invokevirtual 42, 3) := by decide +kernel
theorem dX2_readOrder_43 : decode cX2_readOrder 43 = .ok (.ifCond .eq 10, 3) := by decide +kernel
theorem dX2_readOrder_46 : decode cX2_readOrder 46 = .ok (.aload_n 0, 1) := by decide +kernel
theorem dX2_readOrder_47 : decode cX2_readOrder 47 = .ok (.invokevirtual 55, 3) := by decide +kernel
theorem dX2_readOrder_50 : decode cX2_readOrder 50 = .ok (.ifCond .eq 7, 3) := by decide +kernel
theorem dX2_readOrder_53 : decode cX2_readOrder 53 = .ok (.iconst 1, 1) := by decide +kernel
theorem dX2_readOrder_54 : decode cX2_readOrder 54 = .ok (.goto 4, 3) := by decide +kernel
theorem dX2_readOrder_57 : decode cX2_readOrder 57 = .ok (.iconst 0, 1) := by decide +kernel
theorem dX2_readOrder_58 : decode cX2_readOrder 58 = .ok (.ireturn, 1) := by decide +kernel
theorem dX2_readOrder_59 : decode cX2_readOrder 59 = .ok (.aload_n 0, 1) := by decide +kernel
theorem dX2_readOrder_60 : decode cX2_readOrder 60 = .ok (.bipush 111, 2) := by decide +kernel
theorem dX2_readOrder_62 : decode cX2_readOrder 62 = .ok (.invokevirtual 46, 3) := by decide +kernel
theorem dX2_readOrder_65 : decode cX2_readOrder 65 = .ok (.ifCond .ne 12, 3) := by decide +kernel
theorem dX2_readOrder_68 : decode cX2_readOrder 68 = .ok (.aload_n 0, 1) := by decide +kernel
theorem dX2_readOrder_69 : decode cX2_readOrder 69 = .ok (.bipush 115, 2) := by decide +kernel
theorem dX2_readOrder_71 : decode cX2_readOrder 71 = .ok (.invokevirtual 46, 3) := by decide +kernel
theorem dX2_readOrder_74 : decode cX2_readOrder 74 = .ok (.ifCond .eq 8, 3) := by decide +kernel
theorem dX2_readOrder_77 : decode cX2_readOrder 77 = .ok (.aload_n 0, 1) := by decide +kernel
theorem dX2_readOrder_78 : decode cX2_readOrder 78 = .ok (.invokevirtual 55, 3) := by decide +kernel
theorem dX2_readOrder_81 : decode cX2_readOrder 81 = .ok (.ireturn, 1) := by decide +kernel
theorem dX2_readOrder_82 : decode cX2_readOrder 82 = .ok (.aload_n 0, 1) := by decide +kernel
theorem dX2_readOrder_83 : decode cX2_readOrder 83 = .ok (.bipush 120, 2) := by decide +kernel
theorem dX2_readOrder_85 : decode cX2_readOrder 85 = .ok (.invokevirtual 46, 3) := by decide +kernel
theorem dX2_readOrder_88 : decode cX2_readOrder 88 = .ok (.ifCond .eq 30, 3) := by decide +kernel
theorem dX2_readOrder_91 : decode cX2_readOrder 91 = .ok (.aload_n 0, 1) := by decide +kernel
theorem dX2_readOrder_92 : decode cX2_readOrder 92 = .ok (.invokevirtual 55, 3) := by decide +kernel
theorem dX2_readOrder_95 : decode cX2_readOrder 95 = .ok (.ifCond .eq 23, 3) := by decide +kernel
theorem dX2_readOrder_98 : decode cX2_readOrder 98 = .ok (.aload_n 0, 1) := by decide +kernel
theorem dX2_readOrder_99 : decode cX2_readOrder 99 = .ok (.bipush 61, 2) := by decide +kernel
theorem dX2_readOrder_101 : decode cX2_readOrder 101 = .ok (.invokevirtual 42, 3) := by decide +kernel
theorem dX2_readOrder_104 : decode cX2_readOrder 104 = .ok (.ifCond .eq 14, 3) := by decide +kernel
theorem dX2_readOrder_107 : decode cX2_readOrder 107 = .ok (.aload_n 0, 1) := by decide +kernel
theorem dX2_readOrder_108 : decode cX2_readOrder 108 = .ok (.invokevirtual 49, 3) := by decide +kernel
theorem dX2_readOrder_111 : decode cX2_readOrder 111 = .ok (.ifCond .eq 7, 3) := by decide +kernel
theorem dX2_readOrder_114 : decode cX2_readOrder 114 = .ok (.iconst 1, 1) := by decide +kernel
theorem dX2_readOrder_115 : decode cX2_readOrder 115 = .ok (.goto 4, 3) := by decide +kernel
theorem dX2_readOrder_118 : decode cX2_readOrder 118 = .ok (.iconst 0, 1) := by decide +kernel
theorem dX2_readOrder_119 : decode cX2_readOrder 119 = .ok (.ireturn, 1) := by decide +kernel
set_option maxRecDepth 20000 in
theorem ggX2_takesKind_X2_takes : GoodIn wsX2_takesKind wsX2_takes := goodIn_r _ [6, 7, 8, 9, 10, 11, 12, 13, 14, 15, 16] (by decide +kernel) (by decide +kernel)
set_option maxRecDepth 20000 in
theorem gX2_takesKind_X2_takes : GoodIn wsX2_takesKind (wsV RX2 42 RX2 yX2_takes wsX2_takes) := goodIn_app (goodIn_of _ (by decide +kernel)) ggX2_takesKind_X2_takes
theorem dX2_takesKind_0 : decode cX2_takesKind 0 = .ok (.aload_n 0, 1) := by decide +kernel
theorem dX2_takesKind_1 : decode cX2_takesKind 1 = .ok (.iload_n 1, 1) := by decide +kernel
theorem dX2_takesKind_2 : decode cX2_takesKind 2 = .ok (.invokevirtual 42, 3) := by decide +kernel
theorem dX2_takesKind_5 : decode cX2_takesKind 5 = .ok (.ifCond .ne 5, 3) := by decide +kernel
theorem dX2_takesKind_8 : decode cX2_takesKind 8 = .ok (.iconst 0, 1) := by decide +kernel
theorem dX2_takesKind_9 : decode cX2_takesKind 9 = .ok (.ireturn, 1) := by decide +kernel
theorem dX2_takesKind_10 : decode cX2_takesKind 10 = .ok (.aload_n 0, 1) := by decide +kernel
theorem dX2_takesKind_11 : decode cX2_takesKind 11 = .ok (.iload_n 1, 1) := by decide +kernel
theorem dX2_takesKind_12 : decode cX2_takesKind 12 = .ok (.putfield 22, 3) := by decide +kernel
theorem dX2_takesKind_15 : decode cX2_takesKind 15 = .ok (.iconst 1, 1) := by decide +kernel
theorem dX2_takesKind_16 : decode cX2_takesKind 16 = .ok (.ireturn, 1) := by decide +kernel
set_option maxRecDepth 20000 in
theorem ggX2_readClaim_X2_takeNumber : GoodIn wsX2_readClaim wsX2_takeNumber := goodIn_r _ [6, 7, 8, 9, 10, 5, 11, 12, 13, 14, 15, 16, 17, 18, 19, 20] (by decide +kernel) (by decide +kernel)
set_option maxRecDepth 20000 in
theorem gX2_readClaim_X2_takeNumber : GoodIn wsX2_readClaim (wsV RX2 58 RX2 yX2_takeNumber wsX2_takeNumber) := goodIn_app (goodIn_of _ (by decide +kernel)) ggX2_readClaim_X2_takeNumber
theorem dX2_readClaim_0 : decode cX2_readClaim 0 = .ok (.aload_n 0, 1) := by decide +kernel
theorem dX2_readClaim_1 : decode cX2_readClaim 1 = .ok (.aload_n 0, 1) := by decide +kernel
theorem dX2_readClaim_2 : decode cX2_readClaim 2 = .ok (.bipush 99, 2) := by decide +kernel
theorem dX2_readClaim_4 : decode cX2_readClaim 4 = .ok (.invokevirtual 58, 3) := by decide +kernel
theorem dX2_readClaim_7 : decode cX2_readClaim 7 = .ok (.putfield 29, 3) := by decide +kernel
theorem dX2_readClaim_10 : decode cX2_readClaim 10 = .ok (.aload_n 0, 1) := by decide +kernel
theorem dX2_readClaim_11 : decode cX2_readClaim 11 = .ok (.getfield 29, 3) := by decide +kernel
theorem dX2_readClaim_14 : decode cX2_readClaim 14 = .ok (.iconst (-1), 1) := by decide +kernel
theorem dX2_readClaim_15 : decode cX2_readClaim 15 = .ok (.if_icmp .eq 7, 3) := by decide +kernel
theorem dX2_readClaim_18 : decode cX2_readClaim 18 = .ok (.iconst 1, 1) := by decide +kernel
theorem dX2_readClaim_19 : decode cX2_readClaim 19 = .ok (.goto 4, 3) := by decide +kernel
theorem dX2_readClaim_22 : decode cX2_readClaim 22 = .ok (.iconst 0, 1) := by decide +kernel
theorem dX2_readClaim_23 : decode cX2_readClaim 23 = .ok (.ireturn, 1) := by decide +kernel
set_option maxRecDepth 20000 in
theorem ggX2_readLoad_X2_takeNumber : GoodIn wsX2_readLoad wsX2_takeNumber := goodIn_r _ [6, 7, 8, 9, 10, 5, 11, 12, 13, 14, 15, 16, 17, 18, 19, 20] (by decide +kernel) (by decide +kernel)
set_option maxRecDepth 20000 in
theorem gX2_readLoad_X2_takeNumber : GoodIn wsX2_readLoad (wsV RX2 58 RX2 yX2_takeNumber wsX2_takeNumber) := goodIn_app (goodIn_of _ (by decide +kernel)) ggX2_readLoad_X2_takeNumber
theorem dX2_readLoad_0 : decode cX2_readLoad 0 = .ok (.aload_n 0, 1) := by decide +kernel
theorem dX2_readLoad_1 : decode cX2_readLoad 1 = .ok (.aload_n 0, 1) := by decide +kernel
theorem dX2_readLoad_2 : decode cX2_readLoad 2 = .ok (.bipush 99, 2) := by decide +kernel
theorem dX2_readLoad_4 : decode cX2_readLoad 4 = .ok (.invokevirtual 58, 3) := by decide +kernel
theorem dX2_readLoad_7 : decode cX2_readLoad 7 = .ok (.putfield 32, 3) := by decide +kernel
theorem dX2_readLoad_10 : decode cX2_readLoad 10 = .ok (.aload_n 0, 1) := by decide +kernel
theorem dX2_readLoad_11 : decode cX2_readLoad 11 = .ok (.getfield 32, 3) := by decide +kernel
theorem dX2_readLoad_14 : decode cX2_readLoad 14 = .ok (.iconst (-1), 1) := by decide +kernel
theorem dX2_readLoad_15 : decode cX2_readLoad 15 = .ok (.if_icmp .eq 7, 3) := by decide +kernel
theorem dX2_readLoad_18 : decode cX2_readLoad 18 = .ok (.iconst 1, 1) := by decide +kernel
theorem dX2_readLoad_19 : decode cX2_readLoad 19 = .ok (.goto 4, 3) := by decide +kernel
theorem dX2_readLoad_22 : decode cX2_readLoad 22 = .ok (.iconst 0, 1) := by decide +kernel
theorem dX2_readLoad_23 : decode cX2_readLoad 23 = .ok (.ireturn, 1) := by decide +kernel
set_option maxRecDepth 20000 in
theorem ggX2_readCart_X2_takeNumber : GoodIn wsX2_readCart wsX2_takeNumber := goodIn_r _ [6, 7, 8, 9, 10, 5, 11, 12, 13, 14, 15, 16, 17, 18, 19, 20] (by decide +kernel) (by decide +kernel)
set_option maxRecDepth 20000 in
theorem gX2_readCart_X2_takeNumber : GoodIn wsX2_readCart (wsV RX2 58 RX2 yX2_takeNumber wsX2_takeNumber) := goodIn_app (goodIn_of _ (by decide +kernel)) ggX2_readCart_X2_takeNumber
theorem dX2_readCart_0 : decode cX2_readCart 0 = .ok (.aload_n 0, 1) := by decide +kernel
theorem dX2_readCart_1 : decode cX2_readCart 1 = .ok (.aload_n 0, 1) := by decide +kernel
theorem dX2_readCart_2 : decode cX2_readCart 2 = .ok (.bipush 23, 2) := by decide +kernel
theorem dX2_readCart_4 : decode cX2_readCart 4 = .ok (.invokevirtual 58, 3) := by decide +kernel
theorem dX2_readCart_7 : decode cX2_readCart 7 = .ok (.putfield 26, 3) := by decide +kernel
theorem dX2_readCart_10 : decode cX2_readCart 10 = .ok (.aload_n 0, 1) := by decide +kernel
theorem dX2_readCart_11 : decode cX2_readCart 11 = .ok (.getfield 26, 3) := by decide +kernel
theorem dX2_readCart_14 : decode cX2_readCart 14 = .ok (.iconst (-1), 1) := by decide +kernel
theorem dX2_readCart_15 : decode cX2_readCart 15 = .ok (.if_icmp .eq 7, 3) := by decide +kernel
theorem dX2_readCart_18 : decode cX2_readCart 18 = .ok (.iconst 1, 1) := by decide +kernel
theorem dX2_readCart_19 : decode cX2_readCart 19 = .ok (.goto 4, 3) := by decide +kernel
theorem dX2_readCart_22 : decode cX2_readCart 22 = .ok (.iconst 0, 1) := by decide +kernel
theorem dX2_readCart_23 : decode cX2_readCart 23 = .ok (.ireturn, 1) := by decide +kernel
theorem dX2_takes_0 : decode cX2_takes 0 = .ok (.aload_n 0, 1) := by decide +kernel
theorem dX2_takes_1 : decode cX2_takes 1 = .ok (.getfield 19, 3) := by decide +kernel
theorem dX2_takes_4 : decode cX2_takes 4 = .ok (.aload_n 0, 1) := by decide +kernel
theorem dX2_takes_5 : decode cX2_takes 5 = .ok (.getfield 15, 3) := by decide +kernel
theorem dX2_takes_8 : decode cX2_takes 8 = .ok (.if_icmp .ge 16, 3) := by decide +kernel
theorem dX2_takes_11 : decode cX2_takes 11 = .ok (.aload_n 0, 1) := by decide +kernel
theorem dX2_takes_12 : decode cX2_takes 12 = .ok (.getfield 11, 3) := by decide +kernel
theorem dX2_takes_15 : decode cX2_takes 15 = .ok (.aload_n 0, 1) := by decide +kernel
theorem dX2_takes_16 : decode cX2_takes 16 = .ok (.getfield 19, 3) := by decide +kernel
theorem dX2_takes_19 : decode cX2_takes 19 = .ok (.caload, 1) := by decide +kernel
theorem dX2_takes_20 : decode cX2_takes 20 = .ok (.iload_n 1, 1) := by decide +kernel
theorem dX2_takes_21 : decode cX2_takes 21 = .ok (.if_icmp .eq 5, 3) := by decide +kernel
theorem dX2_takes_24 : decode cX2_takes 24 = .ok (.iconst 0, 1) := by decide +kernel
theorem dX2_takes_25 : decode cX2_takes 25 = .ok (.ireturn, 1) := by decide +kernel
theorem dX2_takes_26 : decode cX2_takes 26 = .ok (.aload_n 0, 1) := by decide +kernel
theorem dX2_takes_27 : decode cX2_takes 27 = .ok (.dup, 1) := by decide +kernel
theorem dX2_takes_28 : decode cX2_takes 28 = .ok (.getfield 19, 3) := by decide +kernel
theorem dX2_takes_31 : decode cX2_takes 31 = .ok (.iconst 1, 1) := by decide +kernel
theorem dX2_takes_32 : decode cX2_takes 32 = .ok (.iadd, 1) := by decide +kernel
theorem dX2_takes_33 : decode cX2_takes 33 = .ok (.putfield 19, 3) := by decide +kernel
theorem dX2_takes_36 : decode cX2_takes 36 = .ok (.iconst 1, 1) := by decide +kernel
theorem dX2_takes_37 : decode cX2_takes 37 = .ok (.ireturn, 1) := by decide +kernel
set_option maxRecDepth 20000 in
theorem ggX2_takeNumber_X2_digitHere : GoodIn wsX2_takeNumber wsX2_digitHere := goodIn_r _ [6, 1, 7, 8, 9, 10, 11, 12, 13, 14, 15] (by decide +kernel) (by decide +kernel)
set_option maxRecDepth 20000 in
theorem gX2_takeNumber_X2_digitHere : GoodIn wsX2_takeNumber (wsV RX2 62 RX2 yX2_digitHere wsX2_digitHere) := goodIn_app (goodIn_of _ (by decide +kernel)) ggX2_takeNumber_X2_digitHere
theorem dX2_takeNumber_0 : decode cX2_takeNumber 0 = .ok (.aload_n 0, 1) := by decide +kernel
theorem dX2_takeNumber_1 : decode cX2_takeNumber 1 = .ok (.invokevirtual 62, 3) := by decide +kernel
theorem dX2_takeNumber_4 : decode cX2_takeNumber 4 = .ok (.istore_n 2, 1) := by decide +kernel
theorem dX2_takeNumber_5 : decode cX2_takeNumber 5 = .ok (.iload_n 2, 1) := by decide +kernel
theorem dX2_takeNumber_6 : decode cX2_takeNumber 6 = .ok (.iconst (-1), 1) := by decide +kernel
theorem dX2_takeNumber_7 : decode cX2_takeNumber 7 = .ok (.if_icmp .ne 5, 3) := by decide +kernel
theorem dX2_takeNumber_10 : decode cX2_takeNumber 10 = .ok (.iconst (-1), 1) := by decide +kernel
theorem dX2_takeNumber_11 : decode cX2_takeNumber 11 = .ok (.ireturn, 1) := by decide +kernel
theorem dX2_takeNumber_12 : decode cX2_takeNumber 12 = .ok (.aload_n 0, 1) := by decide +kernel
theorem dX2_takeNumber_13 : decode cX2_takeNumber 13 = .ok (.dup, 1) := by decide +kernel
theorem dX2_takeNumber_14 : decode cX2_takeNumber 14 = .ok (.getfield 19, 3) := by decide +kernel
theorem dX2_takeNumber_17 : decode cX2_takeNumber 17 = .ok (.iconst 1, 1) := by decide +kernel
theorem dX2_takeNumber_18 : decode cX2_takeNumber 18 = .ok (.iadd, 1) := by decide +kernel
theorem dX2_takeNumber_19 : decode cX2_takeNumber 19 = .ok (.putfield 19, 3) := by decide +kernel
theorem dX2_takeNumber_22 : decode cX2_takeNumber 22 = .ok (.aload_n 0, 1) := by decide +kernel
theorem dX2_takeNumber_23 : decode cX2_takeNumber 23 = .ok (.invokevirtual 62, 3) := by decide +kernel
theorem dX2_takeNumber_26 : decode cX2_takeNumber 26 = .ok (.istore_n 3, 1) := by decide +kernel
theorem dX2_takeNumber_27 : decode cX2_takeNumber 27 = .ok (.iload_n 2, 1) := by decide +kernel
theorem dX2_takeNumber_28 : decode cX2_takeNumber 28 = .ok (.ifCond .eq 18, 3) := by decide +kernel
theorem dX2_takeNumber_31 : decode cX2_takeNumber 31 = .ok (.iload_n 3, 1) := by decide +kernel
theorem dX2_takeNumber_32 : decode cX2_takeNumber 32 = .ok (.iconst (-1), 1) := by decide +kernel
theorem dX2_takeNumber_33 : decode cX2_takeNumber 33 = .ok (.if_icmp .eq 13, 3) := by decide +kernel
theorem dX2_takeNumber_36 : decode cX2_takeNumber 36 = .ok (.iload_n 2, 1) := by decide +kernel
theorem dX2_takeNumber_37 : decode cX2_takeNumber 37 = .ok (.bipush 10, 2) := by decide +kernel
theorem dX2_takeNumber_39 : decode cX2_takeNumber 39 = .ok (.imul, 1) := by decide +kernel
theorem dX2_takeNumber_40 : decode cX2_takeNumber 40 = .ok (.iload_n 3, 1) := by decide +kernel
theorem dX2_takeNumber_41 : decode cX2_takeNumber 41 = .ok (.iadd, 1) := by decide +kernel
theorem dX2_takeNumber_42 : decode cX2_takeNumber 42 = .ok (.iload_n 1, 1) := by decide +kernel
theorem dX2_takeNumber_43 : decode cX2_takeNumber 43 = .ok (.if_icmp .le 5, 3) := by decide +kernel
theorem dX2_takeNumber_46 : decode cX2_takeNumber 46 = .ok (.iload_n 2, 1) := by decide +kernel
theorem dX2_takeNumber_47 : decode cX2_takeNumber 47 = .ok (.ireturn, 1) := by decide +kernel
theorem dX2_takeNumber_48 : decode cX2_takeNumber 48 = .ok (.aload_n 0, 1) := by decide +kernel
theorem dX2_takeNumber_49 : decode cX2_takeNumber 49 = .ok (.dup, 1) := by decide +kernel
theorem dX2_takeNumber_50 : decode cX2_takeNumber 50 = .ok (.getfield 19, 3) := by decide +kernel
theorem dX2_takeNumber_53 : decode cX2_takeNumber 53 = .ok (.iconst 1, 1) := by decide +kernel
theorem dX2_takeNumber_54 : decode cX2_takeNumber 54 = .ok (.iadd, 1) := by decide +kernel
theorem dX2_takeNumber_55 : decode cX2_takeNumber 55 = .ok (.putfield 19, 3) := by decide +kernel
theorem dX2_takeNumber_58 : decode cX2_takeNumber 58 = .ok (.iload_n 2, 1) := by decide +kernel
theorem dX2_takeNumber_59 : decode cX2_takeNumber 59 = .ok (.bipush 10, 2) := by decide +kernel
theorem dX2_takeNumber_61 : decode cX2_takeNumber 61 = .ok (.imul, 1) := by decide +kernel
theorem dX2_takeNumber_62 : decode cX2_takeNumber 62 = .ok (.iload_n 3, 1) := by decide +kernel
theorem dX2_takeNumber_63 : decode cX2_takeNumber 63 = .ok (.iadd, 1) := by decide +kernel
theorem dX2_takeNumber_64 : decode cX2_takeNumber 64 = .ok (.ireturn, 1) := by decide +kernel
theorem dX2_digitHere_0 : decode cX2_digitHere 0 = .ok (.aload_n 0, 1) := by decide +kernel
theorem dX2_digitHere_1 : decode cX2_digitHere 1 = .ok (.getfield 19, 3) := by decide +kernel
theorem dX2_digitHere_4 : decode cX2_digitHere 4 = .ok (.aload_n 0, 1) := by decide +kernel
theorem dX2_digitHere_5 : decode cX2_digitHere 5 = .ok (.getfield 15, 3) := by decide +kernel
theorem dX2_digitHere_8 : decode cX2_digitHere 8 = .ok (.if_icmp .lt 5, 3) := by decide +kernel
theorem dX2_digitHere_11 : decode cX2_digitHere 11 = .ok (.iconst (-1), 1) := by decide +kernel
theorem dX2_digitHere_12 : decode cX2_digitHere 12 = .ok (.ireturn, 1) := by decide +kernel
theorem dX2_digitHere_13 : decode cX2_digitHere 13 = .ok (.aload_n 0, 1) := by decide +kernel
theorem dX2_digitHere_14 : decode cX2_digitHere 14 = .ok (.getfield 11, 3) := by decide +kernel
theorem dX2_digitHere_17 : decode cX2_digitHere 17 = .ok (.aload_n 0, 1) := by decide +kernel
theorem dX2_digitHere_18 : decode cX2_digitHere 18 = .ok (.getfield 19, 3) := by decide +kernel
theorem dX2_digitHere_21 : decode cX2_digitHere 21 = .ok (.caload, 1) := by decide +kernel
theorem dX2_digitHere_22 : decode cX2_digitHere 22 = .ok (.istore_n 1, 1) := by decide +kernel
theorem dX2_digitHere_23 : decode cX2_digitHere 23 = .ok (.iload_n 1, 1) := by decide +kernel
theorem dX2_digitHere_24 : decode cX2_digitHere 24 = .ok (.bipush 48, 2) := by decide +kernel
theorem dX2_digitHere_26 : decode cX2_digitHere 26 = .ok (.if_icmp .lt 16, 3) := by decide +kernel
theorem dX2_digitHere_29 : decode cX2_digitHere 29 = .ok (.iload_n 1, 1) := by decide +kernel
theorem dX2_digitHere_30 : decode cX2_digitHere 30 = .ok (.bipush 57, 2) := by decide +kernel
theorem dX2_digitHere_32 : decode cX2_digitHere 32 = .ok (.if_icmp .gt 10, 3) := by decide +kernel
theorem dX2_digitHere_35 : decode cX2_digitHere 35 = .ok (.iload_n 1, 1) := by decide +kernel
theorem dX2_digitHere_36 : decode cX2_digitHere 36 = .ok (.bipush 48, 2) := by decide +kernel
theorem dX2_digitHere_38 : decode cX2_digitHere 38 = .ok (.isub, 1) := by decide +kernel
theorem dX2_digitHere_39 : decode cX2_digitHere 39 = .ok (.goto 4, 3) := by decide +kernel
theorem dX2_digitHere_42 : decode cX2_digitHere 42 = .ok (.iconst (-1), 1) := by decide +kernel
theorem dX2_digitHere_43 : decode cX2_digitHere 43 = .ok (.ireturn, 1) := by decide +kernel
set_option maxRecDepth 20000 in
theorem ggX3_init_X1_init : GoodIn wsX3_init wsX1_init := goodIn_r _ [20, 21, 2, 3, 22, 23, 24, 25, 26, 27, 28, 29, 30, 31, 32, 33, 52, 53, 54, 55, 56, 57, 58, 59, 60, 61, 62] (by decide +kernel) (by decide +kernel)
set_option maxRecDepth 20000 in
theorem gX3_init_X1_init_n9 : GoodIn wsX3_init (wsX1_init) := ggX3_init_X1_init
set_option maxRecDepth 20000 in
theorem ggX3_init_X0_init : GoodIn wsX3_init wsX0_init := goodIn_r _ [36, 37, 2, 3, 38, 39, 40, 5, 6, 19, 20, 21, 22, 23, 24, 25, 26, 27, 28, 29, 30, 31, 32, 33, 69, 70, 52, 53, 54, 55, 56, 57, 58, 59, 60, 61, 62] (by decide +kernel) (by decide +kernel)
set_option maxRecDepth 20000 in
theorem gX3_init_X0_init : GoodIn wsX3_init (wsX0_init) := ggX3_init_X0_init
set_option maxRecDepth 20000 in
theorem ggX3_init_X2_init : GoodIn wsX3_init wsX2_init := goodIn_r _ [42, 43, 2, 3, 44, 45, 46, 47, 48, 49, 50, 51, 71, 72, 73, 74, 75, 76, 77] (by decide +kernel) (by decide +kernel)
set_option maxRecDepth 20000 in
theorem gX3_init_X2_init_n35 : GoodIn wsX3_init (wsX2_init) := ggX3_init_X2_init
theorem dX3_init_0 : decode cX3_init 0 = .ok (.aload_n 0, 1) := by decide +kernel
theorem dX3_init_1 : decode cX3_init 1 = .ok (.invokespecial 1, 3) := by decide +kernel
theorem dX3_init_4 : decode cX3_init 4 = .ok (.aload_n 0, 1) := by decide +kernel
theorem dX3_init_5 : decode cX3_init 5 = .ok (.new 7, 3) := by decide +kernel
theorem dX3_init_8 : decode cX3_init 8 = .ok (.dup, 1) := by decide +kernel
theorem dX3_init_9 : decode cX3_init 9 = .ok (.invokespecial 9, 3) := by decide +kernel
theorem dX3_init_12 : decode cX3_init 12 = .ok (.putfield 10, 3) := by decide +kernel
theorem dX3_init_15 : decode cX3_init 15 = .ok (.aload_n 0, 1) := by decide +kernel
theorem dX3_init_16 : decode cX3_init 16 = .ok (.new 7, 3) := by decide +kernel
theorem dX3_init_19 : decode cX3_init 19 = .ok (.dup, 1) := by decide +kernel
theorem dX3_init_20 : decode cX3_init 20 = .ok (.invokespecial 9, 3) := by decide +kernel
theorem dX3_init_23 : decode cX3_init 23 = .ok (.putfield 16, 3) := by decide +kernel
theorem dX3_init_26 : decode cX3_init 26 = .ok (.aload_n 0, 1) := by decide +kernel
theorem dX3_init_27 : decode cX3_init 27 = .ok (.new 7, 3) := by decide +kernel
theorem dX3_init_30 : decode cX3_init 30 = .ok (.dup, 1) := by decide +kernel
theorem dX3_init_31 : decode cX3_init 31 = .ok (.invokespecial 9, 3) := by decide +kernel
theorem dX3_init_34 : decode cX3_init 34 = .ok (.putfield 19, 3) := by decide +kernel
theorem dX3_init_37 : decode cX3_init 37 = .ok (.aload_n 0, 1) := by decide +kernel
theorem dX3_init_38 : decode cX3_init 38 = .ok (.iconst 0, 1) := by decide +kernel
theorem dX3_init_39 : decode cX3_init 39 = .ok (.putfield 22, 3) := by decide +kernel
theorem dX3_init_42 : decode cX3_init 42 = .ok (.aload_n 0, 1) := by decide +kernel
theorem dX3_init_43 : decode cX3_init 43 = .ok (.new 26, 3) := by decide +kernel
theorem dX3_init_46 : decode cX3_init 46 = .ok (.dup, 1) := by decide +kernel
theorem dX3_init_47 : decode cX3_init 47 = .ok (.invokespecial 28, 3) := by decide +kernel
theorem dX3_init_50 : decode cX3_init 50 = .ok (.putfield 29, 3) := by decide +kernel
theorem dX3_init_53 : decode cX3_init 53 = .ok (.aload_n 0, 1) := by decide +kernel
theorem dX3_init_54 : decode cX3_init 54 = .ok (.new 33, 3) := by decide +kernel
theorem dX3_init_57 : decode cX3_init 57 = .ok (.dup, 1) := by decide +kernel
theorem dX3_init_58 : decode cX3_init 58 = .ok (.invokespecial 35, 3) := by decide +kernel
theorem dX3_init_61 : decode cX3_init 61 = .ok (.putfield 36, 3) := by decide +kernel
theorem dX3_init_64 : decode cX3_init 64 = .ok (.return_, 1) := by decide +kernel
set_option maxRecDepth 20000 in
theorem ggX3_come_X1_copyFrom : GoodIn wsX3_come wsX1_copyFrom := goodIn_r _ [7, 8, 9, 10, 11, 12, 13, 14, 15, 16, 17, 18, 19, 20, 21, 22, 66, 67, 68, 69, 70, 71, 72, 73, 74, 75, 76] (by decide +kernel) (by decide +kernel)
set_option maxRecDepth 20000 in
theorem gX3_come_X1_copyFrom : GoodIn wsX3_come (wsV RX3 40 RX1 yX1_copyFrom wsX1_copyFrom) := goodIn_app (goodIn_of _ (by decide +kernel)) ggX3_come_X1_copyFrom
set_option maxRecDepth 20000 in
theorem ggX3_come_X1_admit : GoodIn wsX3_come wsX1_admit := goodIn_r _ [26, 18, 13, 14, 15, 17, 16, 22, 27, 28, 29, 6, 30, 31, 32, 33, 34, 35, 36, 37, 38, 39, 40, 41, 8, 66, 67, 68, 69, 70, 71, 72, 73, 74, 75, 76] (by decide +kernel) (by decide +kernel)
set_option maxRecDepth 20000 in
theorem gX3_come_X1_admit : GoodIn wsX3_come (wsV RX3 44 RX1 yX1_admit wsX1_admit) := goodIn_app (goodIn_of _ (by decide +kernel)) ggX3_come_X1_admit
set_option maxRecDepth 20000 in
theorem ggX3_come_X3_recorded : GoodIn wsX3_come wsX3_recorded := goodIn_r _ [46, 47, 1, 48, 49, 50, 51, 52, 53, 54, 55, 56, 57, 58, 59, 4, 5, 6, 7, 8, 9, 10, 11, 12, 13, 14, 15, 16, 17, 18, 19, 20, 21, 22, 60, 61, 62, 63, 64, 65, 77, 78, 66, 67, 68, 69, 70, 71, 72, 73, 74, 75, 76] (by decide +kernel) (by decide +kernel)
set_option maxRecDepth 20000 in
theorem gX3_come_X3_recorded : GoodIn wsX3_come (wsV RX3 48 RX3 yX3_recorded wsX3_recorded) := goodIn_app (goodIn_of _ (by decide +kernel)) ggX3_come_X3_recorded
theorem dX3_come_0 : decode cX3_come 0 = .ok (.aload_n 0, 1) := by decide +kernel
theorem dX3_come_1 : decode cX3_come 1 = .ok (.getfield 16, 3) := by decide +kernel
theorem dX3_come_4 : decode cX3_come 4 = .ok (.aload_n 0, 1) := by decide +kernel
theorem dX3_come_5 : decode cX3_come 5 = .ok (.getfield 10, 3) := by decide +kernel
theorem dX3_come_8 : decode cX3_come 8 = .ok (.invokevirtual 40, 3) := by decide +kernel
theorem dX3_come_11 : decode cX3_come 11 = .ok (.aload_n 0, 1) := by decide +kernel
theorem dX3_come_12 : decode cX3_come 12 = .ok (.aload_n 0, 1) := by decide +kernel
theorem dX3_come_13 : decode cX3_come 13 = .ok (.getfield 10, 3) := by decide +kernel
theorem dX3_come_16 : decode cX3_come 16 = .ok (.iload_n 1, 1) := by decide +kernel
theorem dX3_come_17 : decode cX3_come 17 = .ok (.iload_n 2, 1) := by decide +kernel
theorem dX3_come_18 : decode cX3_come 18 = .ok (.iload_n 3, 1) := by decide +kernel
theorem dX3_come_19 : decode cX3_come 19 = .ok (.invokevirtual 44, 3) := by decide +kernel
theorem dX3_come_22 : decode cX3_come 22 = .ok (.invokevirtual 48, 3) := by decide +kernel
theorem dX3_come_25 : decode cX3_come 25 = .ok (.ireturn, 1) := by decide +kernel
set_option maxRecDepth 20000 in
theorem ggX3_alter_X1_copyFrom : GoodIn wsX3_alter wsX1_copyFrom := goodIn_r _ [7, 8, 9, 10, 11, 12, 13, 14, 15, 16, 17, 18, 19, 20, 21, 22, 64, 65, 66, 67, 68, 69, 70, 71, 72, 73, 74] (by decide +kernel) (by decide +kernel)
set_option maxRecDepth 20000 in
theorem gX3_alter_X1_copyFrom : GoodIn wsX3_alter (wsV RX3 40 RX1 yX1_copyFrom wsX1_copyFrom) := goodIn_app (goodIn_of _ (by decide +kernel)) ggX3_alter_X1_copyFrom
set_option maxRecDepth 20000 in
theorem ggX3_alter_X1_changeClaim : GoodIn wsX3_alter wsX1_changeClaim := goodIn_r _ [26, 19, 13, 27, 28, 29, 6, 30, 18, 31, 32, 33, 34, 35, 36, 37, 38, 39, 64, 65, 66, 67, 68, 69, 70, 71, 72, 73, 74] (by decide +kernel) (by decide +kernel)
set_option maxRecDepth 20000 in
theorem gX3_alter_X1_changeClaim : GoodIn wsX3_alter (wsV RX3 52 RX1 yX1_changeClaim wsX1_changeClaim) := goodIn_app (goodIn_of _ (by decide +kernel)) ggX3_alter_X1_changeClaim
set_option maxRecDepth 20000 in
theorem ggX3_alter_X3_recorded : GoodIn wsX3_alter wsX3_recorded := goodIn_r _ [44, 45, 1, 46, 47, 48, 49, 50, 51, 52, 53, 54, 55, 56, 57, 4, 5, 6, 7, 8, 9, 10, 11, 12, 13, 14, 15, 16, 17, 18, 19, 20, 21, 22, 58, 59, 60, 61, 62, 63, 75, 76, 64, 65, 66, 67, 68, 69, 70, 71, 72, 73, 74] (by decide +kernel) (by decide +kernel)
set_option maxRecDepth 20000 in
theorem gX3_alter_X3_recorded : GoodIn wsX3_alter (wsV RX3 48 RX3 yX3_recorded wsX3_recorded) := goodIn_app (goodIn_of _ (by decide +kernel)) ggX3_alter_X3_recorded
theorem dX3_alter_0 : decode cX3_alter 0 = .ok (.aload_n 0, 1) := by decide +kernel
theorem dX3_alter_1 : decode cX3_alter 1 = .ok (.getfield 16, 3) := by decide +kernel
theorem dX3_alter_4 : decode cX3_alter 4 = .ok (.aload_n 0, 1) := by decide +kernel
theorem dX3_alter_5 : decode cX3_alter 5 = .ok (.getfield 10, 3) := by decide +kernel
theorem dX3_alter_8 : decode cX3_alter 8 = .ok (.invokevirtual 40, 3) := by decide +kernel
theorem dX3_alter_11 : decode cX3_alter 11 = .ok (.aload_n 0, 1) := by decide +kernel
theorem dX3_alter_12 : decode cX3_alter 12 = .ok (.aload_n 0, 1) := by decide +kernel
theorem dX3_alter_13 : decode cX3_alter 13 = .ok (.getfield 10, 3) := by decide +kernel
theorem dX3_alter_16 : decode cX3_alter 16 = .ok (.iload_n 1, 1) := by decide +kernel
theorem dX3_alter_17 : decode cX3_alter 17 = .ok (.iload_n 2, 1) := by decide +kernel
theorem dX3_alter_18 : decode cX3_alter 18 = .ok (.invokevirtual 52, 3) := by decide +kernel
theorem dX3_alter_21 : decode cX3_alter 21 = .ok (.invokevirtual 48, 3) := by decide +kernel
theorem dX3_alter_24 : decode cX3_alter 24 = .ok (.ireturn, 1) := by decide +kernel
set_option maxRecDepth 20000 in
theorem ggX3_reseal_X1_copyFrom : GoodIn wsX3_reseal wsX1_copyFrom := goodIn_r _ [7, 8, 9, 10, 11, 12, 13, 14, 15, 16, 17, 18, 19, 20, 21, 22, 67, 68, 69, 70, 71, 72, 73, 74, 75, 76, 77] (by decide +kernel) (by decide +kernel)
set_option maxRecDepth 20000 in
theorem gX3_reseal_X1_copyFrom : GoodIn wsX3_reseal (wsV RX3 40 RX1 yX1_copyFrom wsX1_copyFrom) := goodIn_app (goodIn_of _ (by decide +kernel)) ggX3_reseal_X1_copyFrom
set_option maxRecDepth 20000 in
theorem ggX3_reseal_X1_mendSeal : GoodIn wsX3_reseal wsX1_mendSeal := goodIn_r _ [26, 16, 27, 28, 29, 6, 30, 18, 31, 32, 33, 34, 13, 35, 36, 37, 38, 8, 15, 39, 40, 41, 42, 67, 68, 69, 70, 71, 72, 73, 74, 75, 76, 77] (by decide +kernel) (by decide +kernel)
set_option maxRecDepth 20000 in
theorem gX3_reseal_X1_mendSeal : GoodIn wsX3_reseal (wsV RX3 56 RX1 yX1_mendSeal wsX1_mendSeal) := goodIn_app (goodIn_of _ (by decide +kernel)) ggX3_reseal_X1_mendSeal
set_option maxRecDepth 20000 in
theorem ggX3_reseal_X3_recorded : GoodIn wsX3_reseal wsX3_recorded := goodIn_r _ [47, 48, 1, 49, 50, 51, 52, 53, 54, 55, 56, 57, 58, 59, 60, 4, 5, 6, 7, 8, 9, 10, 11, 12, 13, 14, 15, 16, 17, 18, 19, 20, 21, 22, 61, 62, 63, 64, 65, 66, 78, 79, 67, 68, 69, 70, 71, 72, 73, 74, 75, 76, 77] (by decide +kernel) (by decide +kernel)
set_option maxRecDepth 20000 in
theorem gX3_reseal_X3_recorded : GoodIn wsX3_reseal (wsV RX3 48 RX3 yX3_recorded wsX3_recorded) := goodIn_app (goodIn_of _ (by decide +kernel)) ggX3_reseal_X3_recorded
theorem dX3_reseal_0 : decode cX3_reseal 0 = .ok (.aload_n 0, 1) := by decide +kernel
theorem dX3_reseal_1 : decode cX3_reseal 1 = .ok (.getfield 16, 3) := by decide +kernel
theorem dX3_reseal_4 : decode cX3_reseal 4 = .ok (.aload_n 0, 1) := by decide +kernel
theorem dX3_reseal_5 : decode cX3_reseal 5 = .ok (.getfield 10, 3) := by decide +kernel
theorem dX3_reseal_8 : decode cX3_reseal 8 = .ok (.invokevirtual 40, 3) := by decide +kernel
theorem dX3_reseal_11 : decode cX3_reseal 11 = .ok (.aload_n 0, 1) := by decide +kernel
theorem dX3_reseal_12 : decode cX3_reseal 12 = .ok (.aload_n 0, 1) := by decide +kernel
theorem dX3_reseal_13 : decode cX3_reseal 13 = .ok (.getfield 10, 3) := by decide +kernel
theorem dX3_reseal_16 : decode cX3_reseal 16 = .ok (.iload_n 1, 1) := by decide +kernel
theorem dX3_reseal_17 : decode cX3_reseal 17 = .ok (.invokevirtual 56, 3) := by decide +kernel
theorem dX3_reseal_20 : decode cX3_reseal 20 = .ok (.invokevirtual 48, 3) := by decide +kernel
theorem dX3_reseal_23 : decode cX3_reseal 23 = .ok (.ireturn, 1) := by decide +kernel
set_option maxRecDepth 20000 in
theorem ggX3_open_X1_copyFrom : GoodIn wsX3_open wsX1_copyFrom := goodIn_r _ [7, 8, 9, 10, 11, 12, 13, 14, 15, 16, 17, 18, 19, 20, 21, 22, 104, 105, 106, 107, 108, 109, 110, 111, 112, 113, 114] (by decide +kernel) (by decide +kernel)
set_option maxRecDepth 20000 in
theorem gX3_open_X1_copyFrom : GoodIn wsX3_open (wsV RX3 40 RX1 yX1_copyFrom wsX1_copyFrom) := goodIn_app (goodIn_of _ (by decide +kernel)) ggX3_open_X1_copyFrom
set_option maxRecDepth 20000 in
theorem ggX3_open_X1_inspect : GoodIn wsX3_open wsX1_inspect := goodIn_r _ [26, 19, 17, 14, 21, 27, 28, 29, 6, 30, 18, 31, 32, 33, 34, 35, 36, 37, 38, 39, 40, 8, 13, 41, 42, 43, 44, 45, 46, 47, 48, 16, 49, 50, 51, 52, 15, 53, 54, 55, 56, 57, 58, 59, 60, 20, 61, 62, 63, 64, 65, 66, 67, 68, 69, 70, 71, 72, 73, 74, 75, 76, 77, 78, 79, 104, 105, 106, 107, 108, 109, 110, 111, 112, 113, 114] (by decide +kernel) (by decide +kernel)
set_option maxRecDepth 20000 in
theorem gX3_open_X1_inspect : GoodIn wsX3_open (wsV RX3 59 RX1 yX1_inspect wsX1_inspect) := goodIn_app (goodIn_of _ (by decide +kernel)) ggX3_open_X1_inspect
set_option maxRecDepth 20000 in
theorem ggX3_open_X3_recorded : GoodIn wsX3_open wsX3_recorded := goodIn_r _ [84, 85, 1, 86, 87, 88, 89, 90, 91, 92, 93, 94, 95, 96, 97, 4, 5, 6, 7, 8, 9, 10, 11, 12, 13, 14, 15, 16, 17, 18, 19, 20, 21, 22, 98, 99, 100, 101, 102, 103, 115, 116, 104, 105, 106, 107, 108, 109, 110, 111, 112, 113, 114] (by decide +kernel) (by decide +kernel)
set_option maxRecDepth 20000 in
theorem gX3_open_X3_recorded : GoodIn wsX3_open (wsV RX3 48 RX3 yX3_recorded wsX3_recorded) := goodIn_app (goodIn_of _ (by decide +kernel)) ggX3_open_X3_recorded
theorem dX3_open_0 : decode cX3_open 0 = .ok (.aload_n 0, 1) := by decide +kernel
theorem dX3_open_1 : decode cX3_open 1 = .ok (.getfield 16, 3) := by decide +kernel
theorem dX3_open_4 : decode cX3_open 4 = .ok (.aload_n 0, 1) := by decide +kernel
theorem dX3_open_5 : decode cX3_open 5 = .ok (.getfield 10, 3) := by decide +kernel
theorem dX3_open_8 : decode cX3_open 8 = .ok (.invokevirtual 40, 3) := by decide +kernel
theorem dX3_open_11 : decode cX3_open 11 = .ok (.aload_n 0, 1) := by decide +kernel
theorem dX3_open_12 : decode cX3_open 12 = .ok (.aload_n 0, 1) := by decide +kernel
theorem dX3_open_13 : decode cX3_open 13 = .ok (.getfield 10, 3) := by decide +kernel
theorem dX3_open_16 : decode cX3_open 16 = .ok (.iload_n 1, 1) := by decide +kernel
theorem dX3_open_17 : decode cX3_open 17 = .ok (.invokevirtual 59, 3) := by decide +kernel
theorem dX3_open_20 : decode cX3_open 20 = .ok (.invokevirtual 48, 3) := by decide +kernel
theorem dX3_open_23 : decode cX3_open 23 = .ok (.ireturn, 1) := by decide +kernel
set_option maxRecDepth 20000 in
theorem ggX3_openAll_X1_copyFrom : GoodIn wsX3_openAll wsX1_copyFrom := goodIn_r _ [7, 8, 9, 10, 11, 12, 13, 14, 15, 16, 17, 18, 19, 20, 21, 22, 116, 117, 118, 119, 120, 121, 122, 123, 124, 125, 126] (by decide +kernel) (by decide +kernel)
set_option maxRecDepth 20000 in
theorem gX3_openAll_X1_copyFrom : GoodIn wsX3_openAll (wsV RX3 40 RX1 yX1_copyFrom wsX1_copyFrom) := goodIn_app (goodIn_of _ (by decide +kernel)) ggX3_openAll_X1_copyFrom
set_option maxRecDepth 20000 in
theorem ggX3_openAll_X1_inspectAll : GoodIn wsX3_openAll wsX1_inspectAll := goodIn_r _ [26, 18, 27, 28, 29, 6, 30, 21, 19, 31, 32, 33, 34, 35, 36, 37, 38, 39, 40, 41, 42, 43, 44, 17, 14, 45, 46, 47, 48, 49, 50, 51, 52, 8, 13, 53, 54, 55, 56, 57, 58, 59, 60, 16, 61, 62, 63, 64, 15, 65, 66, 67, 68, 69, 70, 71, 72, 20, 73, 74, 75, 76, 77, 78, 79, 80, 81, 82, 83, 84, 85, 86, 87, 88, 89, 90, 91, 116, 117, 118, 119, 120, 121, 122, 123, 124, 125, 126] (by decide +kernel) (by decide +kernel)
set_option maxRecDepth 20000 in
theorem gX3_openAll_X1_inspectAll : GoodIn wsX3_openAll (wsV RX3 62 RX1 yX1_inspectAll wsX1_inspectAll) := goodIn_app (goodIn_of _ (by decide +kernel)) ggX3_openAll_X1_inspectAll
set_option maxRecDepth 20000 in
theorem ggX3_openAll_X3_recorded : GoodIn wsX3_openAll wsX3_recorded := goodIn_r _ [96, 97, 1, 98, 99, 100, 101, 102, 103, 104, 105, 106, 107, 108, 109, 4, 5, 6, 7, 8, 9, 10, 11, 12, 13, 14, 15, 16, 17, 18, 19, 20, 21, 22, 110, 111, 112, 113, 114, 115, 127, 128, 116, 117, 118, 119, 120, 121, 122, 123, 124, 125, 126] (by decide +kernel) (by decide +kernel)
set_option maxRecDepth 20000 in
theorem gX3_openAll_X3_recorded : GoodIn wsX3_openAll (wsV RX3 48 RX3 yX3_recorded wsX3_recorded) := goodIn_app (goodIn_of _ (by decide +kernel)) ggX3_openAll_X3_recorded
theorem dX3_openAll_0 : decode cX3_openAll 0 = .ok (.aload_n 0, 1) := by decide +kernel
theorem dX3_openAll_1 : decode cX3_openAll 1 = .ok (.getfield 16, 3) := by decide +kernel
theorem dX3_openAll_4 : decode cX3_openAll 4 = .ok (.aload_n 0, 1) := by decide +kernel
theorem dX3_openAll_5 : decode cX3_openAll 5 = .ok (.getfield 10, 3) := by decide +kernel
theorem dX3_openAll_8 : decode cX3_openAll 8 = .ok (.invokevirtual 40, 3) := by decide +kernel
theorem dX3_openAll_11 : decode cX3_openAll 11 = .ok (.aload_n 0, 1) := by decide +kernel
theorem dX3_openAll_12 : decode cX3_openAll 12 = .ok (.aload_n 0, 1) := by decide +kernel
theorem dX3_openAll_13 : decode cX3_openAll 13 = .ok (.getfield 10, 3) := by decide +kernel
theorem dX3_openAll_16 : decode cX3_openAll 16 = .ok (.invokevirtual 62, 3) := by decide +kernel
theorem dX3_openAll_19 : decode cX3_openAll 19 = .ok (.invokevirtual 48, 3) := by decide +kernel
theorem dX3_openAll_22 : decode cX3_openAll 22 = .ok (.ireturn, 1) := by decide +kernel
set_option maxRecDepth 20000 in
theorem ggX3_set_X1_copyFrom : GoodIn wsX3_set wsX1_copyFrom := goodIn_r _ [7, 8, 9, 10, 11, 12, 13, 14, 15, 16, 17, 18, 19, 20, 21, 22, 53, 54, 55, 56, 57, 58, 59, 60, 61, 62, 63] (by decide +kernel) (by decide +kernel)
set_option maxRecDepth 20000 in
theorem gX3_set_X1_copyFrom : GoodIn wsX3_set (wsV RX3 40 RX1 yX1_copyFrom wsX1_copyFrom) := goodIn_app (goodIn_of _ (by decide +kernel)) ggX3_set_X1_copyFrom
set_option maxRecDepth 20000 in
theorem ggX3_set_X1_changeSetting : GoodIn wsX3_set wsX1_changeSetting := goodIn_r _ [26, 27, 28, 8, 53, 54, 55, 56, 57, 58, 59, 60, 61, 62, 63] (by decide +kernel) (by decide +kernel)
set_option maxRecDepth 20000 in
theorem gX3_set_X1_changeSetting : GoodIn wsX3_set (wsV RX3 66 RX1 yX1_changeSetting wsX1_changeSetting) := goodIn_app (goodIn_of _ (by decide +kernel)) ggX3_set_X1_changeSetting
set_option maxRecDepth 20000 in
theorem ggX3_set_X3_recorded : GoodIn wsX3_set wsX3_recorded := goodIn_r _ [33, 34, 1, 35, 36, 37, 38, 39, 40, 41, 42, 43, 44, 45, 46, 4, 5, 6, 7, 8, 9, 10, 11, 12, 13, 14, 15, 16, 17, 18, 19, 20, 21, 22, 47, 48, 49, 50, 51, 52, 64, 65, 53, 54, 55, 56, 57, 58, 59, 60, 61, 62, 63] (by decide +kernel) (by decide +kernel)
set_option maxRecDepth 20000 in
theorem gX3_set_X3_recorded : GoodIn wsX3_set (wsV RX3 48 RX3 yX3_recorded wsX3_recorded) := goodIn_app (goodIn_of _ (by decide +kernel)) ggX3_set_X3_recorded
theorem dX3_set_0 : decode cX3_set 0 = .ok (.aload_n 0, 1) := by decide +kernel
theorem dX3_set_1 : decode cX3_set 1 = .ok (.getfield 16, 3) := by decide +kernel
theorem dX3_set_4 : decode cX3_set 4 = .ok (.aload_n 0, 1) := by decide +kernel
theorem dX3_set_5 : decode cX3_set 5 = .ok (.getfield 10, 3) := by decide +kernel
theorem dX3_set_8 : decode cX3_set 8 = .ok (.invokevirtual 40, 3) := by decide +kernel
theorem dX3_set_11 : decode cX3_set 11 = .ok (.aload_n 0, 1) := by decide +kernel
theorem dX3_set_12 : decode cX3_set 12 = .ok (.aload_n 0, 1) := by decide +kernel
theorem dX3_set_13 : decode cX3_set 13 = .ok (.getfield 10, 3) := by decide +kernel
theorem dX3_set_16 : decode cX3_set 16 = .ok (.iload_n 1, 1) := by decide +kernel
theorem dX3_set_17 : decode cX3_set 17 = .ok (.iload_n 2, 1) := by decide +kernel
theorem dX3_set_18 : decode cX3_set 18 = .ok (.invokevirtual 66, 3) := by decide +kernel
theorem dX3_set_21 : decode cX3_set 21 = .ok (.invokevirtual 48, 3) := by decide +kernel
theorem dX3_set_24 : decode cX3_set 24 = .ok (.ireturn, 1) := by decide +kernel
set_option maxRecDepth 20000 in
theorem ggX3_type_X2_append : GoodIn wsX3_type wsX2_append := goodIn_r _ [6, 7, 8, 15, 16, 17, 18, 19, 20, 21] (by decide +kernel) (by decide +kernel)
set_option maxRecDepth 20000 in
theorem gX3_type_X2_append : GoodIn wsX3_type (wsV RX3 69 RX2 yX2_append wsX2_append) := goodIn_app (goodIn_of _ (by decide +kernel)) ggX3_type_X2_append
theorem dX3_type_0 : decode cX3_type 0 = .ok (.aload_n 0, 1) := by decide +kernel
theorem dX3_type_1 : decode cX3_type 1 = .ok (.getfield 36, 3) := by decide +kernel
theorem dX3_type_4 : decode cX3_type 4 = .ok (.iload_n 1, 1) := by decide +kernel
theorem dX3_type_5 : decode cX3_type 5 = .ok (.invokevirtual 69, 3) := by decide +kernel
theorem dX3_type_8 : decode cX3_type 8 = .ok (.ireturn, 1) := by decide +kernel
set_option maxRecDepth 20000 in
theorem ggX3_clearText_X2_empty : GoodIn wsX3_clearText wsX2_empty := goodIn_r _ [6, 7, 14, 15, 16, 17, 18, 19, 20] (by decide +kernel) (by decide +kernel)
set_option maxRecDepth 20000 in
theorem gX3_clearText_X2_empty : GoodIn wsX3_clearText (wsV RX3 73 RX2 yX2_empty wsX2_empty) := goodIn_app (goodIn_of _ (by decide +kernel)) ggX3_clearText_X2_empty
theorem dX3_clearText_0 : decode cX3_clearText 0 = .ok (.aload_n 0, 1) := by decide +kernel
theorem dX3_clearText_1 : decode cX3_clearText 1 = .ok (.getfield 36, 3) := by decide +kernel
theorem dX3_clearText_4 : decode cX3_clearText 4 = .ok (.invokevirtual 73, 3) := by decide +kernel
theorem dX3_clearText_7 : decode cX3_clearText 7 = .ok (.ireturn, 1) := by decide +kernel
set_option maxRecDepth 20000 in
theorem ggX3_perform_X2_countOrders : GoodIn wsX3_perform wsX2_countOrders := goodIn_r _ [8, 9, 10, 11, 12, 13, 7, 14, 15, 16, 17, 18, 19, 20, 21, 22, 23, 24, 25, 26, 27, 28, 29, 30, 31, 32, 33, 34, 35, 36, 37, 38, 39, 40, 41, 42, 43, 44, 45, 46, 47, 48, 49, 50, 51, 204, 205, 206, 207, 208, 209, 210] (by decide +kernel) (by decide +kernel)
set_option maxRecDepth 20000 in
theorem gX3_perform_X2_countOrders : GoodIn wsX3_perform (wsV RX3 76 RX2 yX2_countOrders wsX2_countOrders) := goodIn_app (goodIn_of _ (by decide +kernel)) ggX3_perform_X2_countOrders
set_option maxRecDepth 20000 in
theorem ggX3_perform_X2_reached : GoodIn wsX3_perform wsX2_reached := goodIn_r _ [55, 9, 204, 205, 206, 207, 208, 209, 210] (by decide +kernel) (by decide +kernel)
set_option maxRecDepth 20000 in
theorem gX3_perform_X2_reached : GoodIn wsX3_perform (wsV RX3 79 RX2 yX2_reached wsX2_reached) := goodIn_app (goodIn_of _ (by decide +kernel)) ggX3_perform_X2_reached
set_option maxRecDepth 20000 in
theorem ggX3_perform_X1_copyFrom : GoodIn wsX3_perform wsX1_copyFrom := goodIn_r _ [60, 61, 62, 63, 64, 65, 66, 67, 68, 69, 70, 71, 72, 73, 74, 75, 211, 212, 213, 214, 215, 216, 217, 218, 219, 220, 221] (by decide +kernel) (by decide +kernel)
set_option maxRecDepth 20000 in
theorem gX3_perform_X1_copyFrom : GoodIn wsX3_perform (wsV RX3 40 RX1 yX1_copyFrom wsX1_copyFrom) := goodIn_app (goodIn_of _ (by decide +kernel)) ggX3_perform_X1_copyFrom
set_option maxRecDepth 20000 in
theorem ggX3_perform_X2_rewind : GoodIn wsX3_perform wsX2_rewind := goodIn_r _ [14, 9, 204, 205, 206, 207, 208, 209, 210] (by decide +kernel) (by decide +kernel)
set_option maxRecDepth 20000 in
theorem gX3_perform_X2_rewind : GoodIn wsX3_perform (wsV RX3 82 RX2 yX2_rewind wsX2_rewind) := goodIn_app (goodIn_of _ (by decide +kernel)) ggX3_perform_X2_rewind
set_option maxRecDepth 20000 in
theorem ggX3_perform_X2_nextOrder : GoodIn wsX3_perform wsX2_nextOrder := goodIn_r _ [80, 25, 26, 27, 7, 28, 9, 10, 29, 15, 16, 17, 18, 19, 20, 21, 22, 23, 24, 30, 31, 32, 33, 34, 35, 36, 37, 38, 39, 40, 41, 42, 43, 44, 45, 46, 47, 48, 49, 50, 51, 204, 205, 206, 207, 208, 209, 210] (by decide +kernel) (by decide +kernel)
set_option maxRecDepth 20000 in
theorem gX3_perform_X2_nextOrder : GoodIn wsX3_perform (wsV RX3 85 RX2 yX2_nextOrder wsX2_nextOrder) := goodIn_app (goodIn_of _ (by decide +kernel)) ggX3_perform_X2_nextOrder
set_option maxRecDepth 20000 in
theorem ggX3_perform_X3_carryOutOrder : GoodIn wsX3_perform wsX3_carryOutOrder := goodIn_r _ [85, 1, 3, 86, 87, 88, 7, 89, 24, 90, 91, 92, 93, 34, 94, 95, 96, 97, 47, 98, 99, 100, 101, 19, 102, 103, 104, 59, 105, 71, 66, 67, 68, 70, 69, 75, 106, 107, 108, 109, 110, 111, 112, 113, 114, 115, 116, 117, 118, 119, 120, 61, 121, 122, 123, 124, 72, 74, 125, 126, 127, 128, 129, 130, 131, 132, 133, 134, 135, 136, 137, 138, 139, 140, 141, 142, 143, 144, 145, 146, 147, 148, 149, 150, 73, 151, 152, 153, 154, 155, 156, 157, 158, 159, 160, 161, 162, 163, 164, 165, 166, 167, 168, 169, 170, 171, 172, 173, 174, 175, 176, 177, 198, 199, 200, 201, 202, 203, 204, 205, 206, 207, 208, 209, 210, 211, 212, 213, 214, 215, 216, 217, 218, 219, 220, 221] (by decide +kernel) (by decide +kernel)
set_option maxRecDepth 20000 in
theorem gX3_perform_X3_carryOutOrder : GoodIn wsX3_perform (wsV RX3 88 RX3 yX3_carryOutOrder wsX3_carryOutOrder) := goodIn_app (goodIn_of _ (by decide +kernel)) ggX3_perform_X3_carryOutOrder
set_option maxRecDepth 20000 in
theorem ggX3_perform_X3_isError : GoodIn wsX3_perform wsX3_isError := goodIn_r _ [180] (by decide +kernel) (by decide +kernel)
set_option maxRecDepth 20000 in
theorem gX3_perform_X3_isError : GoodIn wsX3_perform (va_wsS RX3 91 yX3_isError wsX3_isError) := goodIn_app (goodIn_of _ (by decide +kernel)) ggX3_perform_X3_isError
set_option maxRecDepth 20000 in
theorem ggX3_perform_X3_recorded : GoodIn wsX3_perform wsX3_recorded := goodIn_r _ [184, 185, 2, 186, 187, 188, 189, 190, 191, 192, 193, 194, 195, 196, 197, 57, 58, 59, 60, 61, 62, 63, 64, 65, 66, 67, 68, 69, 70, 71, 72, 73, 74, 75, 198, 199, 200, 201, 202, 203, 222, 223, 211, 212, 213, 214, 215, 216, 217, 218, 219, 220, 221] (by decide +kernel) (by decide +kernel)
set_option maxRecDepth 20000 in
theorem gX3_perform_X3_recorded : GoodIn wsX3_perform (wsV RX3 48 RX3 yX3_recorded wsX3_recorded) := goodIn_app (goodIn_of _ (by decide +kernel)) ggX3_perform_X3_recorded
theorem dX3_perform_0 : decode cX3_perform 0 = .ok (.aload_n 0, 1) := by decide +kernel
theorem dX3_perform_1 : decode cX3_perform 1 = .ok (.getfield 36, 3) := by decide +kernel
theorem dX3_perform_4 : decode cX3_perform 4 = .ok (.invokevirtual 76, 3) := by decide +kernel
theorem dX3_perform_7 : decode cX3_perform 7 = .ok (.istore_n 1, 1) := by decide +kernel
theorem dX3_perform_8 : decode cX3_perform 8 = .ok (.iload_n 1, 1) := by decide +kernel
theorem dX3_perform_9 : decode cX3_perform 9 = .ok (.iconst (-1), 1) := by decide +kernel
theorem dX3_perform_10 : decode cX3_perform 10 = .ok (.if_icmp .ne 14, 3) := by decide +kernel
theorem dX3_perform_13 : decode cX3_perform 13 = .ok (.bipush (-100), 2) := by decide +kernel
theorem dX3_perform_15 : decode cX3_perform 15 = .ok (.aload_n 0, 1) := by decide +kernel
theorem dX3_perform_16 : decode cX3_perform 16 = .ok (.getfield 36, 3) := by decide +kernel
theorem dX3_perform_19 : decode cX3_perform 19 = .ok (.invokevirtual 79, 3) := by decide +kernel
theorem dX3_perform_22 : decode cX3_perform 22 = .ok (.isub, 1) := by decide +kernel
theorem dX3_perform_23 : decode cX3_perform 23 = .ok (.ireturn, 1) := by decide +kernel
theorem dX3_perform_24 : decode cX3_perform 24 = .ok (.aload_n 0, 1) := by decide +kernel
theorem dX3_perform_25 : decode cX3_perform 25 = .ok (.getfield 16, 3) := by decide +kernel
theorem dX3_perform_28 : decode cX3_perform 28 = .ok (.aload_n 0, 1) := by decide +kernel
theorem dX3_perform_29 : decode cX3_perform 29 = .ok (.getfield 10, 3) := by decide +kernel
theorem dX3_perform_32 : decode cX3_perform 32 = .ok (.invokevirtual 40, 3) := by decide +kernel
theorem dX3_perform_35 : decode cX3_perform 35 = .ok (.aload_n 0, 1) := by decide +kernel
theorem dX3_perform_36 : decode cX3_perform 36 = .ok (.getfield 36, 3) := by decide +kernel
theorem dX3_perform_39 : decode cX3_perform 39 = .ok (.invokevirtual 82, 3) := by decide +kernel
theorem dX3_perform_42 : decode cX3_perform 42 = .ok (.iconst 0, 1) := by decide +kernel
theorem dX3_perform_43 : decode cX3_perform 43 = .ok (.istore_n 2, 1) := by decide +kernel
theorem dX3_perform_44 : decode cX3_perform 44 = .ok (.iload_n 2, 1) := by decide +kernel
theorem dX3_perform_45 : decode cX3_perform 45 = .ok (.iload_n 1, 1) := by decide +kernel
theorem dX3_perform_46 : decode cX3_perform 46 = .ok (.if_icmp .ge 41, 3) := by decide +kernel
theorem dX3_perform_49 : decode cX3_perform 49 = .ok (.aload_n 0, 1) := by decide +kernel
theorem dX3_perform_50 : decode cX3_perform 50 = .ok (.getfield 36, 3) := by decide +kernel
theorem dX3_perform_53 : decode cX3_perform 53 = .ok (.invokevirtual 85, 3) := by decide +kernel
theorem dX3_perform_56 : decode cX3_perform 56 = .ok (.aload_n 0, 1) := by decide +kernel
theorem dX3_perform_57 : decode cX3_perform 57 = .ok (.invokevirtual 88, 3) := by decide +kernel
theorem dX3_perform_60 : decode cX3_perform 60 = .ok (.istore_n 3, 1) := by decide +kernel
theorem dX3_perform_61 : decode cX3_perform 61 = .ok (.iload_n 3, 1) := by decide +kernel
theorem dX3_perform_62 : decode cX3_perform 62 = .ok (.invokestatic 91, 3) := by decide +kernel
theorem dX3_perform_65 : decode cX3_perform 65 = .ok (.ifCond .eq 16, 3) := by decide +kernel
theorem dX3_perform_68 : decode cX3_perform 68 = .ok (.aload_n 0, 1) := by decide +kernel
theorem dX3_perform_69 : decode cX3_perform 69 = .ok (.getfield 10, 3) := by decide +kernel
theorem dX3_perform_72 : decode cX3_perform 72 = .ok (.aload_n 0, 1) := by decide +kernel
theorem dX3_perform_73 : decode cX3_perform 73 = .ok (.getfield 16, 3) := by decide +kernel
theorem dX3_perform_76 : decode cX3_perform 76 = .ok (.invokevirtual 40, 3) := by decide +kernel
theorem dX3_perform_79 : decode cX3_perform 79 = .ok (.iload_n 3, 1) := by decide +kernel
theorem dX3_perform_80 : decode cX3_perform 80 = .ok (.ireturn, 1) := by decide +kernel
theorem dX3_perform_81 : decode cX3_perform 81 = .ok (.iinc 2 1, 3) := by decide +kernel
theorem dX3_perform_84 : decode cX3_perform 84 = .ok (.goto (-40), 3) := by decide +kernel
theorem dX3_perform_87 : decode cX3_perform 87 = .ok (.aload_n 0, 1) := by decide +kernel
theorem dX3_perform_88 : decode cX3_perform 88 = .ok (.iload_n 1, 1) := by decide +kernel
theorem dX3_perform_89 : decode cX3_perform 89 = .ok (.invokevirtual 48, 3) := by decide +kernel
theorem dX3_perform_92 : decode cX3_perform 92 = .ok (.ireturn, 1) := by decide +kernel
set_option maxRecDepth 20000 in
theorem ggX3_undo_X0_takeLatest : GoodIn wsX3_undo wsX0_takeLatest := goodIn_r _ [7, 8, 9, 10, 11, 12, 13, 14, 15, 16, 17, 18, 19, 20, 21, 22, 23, 24, 25, 26, 27, 28, 29, 36, 37, 38, 39, 40, 41, 42, 43, 44, 45, 46, 47, 48] (by decide +kernel) (by decide +kernel)
set_option maxRecDepth 20000 in
theorem gX3_undo_X0_takeLatest : GoodIn wsX3_undo (wsV RX3 95 RX0 yX0_takeLatest wsX0_takeLatest) := goodIn_app (goodIn_of _ (by decide +kernel)) ggX3_undo_X0_takeLatest
theorem dX3_undo_0 : decode cX3_undo 0 = .ok (.aload_n 0, 1) := by decide +kernel
theorem dX3_undo_1 : decode cX3_undo 1 = .ok (.getfield 29, 3) := by decide +kernel
theorem dX3_undo_4 : decode cX3_undo 4 = .ok (.aload_n 0, 1) := by decide +kernel
theorem dX3_undo_5 : decode cX3_undo 5 = .ok (.getfield 10, 3) := by decide +kernel
theorem dX3_undo_8 : decode cX3_undo 8 = .ok (.invokevirtual 95, 3) := by decide +kernel
theorem dX3_undo_11 : decode cX3_undo 11 = .ok (.ireturn, 1) := by decide +kernel
set_option maxRecDepth 20000 in
theorem ggX3_keep_X1_copyFrom : GoodIn wsX3_keep wsX1_copyFrom := goodIn_r _ [8, 9, 10, 11, 12, 13, 14, 15, 16, 17, 18, 19, 20, 21, 22, 23, 34, 35, 36, 37, 38, 39, 40, 41, 42, 43, 44] (by decide +kernel) (by decide +kernel)
set_option maxRecDepth 20000 in
theorem gX3_keep_X1_copyFrom : GoodIn wsX3_keep (wsV RX3 40 RX1 yX1_copyFrom wsX1_copyFrom) := goodIn_app (goodIn_of _ (by decide +kernel)) ggX3_keep_X1_copyFrom
set_option maxRecDepth 20000 in
theorem ggX3_keep_X1_carts : GoodIn wsX3_keep wsX1_carts := goodIn_r _ [27, 19, 34, 35, 36, 37, 38, 39, 40, 41, 42, 43, 44] (by decide +kernel) (by decide +kernel)
set_option maxRecDepth 20000 in
theorem gX3_keep_X1_carts : GoodIn wsX3_keep (wsV RX3 99 RX1 yX1_carts wsX1_carts) := goodIn_app (goodIn_of _ (by decide +kernel)) ggX3_keep_X1_carts
theorem dX3_keep_0 : decode cX3_keep 0 = .ok (.aload_n 0, 1) := by decide +kernel
theorem dX3_keep_1 : decode cX3_keep 1 = .ok (.getfield 19, 3) := by decide +kernel
theorem dX3_keep_4 : decode cX3_keep 4 = .ok (.aload_n 0, 1) := by decide +kernel
theorem dX3_keep_5 : decode cX3_keep 5 = .ok (.getfield 10, 3) := by decide +kernel
theorem dX3_keep_8 : decode cX3_keep 8 = .ok (.invokevirtual 40, 3) := by decide +kernel
theorem dX3_keep_11 : decode cX3_keep 11 = .ok (.aload_n 0, 1) := by decide +kernel
theorem dX3_keep_12 : decode cX3_keep 12 = .ok (.iconst 1, 1) := by decide +kernel
theorem dX3_keep_13 : decode cX3_keep 13 = .ok (.putfield 22, 3) := by decide +kernel
theorem dX3_keep_16 : decode cX3_keep 16 = .ok (.aload_n 0, 1) := by decide +kernel
theorem dX3_keep_17 : decode cX3_keep 17 = .ok (.getfield 10, 3) := by decide +kernel
theorem dX3_keep_20 : decode cX3_keep 20 = .ok (.invokevirtual 99, 3) := by decide +kernel
theorem dX3_keep_23 : decode cX3_keep 23 = .ok (.ireturn, 1) := by decide +kernel
set_option maxRecDepth 20000 in
theorem ggX3_restore_X1_copyFrom : GoodIn wsX3_restore wsX1_copyFrom := goodIn_r _ [9, 10, 11, 12, 13, 14, 15, 16, 17, 18, 19, 20, 21, 22, 23, 24, 53, 54, 55, 56, 57, 58, 59, 60, 61, 62, 63] (by decide +kernel) (by decide +kernel)
set_option maxRecDepth 20000 in
theorem gX3_restore_X1_copyFrom : GoodIn wsX3_restore (wsV RX3 40 RX1 yX1_copyFrom wsX1_copyFrom) := goodIn_app (goodIn_of _ (by decide +kernel)) ggX3_restore_X1_copyFrom
set_option maxRecDepth 20000 in
theorem ggX3_restore_X1_carts : GoodIn wsX3_restore wsX1_carts := goodIn_r _ [28, 20, 53, 54, 55, 56, 57, 58, 59, 60, 61, 62, 63] (by decide +kernel) (by decide +kernel)
set_option maxRecDepth 20000 in
theorem gX3_restore_X1_carts : GoodIn wsX3_restore (wsV RX3 99 RX1 yX1_carts wsX1_carts) := goodIn_app (goodIn_of _ (by decide +kernel)) ggX3_restore_X1_carts
set_option maxRecDepth 20000 in
theorem ggX3_restore_X3_recorded : GoodIn wsX3_restore wsX3_recorded := goodIn_r _ [33, 34, 2, 35, 36, 37, 38, 39, 40, 41, 42, 43, 44, 45, 46, 6, 7, 8, 9, 10, 11, 12, 13, 14, 15, 16, 17, 18, 19, 20, 21, 22, 23, 24, 47, 48, 49, 50, 51, 52, 64, 65, 53, 54, 55, 56, 57, 58, 59, 60, 61, 62, 63] (by decide +kernel) (by decide +kernel)
set_option maxRecDepth 20000 in
theorem gX3_restore_X3_recorded : GoodIn wsX3_restore (wsV RX3 48 RX3 yX3_recorded wsX3_recorded) := goodIn_app (goodIn_of _ (by decide +kernel)) ggX3_restore_X3_recorded
theorem dX3_restore_0 : decode cX3_restore 0 = .ok (.aload_n 0, 1) := by decide +kernel
theorem dX3_restore_1 : decode cX3_restore 1 = .ok (.getfield 22, 3) := by decide +kernel
theorem dX3_restore_4 : decode cX3_restore 4 = .ok (.ifCond .ne 6, 3) := by decide +kernel
theorem dX3_restore_7 : decode cX3_restore 7 = .ok (.bipush (-5), 2) := by decide +kernel
theorem dX3_restore_9 : decode cX3_restore 9 = .ok (.ireturn, 1) := by decide +kernel
theorem dX3_restore_10 : decode cX3_restore 10 = .ok (.aload_n 0, 1) := by decide +kernel
theorem dX3_restore_11 : decode cX3_restore 11 = .ok (.getfield 16, 3) := by decide +kernel
theorem dX3_restore_14 : decode cX3_restore 14 = .ok (.aload_n 0, 1) := by decide +kernel
theorem dX3_restore_15 : decode cX3_restore 15 = .ok (.getfield 10, 3) := by decide +kernel
theorem dX3_restore_18 : decode cX3_restore 18 = .ok (.invokevirtual 40, 3) := by decide +kernel
theorem dX3_restore_21 : decode cX3_restore 21 = .ok (.aload_n 0, 1) := by decide +kernel
theorem dX3_restore_22 : decode cX3_restore 22 = .ok (.getfield 10, 3) := by decide +kernel
theorem dX3_restore_25 : decode cX3_restore 25 = .ok (.aload_n 0, 1) := by decide +kernel
theorem dX3_restore_26 : decode cX3_restore 26 = .ok (.getfield 19, 3) := by decide +kernel
theorem dX3_restore_29 : decode cX3_restore 29 = .ok (.invokevirtual 40, 3) := by decide +kernel
theorem dX3_restore_32 : decode cX3_restore 32 = .ok (.aload_n 0, 1) := by decide +kernel
theorem dX3_restore_33 : decode cX3_restore 33 = .ok (.aload_n 0, 1) := by decide +kernel
theorem dX3_restore_34 : decode cX3_restore 34 = .ok (.getfield 10, 3) := by decide +kernel
theorem dX3_restore_37 : decode cX3_restore 37 = .ok (.invokevirtual 99, 3) := by decide +kernel
theorem dX3_restore_40 : decode cX3_restore 40 = .ok (.invokevirtual 48, 3) := by decide +kernel
theorem dX3_restore_43 : decode cX3_restore 43 = .ok (.ireturn, 1) := by decide +kernel
set_option maxRecDepth 20000 in
theorem ggX3_cart_X1_tellOfCart : GoodIn wsX3_cart wsX1_tellOfCart := goodIn_r _ [6, 7, 8, 9, 10, 11, 12, 13, 14, 15, 16, 5, 17, 18, 19, 20, 21, 22, 23, 24, 25, 26, 27, 28, 29, 30, 31, 32, 33, 34, 35, 36, 37, 38, 39, 40, 41, 42, 43, 44, 45, 46, 47, 48, 49, 50, 51, 52, 53, 54, 55, 56, 57, 58, 59, 60, 61, 68, 69, 70, 71, 72, 73, 74, 75, 76, 77, 78] (by decide +kernel) (by decide +kernel)
set_option maxRecDepth 20000 in
theorem gX3_cart_X1_tellOfCart : GoodIn wsX3_cart (wsV RX3 102 RX1 yX1_tellOfCart wsX1_tellOfCart) := goodIn_app (goodIn_of _ (by decide +kernel)) ggX3_cart_X1_tellOfCart
theorem dX3_cart_0 : decode cX3_cart 0 = .ok (.aload_n 0, 1) := by decide +kernel
theorem dX3_cart_1 : decode cX3_cart 1 = .ok (.getfield 10, 3) := by decide +kernel
theorem dX3_cart_4 : decode cX3_cart 4 = .ok (.iload_n 1, 1) := by decide +kernel
theorem dX3_cart_5 : decode cX3_cart 5 = .ok (.iload_n 2, 1) := by decide +kernel
theorem dX3_cart_6 : decode cX3_cart 6 = .ok (.invokevirtual 102, 3) := by decide +kernel
theorem dX3_cart_9 : decode cX3_cart 9 = .ok (.ireturn, 1) := by decide +kernel
set_option maxRecDepth 20000 in
theorem ggX3_chain_X1_cartOfChain : GoodIn wsX3_chain wsX1_cartOfChain := goodIn_r _ [6, 7, 8, 9, 10, 5, 11, 12, 19, 20, 21, 22, 23, 24, 25, 26, 27, 28, 29] (by decide +kernel) (by decide +kernel)
set_option maxRecDepth 20000 in
theorem gX3_chain_X1_cartOfChain : GoodIn wsX3_chain (wsV RX3 105 RX1 yX1_cartOfChain wsX1_cartOfChain) := goodIn_app (goodIn_of _ (by decide +kernel)) ggX3_chain_X1_cartOfChain
theorem dX3_chain_0 : decode cX3_chain 0 = .ok (.aload_n 0, 1) := by decide +kernel
theorem dX3_chain_1 : decode cX3_chain 1 = .ok (.getfield 10, 3) := by decide +kernel
theorem dX3_chain_4 : decode cX3_chain 4 = .ok (.iload_n 1, 1) := by decide +kernel
theorem dX3_chain_5 : decode cX3_chain 5 = .ok (.iload_n 2, 1) := by decide +kernel
theorem dX3_chain_6 : decode cX3_chain 6 = .ok (.invokevirtual 105, 3) := by decide +kernel
theorem dX3_chain_9 : decode cX3_chain 9 = .ok (.ireturn, 1) := by decide +kernel
set_option maxRecDepth 20000 in
theorem ggX3_brokenIn_X1_firstBroken : GoodIn wsX3_brokenIn wsX1_firstBroken := goodIn_r _ [6, 7, 8, 9, 10, 5, 11, 12, 13, 14, 15, 16, 17, 18, 19, 20, 21, 22, 23, 30, 31, 32, 33, 34, 35, 36, 37, 38, 39, 40] (by decide +kernel) (by decide +kernel)
set_option maxRecDepth 20000 in
theorem gX3_brokenIn_X1_firstBroken : GoodIn wsX3_brokenIn (wsV RX3 108 RX1 yX1_firstBroken wsX1_firstBroken) := goodIn_app (goodIn_of _ (by decide +kernel)) ggX3_brokenIn_X1_firstBroken
theorem dX3_brokenIn_0 : decode cX3_brokenIn 0 = .ok (.aload_n 0, 1) := by decide +kernel
theorem dX3_brokenIn_1 : decode cX3_brokenIn 1 = .ok (.getfield 10, 3) := by decide +kernel
theorem dX3_brokenIn_4 : decode cX3_brokenIn 4 = .ok (.iload_n 1, 1) := by decide +kernel
theorem dX3_brokenIn_5 : decode cX3_brokenIn 5 = .ok (.invokevirtual 108, 3) := by decide +kernel
theorem dX3_brokenIn_8 : decode cX3_brokenIn 8 = .ok (.ireturn, 1) := by decide +kernel
set_option maxRecDepth 20000 in
theorem ggX3_total_X0_states : GoodIn wsX3_total wsX0_states := goodIn_r _ [8, 9, 95, 96] (by decide +kernel) (by decide +kernel)
set_option maxRecDepth 20000 in
theorem gX3_total_X0_states : GoodIn wsX3_total (wsV RX3 111 RX0 yX0_states wsX0_states) := goodIn_app (goodIn_of _ (by decide +kernel)) ggX3_total_X0_states
set_option maxRecDepth 20000 in
theorem ggX3_total_X2_length : GoodIn wsX3_total wsX2_length := goodIn_r _ [14, 15, 97, 98, 99, 100, 101, 102, 103] (by decide +kernel) (by decide +kernel)
set_option maxRecDepth 20000 in
theorem gX3_total_X2_length : GoodIn wsX3_total (wsV RX3 114 RX2 yX2_length wsX2_length) := goodIn_app (goodIn_of _ (by decide +kernel)) ggX3_total_X2_length
set_option maxRecDepth 20000 in
theorem ggX3_total_X1_tellOfAll : GoodIn wsX3_total wsX1_tellOfAll := goodIn_r _ [20, 21, 22, 23, 24, 25, 26, 27, 28, 29, 30, 31, 32, 33, 34, 35, 36, 19, 37, 38, 39, 40, 41, 42, 43, 44, 45, 46, 47, 48, 49, 50, 51, 52, 53, 54, 55, 56, 57, 58, 59, 60, 61, 62, 63, 64, 65, 66, 67, 68, 69, 70, 71, 72, 73, 74, 75, 76, 77, 78, 79, 80, 81, 82, 83, 84, 85, 86, 87, 88, 104, 105, 106, 107, 108, 109, 110, 111, 112, 113, 114] (by decide +kernel) (by decide +kernel)
set_option maxRecDepth 20000 in
theorem gX3_total_X1_tellOfAll : GoodIn wsX3_total (wsV RX3 117 RX1 yX1_tellOfAll wsX1_tellOfAll) := goodIn_app (goodIn_of _ (by decide +kernel)) ggX3_total_X1_tellOfAll
theorem dX3_total_0 : decode cX3_total 0 = .ok (.iload_n 1, 1) := by decide +kernel
theorem dX3_total_1 : decode cX3_total 1 = .ok (.bipush 15, 2) := by decide +kernel
theorem dX3_total_3 : decode cX3_total 3 = .ok (.if_icmp .ne 11, 3) := by decide +kernel
theorem dX3_total_6 : decode cX3_total 6 = .ok (.aload_n 0, 1) := by decide +kernel
theorem dX3_total_7 : decode cX3_total 7 = .ok (.getfield 29, 3) := by decide +kernel
theorem dX3_total_10 : decode cX3_total 10 = .ok (.invokevirtual 111, 3) := by decide +kernel
theorem dX3_total_13 : decode cX3_total 13 = .ok (.ireturn, 1) := by decide +kernel
theorem dX3_total_14 : decode cX3_total 14 = .ok (.iload_n 1, 1) := by decide +kernel
theorem dX3_total_15 : decode cX3_total 15 = .ok (.bipush 16, 2) := by decide +kernel
theorem dX3_total_17 : decode cX3_total 17 = .ok (.if_icmp .ne 11, 3) := by decide +kernel
theorem dX3_total_20 : decode cX3_total 20 = .ok (.aload_n 0, 1) := by decide +kernel
theorem dX3_total_21 : decode cX3_total 21 = .ok (.getfield 36, 3) := by decide +kernel
theorem dX3_total_24 : decode cX3_total 24 = .ok (.invokevirtual 114, 3) := by decide +kernel
theorem dX3_total_27 : decode cX3_total 27 = .ok (.ireturn, 1) := by decide +kernel
theorem dX3_total_28 : decode cX3_total 28 = .ok (.aload_n 0, 1) := by decide +kernel
theorem dX3_total_29 : decode cX3_total 29 = .ok (.getfield 10, 3) := by decide +kernel
theorem dX3_total_32 : decode cX3_total 32 = .ok (.iload_n 1, 1) := by decide +kernel
theorem dX3_total_33 : decode cX3_total 33 = .ok (.invokevirtual 117, 3) := by decide +kernel
theorem dX3_total_36 : decode cX3_total 36 = .ok (.ireturn, 1) := by decide +kernel
set_option maxRecDepth 20000 in
theorem ggX3_ifOpened_X1_foretell : GoodIn wsX3_ifOpened wsX1_foretell := goodIn_r _ [6, 7, 8, 9, 10, 11, 5, 12, 13, 14, 15, 16, 17, 18, 19, 20, 21, 22, 23, 24, 25, 26, 27, 28, 29, 30, 31, 32, 33, 34, 35, 36, 37, 38, 39, 40, 41, 42, 43, 44, 45, 46, 47, 48, 49, 50, 51, 52, 53, 54, 55, 56, 57, 58, 59, 60, 61, 62, 63, 70, 71, 72, 73, 74, 75, 76, 77, 78, 79, 80] (by decide +kernel) (by decide +kernel)
set_option maxRecDepth 20000 in
theorem gX3_ifOpened_X1_foretell : GoodIn wsX3_ifOpened (wsV RX3 120 RX1 yX1_foretell wsX1_foretell) := goodIn_app (goodIn_of _ (by decide +kernel)) ggX3_ifOpened_X1_foretell
theorem dX3_ifOpened_0 : decode cX3_ifOpened 0 = .ok (.aload_n 0, 1) := by decide +kernel
theorem dX3_ifOpened_1 : decode cX3_ifOpened 1 = .ok (.getfield 10, 3) := by decide +kernel
theorem dX3_ifOpened_4 : decode cX3_ifOpened 4 = .ok (.iload_n 1, 1) := by decide +kernel
theorem dX3_ifOpened_5 : decode cX3_ifOpened 5 = .ok (.iload_n 2, 1) := by decide +kernel
theorem dX3_ifOpened_6 : decode cX3_ifOpened 6 = .ok (.invokevirtual 120, 3) := by decide +kernel
theorem dX3_ifOpened_9 : decode cX3_ifOpened 9 = .ok (.ireturn, 1) := by decide +kernel
set_option maxRecDepth 20000 in
theorem ggX3_fewestOpenings_X1_countEnds : GoodIn wsX3_fewestOpenings wsX1_countEnds := goodIn_r _ [6, 7, 8, 9, 10, 5, 11, 12, 13, 14, 15, 16, 17, 18, 19, 20, 21, 22, 23, 24, 25, 26, 27, 28, 29, 30, 31, 32, 33, 34, 35, 36, 37, 38, 39, 40, 41, 42, 43, 44, 45, 46, 47, 48, 49, 50, 61, 62, 63, 64, 65, 66, 67, 68, 69, 70, 71] (by decide +kernel) (by decide +kernel)
set_option maxRecDepth 20000 in
theorem gX3_fewestOpenings_X1_countEnds : GoodIn wsX3_fewestOpenings (wsV RX3 123 RX1 yX1_countEnds wsX1_countEnds) := goodIn_app (goodIn_of _ (by decide +kernel)) ggX3_fewestOpenings_X1_countEnds
set_option maxRecDepth 20000 in
theorem ggX3_fewestOpenings_X1_countHonestOpenings : GoodIn wsX3_fewestOpenings wsX1_countHonestOpenings := goodIn_r _ [54, 7, 8, 9, 10, 5, 11, 12, 13, 14, 15, 16, 17, 18, 19, 20, 21, 22, 23, 24, 25, 26, 27, 28, 29, 30, 31, 32, 33, 34, 35, 36, 37, 38, 39, 40, 41, 42, 43, 61, 62, 63, 64, 65, 66, 67, 68, 69, 70, 71] (by decide +kernel) (by decide +kernel)
set_option maxRecDepth 20000 in
theorem gX3_fewestOpenings_X1_countHonestOpenings : GoodIn wsX3_fewestOpenings (wsV RX3 126 RX1 yX1_countHonestOpenings wsX1_countHonestOpenings) := goodIn_app (goodIn_of _ (by decide +kernel)) ggX3_fewestOpenings_X1_countHonestOpenings
theorem dX3_fewestOpenings_0 : decode cX3_fewestOpenings 0 = .ok (.iload_n 1, 1) := by decide +kernel
theorem dX3_fewestOpenings_1 : decode cX3_fewestOpenings 1 = .ok (.ifCond .ne 11, 3) := by decide +kernel
theorem dX3_fewestOpenings_4 : decode cX3_fewestOpenings 4 = .ok (.aload_n 0, 1) := by decide +kernel
theorem dX3_fewestOpenings_5 : decode cX3_fewestOpenings 5 = .ok (.getfield 10, 3) := by decide +kernel
theorem dX3_fewestOpenings_8 : decode cX3_fewestOpenings 8 = .ok (.invokevirtual 123, 3) := by decide +kernel
theorem dX3_fewestOpenings_11 : decode cX3_fewestOpenings 11 = .ok (.ireturn, 1) := by decide +kernel
theorem dX3_fewestOpenings_12 : decode cX3_fewestOpenings 12 = .ok (.iload_n 1, 1) := by decide +kernel
theorem dX3_fewestOpenings_13 : decode cX3_fewestOpenings 13 = .ok (.iconst 1, 1) := by decide +kernel
theorem dX3_fewestOpenings_14 : decode cX3_fewestOpenings 14 = .ok (.if_icmp .ne 11, 3) := by decide +kernel
theorem dX3_fewestOpenings_17 : decode cX3_fewestOpenings 17 = .ok (.aload_n 0, 1) := by decide +kernel
theorem dX3_fewestOpenings_18 : decode cX3_fewestOpenings 18 = .ok (.getfield 10, 3) := by decide +kernel
theorem dX3_fewestOpenings_21 : decode cX3_fewestOpenings 21 = .ok (.invokevirtual 126, 3) := by decide +kernel
theorem dX3_fewestOpenings_24 : decode cX3_fewestOpenings 24 = .ok (.ireturn, 1) := by decide +kernel
theorem dX3_fewestOpenings_25 : decode cX3_fewestOpenings 25 = .ok (.bipush (-2), 2) := by decide +kernel
theorem dX3_fewestOpenings_27 : decode cX3_fewestOpenings 27 = .ok (.ireturn, 1) := by decide +kernel
set_option maxRecDepth 20000 in
theorem ggX3_bestOpening_X1_mostClearing : GoodIn wsX3_bestOpening wsX1_mostClearing := goodIn_r _ [6, 7, 8, 9, 10, 11, 5, 12, 13, 14, 15, 16, 17, 18, 19, 20, 21, 22, 23, 24, 25, 26, 27, 28, 29, 30, 31, 32, 33, 34, 35, 36, 37, 38, 39, 40, 41, 42, 43, 44, 45, 46, 47, 54, 55, 56, 57, 58, 59, 60, 61, 62, 63, 64] (by decide +kernel) (by decide +kernel)
set_option maxRecDepth 20000 in
theorem gX3_bestOpening_X1_mostClearing : GoodIn wsX3_bestOpening (wsV RX3 129 RX1 yX1_mostClearing wsX1_mostClearing) := goodIn_app (goodIn_of _ (by decide +kernel)) ggX3_bestOpening_X1_mostClearing
theorem dX3_bestOpening_0 : decode cX3_bestOpening 0 = .ok (.aload_n 0, 1) := by decide +kernel
theorem dX3_bestOpening_1 : decode cX3_bestOpening 1 = .ok (.getfield 10, 3) := by decide +kernel
theorem dX3_bestOpening_4 : decode cX3_bestOpening 4 = .ok (.invokevirtual 129, 3) := by decide +kernel
theorem dX3_bestOpening_7 : decode cX3_bestOpening 7 = .ok (.ireturn, 1) := by decide +kernel
set_option maxRecDepth 20000 in
theorem ggX3_sameSeal_X1_otherClaimForSeal : GoodIn wsX3_sameSeal wsX1_otherClaimForSeal := goodIn_r _ [6, 7, 8, 9, 10, 5, 11, 12, 13, 14, 15, 16, 17, 18, 19, 20, 21, 22, 23, 30, 31, 32, 33, 34, 35, 36, 37, 38, 39, 40] (by decide +kernel) (by decide +kernel)
set_option maxRecDepth 20000 in
theorem gX3_sameSeal_X1_otherClaimForSeal : GoodIn wsX3_sameSeal (wsV RX3 132 RX1 yX1_otherClaimForSeal wsX1_otherClaimForSeal) := goodIn_app (goodIn_of _ (by decide +kernel)) ggX3_sameSeal_X1_otherClaimForSeal
theorem dX3_sameSeal_0 : decode cX3_sameSeal 0 = .ok (.aload_n 0, 1) := by decide +kernel
theorem dX3_sameSeal_1 : decode cX3_sameSeal 1 = .ok (.getfield 10, 3) := by decide +kernel
theorem dX3_sameSeal_4 : decode cX3_sameSeal 4 = .ok (.iload_n 1, 1) := by decide +kernel
theorem dX3_sameSeal_5 : decode cX3_sameSeal 5 = .ok (.invokevirtual 132, 3) := by decide +kernel
theorem dX3_sameSeal_8 : decode cX3_sameSeal 8 = .ok (.ireturn, 1) := by decide +kernel
set_option maxRecDepth 20000 in
theorem ggX3_recorded_X0_add : GoodIn wsX3_recorded wsX0_add := goodIn_r _ [7, 8, 9, 10, 11, 12, 6, 13, 14, 15, 16, 17, 18, 19, 20, 21, 22, 23, 24, 25, 26, 27, 28, 29, 30, 31, 32, 33, 40, 41, 42, 43, 44, 45, 46, 47, 48, 49, 50, 51, 52] (by decide +kernel) (by decide +kernel)
set_option maxRecDepth 20000 in
theorem gX3_recorded_X0_add : GoodIn wsX3_recorded (wsV RX3 135 RX0 yX0_add wsX0_add) := goodIn_app (goodIn_of _ (by decide +kernel)) ggX3_recorded_X0_add
theorem dX3_recorded_0 : decode cX3_recorded 0 = .ok (.iload_n 1, 1) := by decide +kernel
theorem dX3_recorded_1 : decode cX3_recorded 1 = .ok (.ifCond .lt 14, 3) := by decide +kernel
theorem dX3_recorded_4 : decode cX3_recorded 4 = .ok (.aload_n 0, 1) := by decide +kernel
theorem dX3_recorded_5 : decode cX3_recorded 5 = .ok (.getfield 29, 3) := by decide +kernel
theorem dX3_recorded_8 : decode cX3_recorded 8 = .ok (.aload_n 0, 1) := by decide +kernel
theorem dX3_recorded_9 : decode cX3_recorded 9 = .ok (.getfield 16, 3) := by decide +kernel
theorem dX3_recorded_12 : decode cX3_recorded 12 = .ok (.invokevirtual 135, 3) := by decide +kernel
theorem dX3_recorded_15 : decode cX3_recorded 15 = .ok (.iload_n 1, 1) := by decide +kernel
theorem dX3_recorded_16 : decode cX3_recorded 16 = .ok (.ireturn, 1) := by decide +kernel
theorem dX3_isError_0 : decode cX3_isError 0 = .ok (.iload_n 0, 1) := by decide +kernel
theorem dX3_isError_1 : decode cX3_isError 1 = .ok (.ifCond .ge 13, 3) := by decide +kernel
theorem dX3_isError_4 : decode cX3_isError 4 = .ok (.iload_n 0, 1) := by decide +kernel
theorem dX3_isError_5 : decode cX3_isError 5 = .ok (.bipush (-5), 2) := by decide +kernel
theorem dX3_isError_7 : decode cX3_isError 7 = .ok (.if_icmp .eq 7, 3) := by decide +kernel
theorem dX3_isError_10 : decode cX3_isError 10 = .ok (.iconst 1, 1) := by decide +kernel
theorem dX3_isError_11 : decode cX3_isError 11 = .ok (.goto 4, 3) := by decide +kernel
theorem dX3_isError_14 : decode cX3_isError 14 = .ok (.iconst 0, 1) := by decide +kernel
theorem dX3_isError_15 : decode cX3_isError 15 = .ok (.ireturn, 1) := by decide +kernel
set_option maxRecDepth 20000 in
theorem ggX3_carryOutOrder_X2_kind : GoodIn wsX3_carryOutOrder wsX2_kind := goodIn_r _ [7, 8, 118, 119, 120, 121, 122, 123, 124] (by decide +kernel) (by decide +kernel)
set_option maxRecDepth 20000 in
theorem gX3_carryOutOrder_X2_kind : GoodIn wsX3_carryOutOrder (wsV RX3 138 RX2 yX2_kind wsX2_kind) := goodIn_app (goodIn_of _ (by decide +kernel)) ggX3_carryOutOrder_X2_kind
set_option maxRecDepth 20000 in
theorem ggX3_carryOutOrder_X2_claim : GoodIn wsX3_carryOutOrder wsX2_claim := goodIn_r _ [12, 13, 118, 119, 120, 121, 122, 123, 124] (by decide +kernel) (by decide +kernel)
set_option maxRecDepth 20000 in
theorem gX3_carryOutOrder_X2_claim : GoodIn wsX3_carryOutOrder (wsV RX3 142 RX2 yX2_claim wsX2_claim) := goodIn_app (goodIn_of _ (by decide +kernel)) ggX3_carryOutOrder_X2_claim
set_option maxRecDepth 20000 in
theorem ggX3_carryOutOrder_X2_load : GoodIn wsX3_carryOutOrder wsX2_load := goodIn_r _ [17, 18, 118, 119, 120, 121, 122, 123, 124] (by decide +kernel) (by decide +kernel)
set_option maxRecDepth 20000 in
theorem gX3_carryOutOrder_X2_load : GoodIn wsX3_carryOutOrder (wsV RX3 145 RX2 yX2_load wsX2_load) := goodIn_app (goodIn_of _ (by decide +kernel)) ggX3_carryOutOrder_X2_load
set_option maxRecDepth 20000 in
theorem ggX3_carryOutOrder_X2_cartNumber : GoodIn wsX3_carryOutOrder wsX2_cartNumber := goodIn_r _ [22, 23, 118, 119, 120, 121, 122, 123, 124] (by decide +kernel) (by decide +kernel)
set_option maxRecDepth 20000 in
theorem gX3_carryOutOrder_X2_cartNumber : GoodIn wsX3_carryOutOrder (wsV RX3 148 RX2 yX2_cartNumber wsX2_cartNumber) := goodIn_app (goodIn_of _ (by decide +kernel)) ggX3_carryOutOrder_X2_cartNumber
set_option maxRecDepth 20000 in
theorem ggX3_carryOutOrder_X1_admit : GoodIn wsX3_carryOutOrder wsX1_admit := goodIn_r _ [28, 29, 30, 31, 32, 33, 34, 35, 36, 37, 38, 27, 39, 40, 41, 42, 43, 44, 45, 46, 47, 48, 49, 50, 51, 125, 126, 127, 128, 129, 130, 131, 132, 133, 134, 135] (by decide +kernel) (by decide +kernel)
set_option maxRecDepth 20000 in
theorem gX3_carryOutOrder_X1_admit : GoodIn wsX3_carryOutOrder (wsV RX3 44 RX1 yX1_admit wsX1_admit) := goodIn_app (goodIn_of _ (by decide +kernel)) ggX3_carryOutOrder_X1_admit
set_option maxRecDepth 20000 in
theorem ggX3_carryOutOrder_X1_inspect : GoodIn wsX3_carryOutOrder wsX1_inspect := goodIn_r _ [55, 56, 33, 31, 57, 36, 37, 38, 27, 39, 29, 58, 59, 60, 61, 62, 63, 64, 65, 66, 67, 51, 30, 68, 69, 70, 71, 72, 73, 74, 75, 34, 47, 48, 49, 50, 32, 76, 77, 78, 79, 80, 81, 82, 83, 84, 85, 86, 87, 88, 89, 90, 91, 92, 93, 94, 95, 96, 97, 98, 99, 100, 101, 102, 103, 125, 126, 127, 128, 129, 130, 131, 132, 133, 134, 135] (by decide +kernel) (by decide +kernel)
set_option maxRecDepth 20000 in
theorem gX3_carryOutOrder_X1_inspect : GoodIn wsX3_carryOutOrder (wsV RX3 59 RX1 yX1_inspect wsX1_inspect) := goodIn_app (goodIn_of _ (by decide +kernel)) ggX3_carryOutOrder_X1_inspect
set_option maxRecDepth 20000 in
theorem ggX3_carryOutOrder_X1_changeClaim : GoodIn wsX3_carryOutOrder wsX1_changeClaim := goodIn_r _ [107, 56, 30, 36, 37, 38, 27, 39, 29, 40, 41, 42, 58, 59, 60, 61, 62, 63, 125, 126, 127, 128, 129, 130, 131, 132, 133, 134, 135] (by decide +kernel) (by decide +kernel)
set_option maxRecDepth 20000 in
theorem gX3_carryOutOrder_X1_changeClaim : GoodIn wsX3_carryOutOrder (wsV RX3 52 RX1 yX1_changeClaim wsX1_changeClaim) := goodIn_app (goodIn_of _ (by decide +kernel)) ggX3_carryOutOrder_X1_changeClaim
set_option maxRecDepth 20000 in
theorem ggX3_carryOutOrder_X1_mendSeal : GoodIn wsX3_carryOutOrder wsX1_mendSeal := goodIn_r _ [111, 34, 36, 37, 38, 27, 39, 29, 72, 73, 74, 75, 30, 47, 48, 49, 50, 51, 32, 43, 44, 45, 46, 125, 126, 127, 128, 129, 130, 131, 132, 133, 134, 135] (by decide +kernel) (by decide +kernel)
set_option maxRecDepth 20000 in
theorem gX3_carryOutOrder_X1_mendSeal : GoodIn wsX3_carryOutOrder (wsV RX3 56 RX1 yX1_mendSeal wsX1_mendSeal) := goodIn_app (goodIn_of _ (by decide +kernel)) ggX3_carryOutOrder_X1_mendSeal
theorem dX3_carryOutOrder_0 : decode cX3_carryOutOrder 0 = .ok (.aload_n 0, 1) := by decide +kernel
theorem dX3_carryOutOrder_1 : decode cX3_carryOutOrder 1 = .ok (.getfield 36, 3) := by decide +kernel
theorem dX3_carryOutOrder_4 : decode cX3_carryOutOrder 4 = .ok (.invokevirtual 138, 3) := by decide +kernel
theorem dX3_carryOutOrder_7 : decode cX3_carryOutOrder 7 = .ok (.istore_n 1, 1) := by decide +kernel
theorem dX3_carryOutOrder_8 : decode cX3_carryOutOrder 8 = .ok (.iload_n 1, 1) := by decide +kernel
theorem dX3_carryOutOrder_9 : decode cX3_carryOutOrder 9 = .ok (.bipush 99, 2) := by decide +kernel
theorem dX3_carryOutOrder_11 : decode cX3_carryOutOrder 11 = .ok (.if_icmp .ne 32, 3) := by decide +kernel
theorem dX3_carryOutOrder_14 : decode cX3_carryOutOrder 14 = .ok (.aload_n 0, 1) := by decide +kernel
theorem dX3_carryOutOrder_15 : decode cX3_carryOutOrder 15 = .ok (.getfield 10, 3) := by decide +kernel
theorem dX3_carryOutOrder_18 : decode cX3_carryOutOrder 18 = .ok (.aload_n 0, 1) := by decide +kernel
theorem dX3_carryOutOrder_19 : decode cX3_carryOutOrder 19 = .ok (.getfield 36, 3) := by decide +kernel
theorem dX3_carryOutOrder_22 : decode cX3_carryOutOrder 22 = .ok (.invokevirtual 142, 3) := by decide +kernel
theorem dX3_carryOutOrder_25 : decode cX3_carryOutOrder 25 = .ok (.aload_n 0, 1) := by decide +kernel
theorem dX3_carryOutOrder_26 : decode cX3_carryOutOrder 26 = .ok (.getfield 36, 3) := by decide +kernel
theorem dX3_carryOutOrder_29 : decode cX3_carryOutOrder 29 = .ok (.invokevirtual 145, 3) := by decide +kernel
theorem dX3_carryOutOrder_32 : decode cX3_carryOutOrder 32 = .ok (.aload_n 0, 1) := by decide +kernel
theorem dX3_carryOutOrder_33 : decode cX3_carryOutOrder 33 = .ok (.getfield 36, 3) := by decide +kernel
theorem dX3_carryOutOrder_36 : decode cX3_carryOutOrder 36 = .ok (.invokevirtual 148, 3) := by decide +kernel
theorem dX3_carryOutOrder_39 : decode cX3_carryOutOrder 39 = .ok (.invokevirtual 44, 3) := by decide +kernel
theorem dX3_carryOutOrder_42 : decode cX3_carryOutOrder 42 = .ok (.ireturn, 1) := by decide +kernel
theorem dX3_carryOutOrder_43 : decode cX3_carryOutOrder 43 = .ok (.iload_n 1, 1) := by decide +kernel
theorem dX3_carryOutOrder_44 : decode cX3_carryOutOrder 44 = .ok (.bipush 111, 2) := by decide +kernel
theorem dX3_carryOutOrder_46 : decode cX3_carryOutOrder 46 = .ok (.if_icmp .ne 18, 3) := by decide +kernel
theorem dX3_carryOutOrder_49 : decode cX3_carryOutOrder 49 = .ok (.aload_n 0, 1) := by decide +kernel
theorem dX3_carryOutOrder_50 : decode cX3_carryOutOrder 50 = .ok (.getfield 10, 3) := by decide +kernel
theorem dX3_carryOutOrder_53 : decode cX3_carryOutOrder 53 = .ok (.aload_n 0, 1) := by decide +kernel
theorem dX3_carryOutOrder_54 : decode cX3_carryOutOrder 54 = .ok (.getfield 36, 3) := by decide +kernel
theorem dX3_carryOutOrder_57 : decode cX3_carryOutOrder 57 = .ok (.invokevirtual 148, 3) := by decide +kernel
theorem dX3_carryOutOrder_60 : decode cX3_carryOutOrder 60 = .ok (.invokevirtual 59, 3) := by decide +kernel
theorem dX3_carryOutOrder_63 : decode cX3_carryOutOrder 63 = .ok (.ireturn, 1) := by decide +kernel
theorem dX3_carryOutOrder_64 : decode cX3_carryOutOrder 64 = .ok (.iload_n 1, 1) := by decide +kernel
theorem dX3_carryOutOrder_65 : decode cX3_carryOutOrder 65 = .ok (.bipush 120, 2) := by decide +kernel
theorem dX3_carryOutOrder_67 : decode cX3_carryOutOrder 67 = .ok (.if_icmp .ne 25, 3) := by decide +kernel
theorem dX3_carryOutOrder_70 : decode cX3_carryOutOrder 70 = .ok (.aload_n 0, 1) := by decide +kernel
theorem dX3_carryOutOrder_71 : decode cX3_carryOutOrder 71 = .ok (.getfield 10, 3) := by decide +kernel
theorem dX3_carryOutOrder_74 : decode cX3_carryOutOrder 74 = .ok (.aload_n 0, 1) := by decide +kernel
theorem dX3_carryOutOrder_75 : decode cX3_carryOutOrder 75 = .ok (.getfield 36, 3) := by decide +kernel
theorem dX3_carryOutOrder_78 : decode cX3_carryOutOrder 78 = .ok (.invokevirtual 148, 3) := by decide +kernel
theorem dX3_carryOutOrder_81 : decode cX3_carryOutOrder 81 = .ok (.aload_n 0, 1) := by decide +kernel
theorem dX3_carryOutOrder_82 : decode cX3_carryOutOrder 82 = .ok (.getfield 36, 3) := by decide +kernel
theorem dX3_carryOutOrder_85 : decode cX3_carryOutOrder 85 = .ok (.invokevirtual 142, 3) := by decide +kernel
theorem dX3_carryOutOrder_88 : decode cX3_carryOutOrder 88 = .ok (.invokevirtual 52, 3) := by decide +kernel
theorem dX3_carryOutOrder_91 : decode cX3_carryOutOrder 91 = .ok (.ireturn, 1) := by decide +kernel
theorem dX3_carryOutOrder_92 : decode cX3_carryOutOrder 92 = .ok (.aload_n 0, 1) := by decide +kernel
theorem dX3_carryOutOrder_93 : decode cX3_carryOutOrder 93 = .ok (.getfield 10, 3) := by decide +kernel
theorem dX3_carryOutOrder_96 : decode cX3_carryOutOrder 96 = .ok (.aload_n 0, 1) := by decide +kernel
theorem dX3_carryOutOrder_97 : decode cX3_carryOutOrder 97 = .ok (.getfield 36, 3) := by decide +kernel
theorem dX3_carryOutOrder_100 : decode cX3_carryOutOrder 100 = .ok (.invokevirtual 148, 3) := by decide +kernel
theorem dX3_carryOutOrder_103 : decode cX3_carryOutOrder 103 = .ok (.invokevirtual 56, 3) := by decide +kernel
theorem dX3_carryOutOrder_106 : decode cX3_carryOutOrder 106 = .ok (.ireturn, 1) := by decide +kernel
