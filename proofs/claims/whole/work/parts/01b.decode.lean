set_option maxRecDepth 20000 in
theorem ggX1_init_X6_init : GoodIn wsX1_init wsX6_init := goodIn_r _ [11, 12, 2, 3, 13, 14, 15, 16, 17, 18, 19, 20] (by decide +kernel) (by decide +kernel)
set_option maxRecDepth 20000 in
theorem gX1_init_X6_init : GoodIn wsX1_init (wsX6_init) := ggX1_init_X6_init
theorem dX1_init_0 : decode cX1_init 0 = .ok (.aload_n 0, 1) := by decide +kernel
theorem dX1_init_1 : decode cX1_init 1 = .ok (.invokespecial 3, 3) := by decide +kernel
theorem dX1_init_4 : decode cX1_init 4 = .ok (.aload_n 0, 1) := by decide +kernel
theorem dX1_init_5 : decode cX1_init 5 = .ok (.new 9, 3) := by decide +kernel
theorem dX1_init_8 : decode cX1_init 8 = .ok (.dup, 1) := by decide +kernel
theorem dX1_init_9 : decode cX1_init 9 = .ok (.bipush 8, 2) := by decide +kernel
theorem dX1_init_11 : decode cX1_init 11 = .ok (.invokespecial 11, 3) := by decide +kernel
theorem dX1_init_14 : decode cX1_init 14 = .ok (.putfield 14, 3) := by decide +kernel
theorem dX1_init_17 : decode cX1_init 17 = .ok (.aload_n 0, 1) := by decide +kernel
theorem dX1_init_18 : decode cX1_init 18 = .ok (.new 9, 3) := by decide +kernel
theorem dX1_init_21 : decode cX1_init 21 = .ok (.dup, 1) := by decide +kernel
theorem dX1_init_22 : decode cX1_init 22 = .ok (.bipush 6, 2) := by decide +kernel
theorem dX1_init_24 : decode cX1_init 24 = .ok (.invokespecial 11, 3) := by decide +kernel
theorem dX1_init_27 : decode cX1_init 27 = .ok (.putfield 20, 3) := by decide +kernel
theorem dX1_init_30 : decode cX1_init 30 = .ok (.return_, 1) := by decide +kernel
theorem dX1_end_0 : decode cX1_end 0 = .ok (.aload_n 0, 1) := by decide +kernel
theorem dX1_end_1 : decode cX1_end 1 = .ok (.getfield 23, 3) := by decide +kernel
theorem dX1_end_4 : decode cX1_end 4 = .ok (.ireturn, 1) := by decide +kernel
set_option maxRecDepth 20000 in
theorem ggX1_register_X6_get : GoodIn wsX1_register wsX6_get := goodIn_r _ [6, 7, 8, 12, 13] (by decide +kernel) (by decide +kernel)
set_option maxRecDepth 20000 in
theorem gX1_register_X6_get : GoodIn wsX1_register (wsV RX1 27 RX6 yX6_get wsX6_get) := goodIn_app (goodIn_of _ (by decide +kernel)) ggX1_register_X6_get
theorem dX1_register_0 : decode cX1_register 0 = .ok (.aload_n 0, 1) := by decide +kernel
theorem dX1_register_1 : decode cX1_register 1 = .ok (.getfield 14, 3) := by decide +kernel
theorem dX1_register_4 : decode cX1_register 4 = .ok (.iconst 0, 1) := by decide +kernel
theorem dX1_register_5 : decode cX1_register 5 = .ok (.invokevirtual 27, 3) := by decide +kernel
theorem dX1_register_8 : decode cX1_register 8 = .ok (.ireturn, 1) := by decide +kernel
set_option maxRecDepth 20000 in
theorem ggX1_sort_X6_get : GoodIn wsX1_sort wsX6_get := goodIn_r _ [6, 7, 8, 12, 13] (by decide +kernel) (by decide +kernel)
set_option maxRecDepth 20000 in
theorem gX1_sort_X6_get : GoodIn wsX1_sort (wsV RX1 27 RX6 yX6_get wsX6_get) := goodIn_app (goodIn_of _ (by decide +kernel)) ggX1_sort_X6_get
theorem dX1_sort_0 : decode cX1_sort 0 = .ok (.aload_n 0, 1) := by decide +kernel
theorem dX1_sort_1 : decode cX1_sort 1 = .ok (.getfield 14, 3) := by decide +kernel
theorem dX1_sort_4 : decode cX1_sort 4 = .ok (.iconst 1, 1) := by decide +kernel
theorem dX1_sort_5 : decode cX1_sort 5 = .ok (.invokevirtual 27, 3) := by decide +kernel
theorem dX1_sort_8 : decode cX1_sort 8 = .ok (.istore_n 1, 1) := by decide +kernel
theorem dX1_sort_9 : decode cX1_sort 9 = .ok (.iload_n 1, 1) := by decide +kernel
theorem dX1_sort_10 : decode cX1_sort 10 = .ok (.ifCond .lt 19, 3) := by decide +kernel
theorem dX1_sort_13 : decode cX1_sort 13 = .ok (.iload_n 1, 1) := by decide +kernel
theorem dX1_sort_14 : decode cX1_sort 14 = .ok (.getstatic 31, 3) := by decide +kernel
theorem dX1_sort_17 : decode cX1_sort 17 = .ok (.arraylength, 1) := by decide +kernel
theorem dX1_sort_18 : decode cX1_sort 18 = .ok (.if_icmp .ge 11, 3) := by decide +kernel
theorem dX1_sort_21 : decode cX1_sort 21 = .ok (.getstatic 31, 3) := by decide +kernel
theorem dX1_sort_24 : decode cX1_sort 24 = .ok (.iload_n 1, 1) := by decide +kernel
theorem dX1_sort_25 : decode cX1_sort 25 = .ok (.aaload, 1) := by decide +kernel
theorem dX1_sort_26 : decode cX1_sort 26 = .ok (.goto 4, 3) := by decide +kernel
theorem dX1_sort_29 : decode cX1_sort 29 = .ok (.aconst_null, 1) := by decide +kernel
theorem dX1_sort_30 : decode cX1_sort 30 = .ok (.areturn, 1) := by decide +kernel
set_option maxRecDepth 20000 in
theorem ggX1_standsAt_X1_readsNumbers : GoodIn wsX1_standsAt wsX1_readsNumbers := goodIn_r _ [7, 2, 8, 9, 10, 11, 12, 13, 14, 15, 16, 17, 18, 19, 20, 21, 22, 23, 24, 25, 26, 27, 48, 49, 50, 51, 52] (by decide +kernel) (by decide +kernel)
set_option maxRecDepth 20000 in
theorem gX1_standsAt_X1_readsNumbers : GoodIn wsX1_standsAt (wsV RX1 35 RX1 yX1_readsNumbers wsX1_readsNumbers) := goodIn_app (goodIn_of _ (by decide +kernel)) ggX1_standsAt_X1_readsNumbers
set_option maxRecDepth 20000 in
theorem ggX1_standsAt_X1_register : GoodIn wsX1_standsAt wsX1_register := goodIn_r _ [31, 2, 15, 16, 17, 12, 18, 14, 19, 48, 49, 50, 51, 52] (by decide +kernel) (by decide +kernel)
set_option maxRecDepth 20000 in
theorem gX1_standsAt_X1_register : GoodIn wsX1_standsAt (wsV RX1 39 RX1 yX1_register wsX1_register) := goodIn_app (goodIn_of _ (by decide +kernel)) ggX1_standsAt_X1_register
set_option maxRecDepth 20000 in
theorem ggX1_standsAt_X6_clear : GoodIn wsX1_standsAt wsX6_clear := goodIn_r _ [13, 14, 51, 52] (by decide +kernel) (by decide +kernel)
set_option maxRecDepth 20000 in
theorem gX1_standsAt_X6_clear : GoodIn wsX1_standsAt (wsV RX1 43 RX6 yX6_clear wsX6_clear) := goodIn_app (goodIn_of _ (by decide +kernel)) ggX1_standsAt_X6_clear
set_option maxRecDepth 20000 in
theorem ggX1_standsAt_X6_size : GoodIn wsX1_standsAt wsX6_size := goodIn_r _ [23, 14, 51, 52] (by decide +kernel) (by decide +kernel)
set_option maxRecDepth 20000 in
theorem gX1_standsAt_X6_size : GoodIn wsX1_standsAt (wsV RX1 46 RX6 yX6_size wsX6_size) := goodIn_app (goodIn_of _ (by decide +kernel)) ggX1_standsAt_X6_size
set_option maxRecDepth 20000 in
theorem ggX1_standsAt_X6_get : GoodIn wsX1_standsAt wsX6_get := goodIn_r _ [18, 14, 19, 51, 52] (by decide +kernel) (by decide +kernel)
set_option maxRecDepth 20000 in
theorem gX1_standsAt_X6_get : GoodIn wsX1_standsAt (wsV RX1 27 RX6 yX6_get wsX6_get) := goodIn_app (goodIn_of _ (by decide +kernel)) ggX1_standsAt_X6_get
set_option maxRecDepth 20000 in
theorem ggX1_standsAt_X6_add : GoodIn wsX1_standsAt wsX6_add := goodIn_r _ [27, 14, 19, 51, 52] (by decide +kernel) (by decide +kernel)
set_option maxRecDepth 20000 in
theorem gX1_standsAt_X6_add : GoodIn wsX1_standsAt (wsV RX1 49 RX6 yX6_add wsX6_add) := goodIn_app (goodIn_of _ (by decide +kernel)) ggX1_standsAt_X6_add
set_option maxRecDepth 20000 in
theorem ggX1_standsAt_X1_sort : GoodIn wsX1_standsAt wsX1_sort := goodIn_r _ [35, 2, 15, 16, 17, 12, 18, 14, 19, 48, 49, 50, 51, 52] (by decide +kernel) (by decide +kernel)
set_option maxRecDepth 20000 in
theorem gX1_standsAt_X1_sort : GoodIn wsX1_standsAt (wsV RX1 53 RX1 yX1_sort wsX1_sort) := goodIn_app (goodIn_of _ (by decide +kernel)) ggX1_standsAt_X1_sort
set_option maxRecDepth 20000 in
theorem ggX1_standsAt_X7_allows : GoodIn wsX1_standsAt wsX7_allows := goodIn_r _ [40, 41, 42, 43, 44, 45, 46, 21, 22, 12, 23, 14, 47, 16, 17, 18, 19, 51, 52] (by decide +kernel) (by decide +kernel)
set_option maxRecDepth 20000 in
theorem gX1_standsAt_X7_allows : GoodIn wsX1_standsAt (wsV RX1 57 RX7 yX7_allows wsX7_allows) := goodIn_app (goodIn_of _ (by decide +kernel)) ggX1_standsAt_X7_allows
theorem dX1_standsAt_0 : decode cX1_standsAt 0 = .ok (.aload_n 0, 1) := by decide +kernel
theorem dX1_standsAt_1 : decode cX1_standsAt 1 = .ok (.aload_n 1, 1) := by decide +kernel
theorem dX1_standsAt_2 : decode cX1_standsAt 2 = .ok (.iload_n 2, 1) := by decide +kernel
theorem dX1_standsAt_3 : decode cX1_standsAt 3 = .ok (.invokevirtual 35, 3) := by decide +kernel
theorem dX1_standsAt_6 : decode cX1_standsAt 6 = .ok (.ifCond .eq 18, 3) := by decide +kernel
theorem dX1_standsAt_9 : decode cX1_standsAt 9 = .ok (.aload_n 0, 1) := by decide +kernel
theorem dX1_standsAt_10 : decode cX1_standsAt 10 = .ok (.invokevirtual 39, 3) := by decide +kernel
theorem dX1_standsAt_13 : decode cX1_standsAt 13 = .ok (.ifCond .lt 11, 3) := by decide +kernel
theorem dX1_standsAt_16 : decode cX1_standsAt 16 = .ok (.aload_n 0, 1) := by decide +kernel
theorem dX1_standsAt_17 : decode cX1_standsAt 17 = .ok (.invokevirtual 39, 3) := by decide +kernel
theorem dX1_standsAt_20 : decode cX1_standsAt 20 = .ok (.iconst 4, 1) := by decide +kernel
theorem dX1_standsAt_21 : decode cX1_standsAt 21 = .ok (.if_icmp .lt 5, 3) := by decide +kernel
theorem dX1_standsAt_24 : decode cX1_standsAt 24 = .ok (.iconst 0, 1) := by decide +kernel
theorem dX1_standsAt_25 : decode cX1_standsAt 25 = .ok (.ireturn, 1) := by decide +kernel
theorem dX1_standsAt_26 : decode cX1_standsAt 26 = .ok (.aload_n 0, 1) := by decide +kernel
theorem dX1_standsAt_27 : decode cX1_standsAt 27 = .ok (.getfield 20, 3) := by decide +kernel
theorem dX1_standsAt_30 : decode cX1_standsAt 30 = .ok (.invokevirtual 43, 3) := by decide +kernel
theorem dX1_standsAt_33 : decode cX1_standsAt 33 = .ok (.pop, 1) := by decide +kernel
theorem dX1_standsAt_34 : decode cX1_standsAt 34 = .ok (.iconst 2, 1) := by decide +kernel
theorem dX1_standsAt_35 : decode cX1_standsAt 35 = .ok (.istore_n 3, 1) := by decide +kernel
theorem dX1_standsAt_36 : decode cX1_standsAt 36 = .ok (.iload_n 3, 1) := by decide +kernel
theorem dX1_standsAt_37 : decode cX1_standsAt 37 = .ok (.aload_n 0, 1) := by decide +kernel
theorem dX1_standsAt_38 : decode cX1_standsAt 38 = .ok (.getfield 14, 3) := by decide +kernel
theorem dX1_standsAt_41 : decode cX1_standsAt 41 = .ok (.invokevirtual 46, 3) := by decide +kernel
theorem dX1_standsAt_44 : decode cX1_standsAt 44 = .ok (.if_icmp .ge 25, 3) := by decide +kernel
theorem dX1_standsAt_47 : decode cX1_standsAt 47 = .ok (.aload_n 0, 1) := by decide +kernel
theorem dX1_standsAt_48 : decode cX1_standsAt 48 = .ok (.getfield 20, 3) := by decide +kernel
theorem dX1_standsAt_51 : decode cX1_standsAt 51 = .ok (.aload_n 0, 1) := by decide +kernel
theorem dX1_standsAt_52 : decode cX1_standsAt 52 = .ok (.getfield 14, 3) := by decide +kernel
theorem dX1_standsAt_55 : decode cX1_standsAt 55 = .ok (.iload_n 3, 1) := by decide +kernel
theorem dX1_standsAt_56 : decode cX1_standsAt 56 = .ok (.invokevirtual 27, 3) := by decide +kernel
theorem dX1_standsAt_59 : decode cX1_standsAt 59 = .ok (.invokevirtual 49, 3) := by decide +kernel
theorem dX1_standsAt_62 : decode cX1_standsAt 62 = .ok (.pop, 1) := by decide +kernel
theorem dX1_standsAt_63 : decode cX1_standsAt 63 = .ok (.iinc 3 1, 3) := by decide +kernel
theorem dX1_standsAt_66 : decode cX1_standsAt 66 = .ok (.goto (-30), 3) := by decide +kernel
theorem dX1_standsAt_69 : decode cX1_standsAt 69 = .ok (.aload_n 0, 1) := by decide +kernel
theorem dX1_standsAt_70 : decode cX1_standsAt 70 = .ok (.invokevirtual 53, 3) := by decide +kernel
theorem dX1_standsAt_73 : decode cX1_standsAt 73 = .ok (.astore_n 3, 1) := by decide +kernel
theorem dX1_standsAt_74 : decode cX1_standsAt 74 = .ok (.aload_n 3, 1) := by decide +kernel
theorem dX1_standsAt_75 : decode cX1_standsAt 75 = .ok (.ifnull 18, 3) := by decide +kernel
theorem dX1_standsAt_78 : decode cX1_standsAt 78 = .ok (.aload_n 3, 1) := by decide +kernel
theorem dX1_standsAt_79 : decode cX1_standsAt 79 = .ok (.aload_n 0, 1) := by decide +kernel
theorem dX1_standsAt_80 : decode cX1_standsAt 80 = .ok (.getfield 20, 3) := by decide +kernel
theorem dX1_standsAt_83 : decode cX1_standsAt 83 = .ok (.invokevirtual 57, 3) := by decide +kernel
theorem dX1_standsAt_86 : decode cX1_standsAt 86 = .ok (.ifCond .eq 7, 3) := by decide +kernel
theorem dX1_standsAt_89 : decode cX1_standsAt 89 = .ok (.iconst 1, 1) := by decide +kernel
theorem dX1_standsAt_90 : decode cX1_standsAt 90 = .ok (.goto 4, 3) := by decide +kernel
theorem dX1_standsAt_93 : decode cX1_standsAt 93 = .ok (.iconst 0, 1) := by decide +kernel
theorem dX1_standsAt_94 : decode cX1_standsAt 94 = .ok (.ireturn, 1) := by decide +kernel
set_option maxRecDepth 20000 in
theorem ggX1_readsNumbers_X6_clear : GoodIn wsX1_readsNumbers wsX6_clear := goodIn_r _ [7, 8, 25, 26] (by decide +kernel) (by decide +kernel)
set_option maxRecDepth 20000 in
theorem gX1_readsNumbers_X6_clear : GoodIn wsX1_readsNumbers (wsV RX1 43 RX6 yX6_clear wsX6_clear) := goodIn_app (goodIn_of _ (by decide +kernel)) ggX1_readsNumbers_X6_clear
set_option maxRecDepth 20000 in
theorem ggX1_readsNumbers_X6_get : GoodIn wsX1_readsNumbers wsX6_get := goodIn_r _ [12, 8, 13, 25, 26] (by decide +kernel) (by decide +kernel)
set_option maxRecDepth 20000 in
theorem gX1_readsNumbers_X6_get : GoodIn wsX1_readsNumbers (wsV RX1 27 RX6 yX6_get wsX6_get) := goodIn_app (goodIn_of _ (by decide +kernel)) ggX1_readsNumbers_X6_get
set_option maxRecDepth 20000 in
theorem ggX1_readsNumbers_X6_size : GoodIn wsX1_readsNumbers wsX6_size := goodIn_r _ [17, 8, 25, 26] (by decide +kernel) (by decide +kernel)
set_option maxRecDepth 20000 in
theorem gX1_readsNumbers_X6_size : GoodIn wsX1_readsNumbers (wsV RX1 46 RX6 yX6_size wsX6_size) := goodIn_app (goodIn_of _ (by decide +kernel)) ggX1_readsNumbers_X6_size
set_option maxRecDepth 20000 in
theorem ggX1_readsNumbers_X6_add : GoodIn wsX1_readsNumbers wsX6_add := goodIn_r _ [21, 8, 13, 25, 26] (by decide +kernel) (by decide +kernel)
set_option maxRecDepth 20000 in
theorem gX1_readsNumbers_X6_add : GoodIn wsX1_readsNumbers (wsV RX1 49 RX6 yX6_add wsX6_add) := goodIn_app (goodIn_of _ (by decide +kernel)) ggX1_readsNumbers_X6_add
theorem dX1_readsNumbers_0 : decode cX1_readsNumbers 0 = .ok (.aload_n 0, 1) := by decide +kernel
theorem dX1_readsNumbers_1 : decode cX1_readsNumbers 1 = .ok (.getfield 14, 3) := by decide +kernel
theorem dX1_readsNumbers_4 : decode cX1_readsNumbers 4 = .ok (.invokevirtual 43, 3) := by decide +kernel
theorem dX1_readsNumbers_7 : decode cX1_readsNumbers 7 = .ok (.pop, 1) := by decide +kernel
theorem dX1_readsNumbers_8 : decode cX1_readsNumbers 8 = .ok (.aload_n 1, 1) := by decide +kernel
theorem dX1_readsNumbers_9 : decode cX1_readsNumbers 9 = .ok (.iload_n 2, 1) := by decide +kernel
theorem dX1_readsNumbers_10 : decode cX1_readsNumbers 10 = .ok (.invokevirtual 27, 3) := by decide +kernel
theorem dX1_readsNumbers_13 : decode cX1_readsNumbers 13 = .ok (.bipush 114, 2) := by decide +kernel
theorem dX1_readsNumbers_15 : decode cX1_readsNumbers 15 = .ok (.if_icmp .eq 5, 3) := by decide +kernel
theorem dX1_readsNumbers_18 : decode cX1_readsNumbers 18 = .ok (.iconst 0, 1) := by decide +kernel
theorem dX1_readsNumbers_19 : decode cX1_readsNumbers 19 = .ok (.ireturn, 1) := by decide +kernel
theorem dX1_readsNumbers_20 : decode cX1_readsNumbers 20 = .ok (.iconst 0, 1) := by decide +kernel
theorem dX1_readsNumbers_21 : decode cX1_readsNumbers 21 = .ok (.istore_n 3, 1) := by decide +kernel
theorem dX1_readsNumbers_22 : decode cX1_readsNumbers 22 = .ok (.iconst 0, 1) := by decide +kernel
theorem dX1_readsNumbers_23 : decode cX1_readsNumbers 23 = .ok (.istore 4, 2) := by decide +kernel
theorem dX1_readsNumbers_25 : decode cX1_readsNumbers 25 = .ok (.iload_n 2, 1) := by decide +kernel
theorem dX1_readsNumbers_26 : decode cX1_readsNumbers 26 = .ok (.iconst 1, 1) := by decide +kernel
theorem dX1_readsNumbers_27 : decode cX1_readsNumbers 27 = .ok (.iadd, 1) := by decide +kernel
theorem dX1_readsNumbers_28 : decode cX1_readsNumbers 28 = .ok (.istore 5, 2) := by decide +kernel
theorem dX1_readsNumbers_30 : decode cX1_readsNumbers 30 = .ok (.iload 5, 2) := by decide +kernel
theorem dX1_readsNumbers_32 : decode cX1_readsNumbers 32 = .ok (.aload_n 1, 1) := by decide +kernel
theorem dX1_readsNumbers_33 : decode cX1_readsNumbers 33 = .ok (.invokevirtual 46, 3) := by decide +kernel
theorem dX1_readsNumbers_36 : decode cX1_readsNumbers 36 = .ok (.if_icmp .ge 111, 3) := by decide +kernel
theorem dX1_readsNumbers_39 : decode cX1_readsNumbers 39 = .ok (.aload_n 1, 1) := by decide +kernel
theorem dX1_readsNumbers_40 : decode cX1_readsNumbers 40 = .ok (.iload 5, 2) := by decide +kernel
theorem dX1_readsNumbers_42 : decode cX1_readsNumbers 42 = .ok (.invokevirtual 27, 3) := by decide +kernel
theorem dX1_readsNumbers_45 : decode cX1_readsNumbers 45 = .ok (.istore 6, 2) := by decide +kernel
theorem dX1_readsNumbers_47 : decode cX1_readsNumbers 47 = .ok (.iload 6, 2) := by decide +kernel
theorem dX1_readsNumbers_49 : decode cX1_readsNumbers 49 = .ok (.bipush 48, 2) := by decide +kernel
theorem dX1_readsNumbers_51 : decode cX1_readsNumbers 51 = .ok (.if_icmp .lt 33, 3) := by decide +kernel
theorem dX1_readsNumbers_54 : decode cX1_readsNumbers 54 = .ok (.iload 6, 2) := by decide +kernel
theorem dX1_readsNumbers_56 : decode cX1_readsNumbers 56 = .ok (.bipush 57, 2) := by decide +kernel
theorem dX1_readsNumbers_58 : decode cX1_readsNumbers 58 = .ok (.if_icmp .gt 26, 3) := by decide +kernel
theorem dX1_readsNumbers_61 : decode cX1_readsNumbers 61 = .ok (.iload 4, 2) := by decide +kernel
theorem dX1_readsNumbers_63 : decode cX1_readsNumbers 63 = .ok (.iconst 2, 1) := by decide +kernel
theorem dX1_readsNumbers_64 : decode cX1_readsNumbers 64 = .ok (.if_icmp .ge 20, 3) := by decide +kernel
theorem dX1_readsNumbers_67 : decode cX1_readsNumbers 67 = .ok (.bipush 10, 2) := by decide +kernel
theorem dX1_readsNumbers_69 : decode cX1_readsNumbers 69 = .ok (.iload_n 3, 1) := by decide +kernel
theorem dX1_readsNumbers_70 : decode cX1_readsNumbers 70 = .ok (.imul, 1) := by decide +kernel
theorem dX1_readsNumbers_71 : decode cX1_readsNumbers 71 = .ok (.iload 6, 2) := by decide +kernel
theorem dX1_readsNumbers_73 : decode cX1_readsNumbers 73 = .ok (.iadd, 1) := by decide +kernel
theorem dX1_readsNumbers_74 : decode cX1_readsNumbers 74 = .ok (.bipush 48, 2) := by decide +kernel
theorem dX1_readsNumbers_76 : decode cX1_readsNumbers 76 = .ok (.isub, 1) := by decide +kernel
theorem dX1_readsNumbers_77 : decode cX1_readsNumbers 77 = .ok (.istore_n 3, 1) := by decide +kernel
theorem dX1_readsNumbers_78 : decode cX1_readsNumbers 78 = .ok (.iinc 4 1, 3) := by decide +kernel
theorem dX1_readsNumbers_81 : decode cX1_readsNumbers 81 = .ok (.goto 60, 3) := by decide +kernel
theorem dX1_readsNumbers_84 : decode cX1_readsNumbers 84 = .ok (.iload 6, 2) := by decide +kernel
theorem dX1_readsNumbers_86 : decode cX1_readsNumbers 86 = .ok (.bipush 44, 2) := by decide +kernel
theorem dX1_readsNumbers_88 : decode cX1_readsNumbers 88 = .ok (.if_icmp .eq 10, 3) := by decide +kernel
theorem dX1_readsNumbers_91 : decode cX1_readsNumbers 91 = .ok (.iload 6, 2) := by decide +kernel
theorem dX1_readsNumbers_93 : decode cX1_readsNumbers 93 = .ok (.bipush 59, 2) := by decide +kernel
theorem dX1_readsNumbers_95 : decode cX1_readsNumbers 95 = .ok (.if_icmp .ne 44, 3) := by decide +kernel
theorem dX1_readsNumbers_98 : decode cX1_readsNumbers 98 = .ok (.iload 4, 2) := by decide +kernel
theorem dX1_readsNumbers_100 : decode cX1_readsNumbers 100 = .ok (.ifCond .le 39, 3) := by decide +kernel
theorem dX1_readsNumbers_103 : decode cX1_readsNumbers 103 = .ok (.aload_n 0, 1) := by decide +kernel
theorem dX1_readsNumbers_104 : decode cX1_readsNumbers 104 = .ok (.getfield 14, 3) := by decide +kernel
theorem dX1_readsNumbers_107 : decode cX1_readsNumbers 107 = .ok (.iload_n 3, 1) := by decide +kernel
theorem dX1_readsNumbers_108 : decode cX1_readsNumbers 108 = .ok (.invokevirtual 49, 3) := by decide +kernel
theorem dX1_readsNumbers_111 : decode cX1_readsNumbers 111 = .ok (.ifCond .eq 28, 3) := by decide +kernel
theorem dX1_readsNumbers_114 : decode cX1_readsNumbers 114 = .ok (.iload 6, 2) := by decide +kernel
theorem dX1_readsNumbers_116 : decode cX1_readsNumbers 116 = .ok (.bipush 59, 2) := by decide +kernel
theorem dX1_readsNumbers_118 : decode cX1_readsNumbers 118 = .ok (.if_icmp .ne 13, 3) := by decide +kernel
theorem dX1_readsNumbers_121 : decode cX1_readsNumbers 121 = .ok (.aload_n 0, 1) := by decide +kernel
theorem dX1_readsNumbers_122 : decode cX1_readsNumbers 122 = .ok (.iload 5, 2) := by decide +kernel
theorem dX1_readsNumbers_124 : decode cX1_readsNumbers 124 = .ok (.iconst 1, 1) := by decide +kernel
theorem dX1_readsNumbers_125 : decode cX1_readsNumbers 125 = .ok (.iadd, 1) := by decide +kernel
theorem dX1_readsNumbers_126 : decode cX1_readsNumbers 126 = .ok (.putfield 23, 3) := by decide +kernel
theorem dX1_readsNumbers_129 : decode cX1_readsNumbers 129 = .ok (.iconst 1, 1) := by decide +kernel
theorem dX1_readsNumbers_130 : decode cX1_readsNumbers 130 = .ok (.ireturn, 1) := by decide +kernel
theorem dX1_readsNumbers_131 : decode cX1_readsNumbers 131 = .ok (.iconst 0, 1) := by decide +kernel
theorem dX1_readsNumbers_132 : decode cX1_readsNumbers 132 = .ok (.istore_n 3, 1) := by decide +kernel
theorem dX1_readsNumbers_133 : decode cX1_readsNumbers 133 = .ok (.iconst 0, 1) := by decide +kernel
theorem dX1_readsNumbers_134 : decode cX1_readsNumbers 134 = .ok (.istore 4, 2) := by decide +kernel
theorem dX1_readsNumbers_136 : decode cX1_readsNumbers 136 = .ok (.goto 5, 3) := by decide +kernel
theorem dX1_readsNumbers_139 : decode cX1_readsNumbers 139 = .ok (.iconst 0, 1) := by decide +kernel
theorem dX1_readsNumbers_140 : decode cX1_readsNumbers 140 = .ok (.ireturn, 1) := by decide +kernel
theorem dX1_readsNumbers_141 : decode cX1_readsNumbers 141 = .ok (.iinc 5 1, 3) := by decide +kernel
theorem dX1_readsNumbers_144 : decode cX1_readsNumbers 144 = .ok (.goto (-114), 3) := by decide +kernel
theorem dX1_readsNumbers_147 : decode cX1_readsNumbers 147 = .ok (.iconst 0, 1) := by decide +kernel
theorem dX1_readsNumbers_148 : decode cX1_readsNumbers 148 = .ok (.ireturn, 1) := by decide +kernel
theorem dX2_init_0 : decode cX2_init 0 = .ok (.aload_n 0, 1) := by decide +kernel
theorem dX2_init_1 : decode cX2_init 1 = .ok (.invokespecial 3, 3) := by decide +kernel
theorem dX2_init_4 : decode cX2_init 4 = .ok (.aload_n 0, 1) := by decide +kernel
theorem dX2_init_5 : decode cX2_init 5 = .ok (.sipush 1000, 3) := by decide +kernel
theorem dX2_init_8 : decode cX2_init 8 = .ok (.newarray .int, 2) := by decide +kernel
theorem dX2_init_10 : decode cX2_init 10 = .ok (.putfield 9, 3) := by decide +kernel
theorem dX2_init_13 : decode cX2_init 13 = .ok (.aload_n 0, 1) := by decide +kernel
theorem dX2_init_14 : decode cX2_init 14 = .ok (.aload_n 1, 1) := by decide +kernel
theorem dX2_init_15 : decode cX2_init 15 = .ok (.putfield 15, 3) := by decide +kernel
theorem dX2_init_18 : decode cX2_init 18 = .ok (.return_, 1) := by decide +kernel
set_option maxRecDepth 20000 in
theorem ggX2_make_X3_clear : GoodIn wsX2_make wsX3_clear := goodIn_r _ [7, 8, 9, 10, 11, 12, 94] (by decide +kernel) (by decide +kernel)
set_option maxRecDepth 20000 in
theorem gX2_make_X3_clear : GoodIn wsX2_make (wsV RX2 19 RX3 yX3_clear wsX3_clear) := goodIn_app (goodIn_of _ (by decide +kernel)) ggX2_make_X3_clear
set_option maxRecDepth 20000 in
theorem ggX2_make_J7_fill_53178 : GoodIn wsX2_make wsJ7_fill_53178 := goodIn_r _ [12] (by decide +kernel) (by decide +kernel)
set_option maxRecDepth 20000 in
theorem gX2_make_J7_fill_53178 : GoodIn wsX2_make (va_wsS RX2 24 yJ7_fill_53178 wsJ7_fill_53178) := goodIn_app (goodIn_of _ (by decide +kernel)) ggX2_make_J7_fill_53178
set_option maxRecDepth 20000 in
theorem ggX2_make_X2_due : GoodIn wsX2_make wsX2_due := goodIn_r _ [18, 19, 20, 21, 22, 23, 24, 25, 26, 27, 28, 29, 17, 30, 31, 32, 33, 34, 35, 36, 37, 38, 1, 39, 40, 41, 6, 42, 8, 43, 44, 45, 46, 47, 48, 49, 50, 2, 51, 52, 53, 54, 55, 56, 57, 58, 59, 60, 61, 62, 63, 64, 65, 66, 67, 68, 69, 70, 71, 87, 88, 94] (by decide +kernel) (by decide +kernel)
set_option maxRecDepth 20000 in
theorem gX2_make_X2_due : GoodIn wsX2_make (wsV RX2 39 RX2 yX2_due wsX2_due) := goodIn_app (goodIn_of _ (by decide +kernel)) ggX2_make_X2_due
set_option maxRecDepth 20000 in
theorem ggX2_make_X6_size : GoodIn wsX2_make wsX6_size := goodIn_r _ [76, 77, 95, 96] (by decide +kernel) (by decide +kernel)
set_option maxRecDepth 20000 in
theorem gX2_make_X6_size : GoodIn wsX2_make (wsV RX2 47 RX6 yX6_size wsX6_size) := goodIn_app (goodIn_of _ (by decide +kernel)) ggX2_make_X6_size
set_option maxRecDepth 20000 in
theorem ggX2_make_X6_get : GoodIn wsX2_make wsX6_get := goodIn_r _ [81, 77, 82, 95, 96] (by decide +kernel) (by decide +kernel)
set_option maxRecDepth 20000 in
theorem gX2_make_X6_get : GoodIn wsX2_make (wsV RX2 53 RX6 yX6_get wsX6_get) := goodIn_app (goodIn_of _ (by decide +kernel)) ggX2_make_X6_get
set_option maxRecDepth 20000 in
theorem ggX2_make_X10_isNumber : GoodIn wsX2_make wsX10_isNumber := goodIn_r _ [85, 86] (by decide +kernel) (by decide +kernel)
set_option maxRecDepth 20000 in
theorem gX2_make_X10_isNumber_n57 : GoodIn wsX2_make (wsX10_isNumber) := ggX2_make_X10_isNumber
theorem dX2_make_0 : decode cX2_make 0 = .ok (.aload_n 0, 1) := by decide +kernel
theorem dX2_make_1 : decode cX2_make 1 = .ok (.getfield 15, 3) := by decide +kernel
theorem dX2_make_4 : decode cX2_make 4 = .ok (.invokevirtual 19, 3) := by decide +kernel
theorem dX2_make_7 : decode cX2_make 7 = .ok (.aload_n 0, 1) := by decide +kernel
theorem dX2_make_8 : decode cX2_make 8 = .ok (.getfield 9, 3) := by decide +kernel
theorem dX2_make_11 : decode cX2_make 11 = .ok (.iconst 0, 1) := by decide +kernel
theorem dX2_make_12 : decode cX2_make 12 = .ok (.invokestatic 24, 3) := by decide +kernel
theorem dX2_make_15 : decode cX2_make 15 = .ok (.aload_n 1, 1) := by decide +kernel
theorem dX2_make_16 : decode cX2_make 16 = .ok (.getfield 30, 3) := by decide +kernel
theorem dX2_make_19 : decode cX2_make 19 = .ok (.astore_n 2, 1) := by decide +kernel
theorem dX2_make_20 : decode cX2_make 20 = .ok (.iconst 0, 1) := by decide +kernel
theorem dX2_make_21 : decode cX2_make 21 = .ok (.istore_n 3, 1) := by decide +kernel
theorem dX2_make_22 : decode cX2_make 22 = .ok (.iload_n 3, 1) := by decide +kernel
theorem dX2_make_23 : decode cX2_make 23 = .ok (.sipush 2000, 3) := by decide +kernel
theorem dX2_make_26 : decode cX2_make 26 = .ok (.if_icmp .ge 77, 3) := by decide +kernel
theorem dX2_make_29 : decode cX2_make 29 = .ok (.iload_n 3, 1) := by decide +kernel
theorem dX2_make_30 : decode cX2_make 30 = .ok (.aload_n 2, 1) := by decide +kernel
theorem dX2_make_31 : decode cX2_make 31 = .ok (.arraylength, 1) := by decide +kernel
theorem dX2_make_32 : decode cX2_make 32 = .ok (.if_icmp .ge 71, 3) := by decide +kernel
theorem dX2_make_35 : decode cX2_make 35 = .ok (.iload_n 3, 1) := by decide +kernel
theorem dX2_make_36 : decode cX2_make 36 = .ok (.ifCond .ne 7, 3) := by decide +kernel
theorem dX2_make_39 : decode cX2_make 39 = .ok (.iconst 0, 1) := by decide +kernel
theorem dX2_make_40 : decode cX2_make 40 = .ok (.goto 13, 3) := by decide +kernel
theorem dX2_make_43 : decode cX2_make 43 = .ok (.aload_n 0, 1) := by decide +kernel
theorem dX2_make_44 : decode cX2_make 44 = .ok (.aload_n 1, 1) := by decide +kernel
theorem dX2_make_45 : decode cX2_make 45 = .ok (.getfield 35, 3) := by decide +kernel
theorem dX2_make_48 : decode cX2_make 48 = .ok (.aload_n 2, 1) := by decide +kernel
theorem dX2_make_49 : decode cX2_make 49 = .ok (.iload_n 3, 1) := by decide +kernel
theorem dX2_make_50 : decode cX2_make 50 = .ok (.invokevirtual 39, 3) := by decide +kernel
theorem dX2_make_53 : decode cX2_make 53 = .ok (.istore 4, 2) := by decide +kernel
theorem dX2_make_55 : decode cX2_make 55 = .ok (.iload_n 3, 1) := by decide +kernel
theorem dX2_make_56 : decode cX2_make 56 = .ok (.aload_n 1, 1) := by decide +kernel
theorem dX2_make_57 : decode cX2_make 57 = .ok (.getfield 43, 3) := by decide +kernel
theorem dX2_make_60 : decode cX2_make 60 = .ok (.invokevirtual 47, 3) := by decide +kernel
theorem dX2_make_63 : decode cX2_make 63 = .ok (.if_icmp .ge 14, 3) := by decide +kernel
theorem dX2_make_66 : decode cX2_make 66 = .ok (.aload_n 1, 1) := by decide +kernel
theorem dX2_make_67 : decode cX2_make 67 = .ok (.getfield 43, 3) := by decide +kernel
theorem dX2_make_70 : decode cX2_make 70 = .ok (.iload_n 3, 1) := by decide +kernel
theorem dX2_make_71 : decode cX2_make 71 = .ok (.invokevirtual 53, 3) := by decide +kernel
theorem dX2_make_74 : decode cX2_make 74 = .ok (.goto 5, 3) := by decide +kernel
theorem dX2_make_77 : decode cX2_make 77 = .ok (.iload 4, 2) := by decide +kernel
theorem dX2_make_79 : decode cX2_make 79 = .ok (.istore 5, 2) := by decide +kernel
theorem dX2_make_81 : decode cX2_make 81 = .ok (.iload 5, 2) := by decide +kernel
theorem dX2_make_83 : decode cX2_make 83 = .ok (.invokestatic 57, 3) := by decide +kernel
theorem dX2_make_86 : decode cX2_make 86 = .ok (.ifCond .ne 6, 3) := by decide +kernel
theorem dX2_make_89 : decode cX2_make 89 = .ok (.goto 14, 3) := by decide +kernel
theorem dX2_make_92 : decode cX2_make 92 = .ok (.aload_n 2, 1) := by decide +kernel
theorem dX2_make_93 : decode cX2_make 93 = .ok (.iload_n 3, 1) := by decide +kernel
theorem dX2_make_94 : decode cX2_make 94 = .ok (.iload 5, 2) := by decide +kernel
theorem dX2_make_96 : decode cX2_make 96 = .ok (.iastore, 1) := by decide +kernel
theorem dX2_make_97 : decode cX2_make 97 = .ok (.iinc 3 1, 3) := by decide +kernel
theorem dX2_make_100 : decode cX2_make 100 = .ok (.goto (-78), 3) := by decide +kernel
theorem dX2_make_103 : decode cX2_make 103 = .ok (.aload_n 1, 1) := by decide +kernel
theorem dX2_make_104 : decode cX2_make 104 = .ok (.iload_n 3, 1) := by decide +kernel
theorem dX2_make_105 : decode cX2_make 105 = .ok (.putfield 61, 3) := by decide +kernel
theorem dX2_make_108 : decode cX2_make 108 = .ok (.aload_n 1, 1) := by decide +kernel
theorem dX2_make_109 : decode cX2_make 109 = .ok (.iconst 1, 1) := by decide +kernel
theorem dX2_make_110 : decode cX2_make 110 = .ok (.putfield 65, 3) := by decide +kernel
theorem dX2_make_113 : decode cX2_make 113 = .ok (.return_, 1) := by decide +kernel
set_option maxRecDepth 20000 in
theorem ggX2_due_Jx29ce0_ordinal_8abf5 : GoodIn wsX2_due wsJx29ce0_ordinal_8abf5 := goodIn_r _ [7, 8] (by decide +kernel) (by decide +kernel)
set_option maxRecDepth 20000 in
theorem gX2_due_Jx29ce0_ordinal_8abf5_u74X7 : GoodIn wsX2_due (va_wsU RX2 74 RX7 "java/lang/Enum" ⟨"TellingRows$Sort", "ordinal", "()I"⟩ yJx29ce0_ordinal_8abf5 wsJx29ce0_ordinal_8abf5) := goodIn_app (goodIn_of _ (by decide +kernel)) ggX2_due_Jx29ce0_ordinal_8abf5
set_option maxRecDepth 20000 in
theorem ggX2_due_X2_reach : GoodIn wsX2_due wsX2_reach := goodIn_r _ [13] (by decide +kernel) (by decide +kernel)
set_option maxRecDepth 20000 in
theorem gX2_due_X2_reach : GoodIn wsX2_due (wsV RX2 79 RX2 yX2_reach wsX2_reach) := goodIn_app (goodIn_of _ (by decide +kernel)) ggX2_due_X2_reach
set_option maxRecDepth 20000 in
theorem ggX2_due_X2_fold : GoodIn wsX2_due wsX2_fold := goodIn_r _ [17] (by decide +kernel) (by decide +kernel)
set_option maxRecDepth 20000 in
theorem gX2_due_X2_fold : GoodIn wsX2_due (wsV RX2 83 RX2 yX2_fold wsX2_fold) := goodIn_app (goodIn_of _ (by decide +kernel)) ggX2_due_X2_fold
set_option maxRecDepth 20000 in
theorem ggX2_due_X2_back : GoodIn wsX2_due wsX2_back := goodIn_r _ [21, 22, 23, 24, 25, 26, 27, 28, 29, 30, 31, 32, 59, 60, 61] (by decide +kernel) (by decide +kernel)
set_option maxRecDepth 20000 in
theorem gX2_due_X2_back : GoodIn wsX2_due (wsV RX2 86 RX2 yX2_back wsX2_back) := goodIn_app (goodIn_of _ (by decide +kernel)) ggX2_due_X2_back
set_option maxRecDepth 20000 in
theorem ggX2_due_X2_again : GoodIn wsX2_due wsX2_again := goodIn_r _ [36, 37, 38, 39, 40, 41, 59, 60] (by decide +kernel) (by decide +kernel)
set_option maxRecDepth 20000 in
theorem gX2_due_X2_again : GoodIn wsX2_due (wsV RX2 90 RX2 yX2_again wsX2_again) := goodIn_app (goodIn_of _ (by decide +kernel)) ggX2_due_X2_again
set_option maxRecDepth 20000 in
theorem ggX2_due_X2_sum : GoodIn wsX2_due wsX2_sum := goodIn_r _ [45, 22, 46, 47, 48, 49, 26, 50, 28, 23, 24, 25, 27, 59, 60, 61] (by decide +kernel) (by decide +kernel)
set_option maxRecDepth 20000 in
theorem gX2_due_X2_sum : GoodIn wsX2_due (wsV RX2 93 RX2 yX2_sum wsX2_sum) := goodIn_app (goodIn_of _ (by decide +kernel)) ggX2_due_X2_sum
set_option maxRecDepth 20000 in
theorem ggX2_due_X2_soFar : GoodIn wsX2_due wsX2_soFar := goodIn_r _ [54, 22, 47, 48, 49, 26, 50, 28, 23, 24, 25, 27, 59, 60, 61] (by decide +kernel) (by decide +kernel)
set_option maxRecDepth 20000 in
theorem gX2_due_X2_soFar : GoodIn wsX2_due (wsV RX2 96 RX2 yX2_soFar wsX2_soFar) := goodIn_app (goodIn_of _ (by decide +kernel)) ggX2_due_X2_soFar
set_option maxRecDepth 20000 in
theorem ggX2_due_X2_free : GoodIn wsX2_due wsX2_free := goodIn_r _ [58, 22, 29, 30, 31, 26, 32, 28, 23, 24, 25, 27, 59, 60, 61] (by decide +kernel) (by decide +kernel)
set_option maxRecDepth 20000 in
theorem gX2_due_X2_free : GoodIn wsX2_due (wsV RX2 99 RX2 yX2_free wsX2_free) := goodIn_app (goodIn_of _ (by decide +kernel)) ggX2_due_X2_free
theorem dX2_due_0 : decode cX2_due 0 = .ok (.getstatic 69, 3) := by decide +kernel
theorem dX2_due_3 : decode cX2_due 3 = .ok (.aload_n 1, 1) := by decide +kernel
theorem dX2_due_4 : decode cX2_due 4 = .ok (.invokevirtual 74, 3) := by decide +kernel
theorem dX2_due_7 : decode cX2_due 7 = .ok (.iaload, 1) := by decide +kernel
theorem dX2_due_8 : decode cX2_due 8 = .ok (.tableswitch 100 1 7 #[44, 51, 58, 69, 76, 83, 93], 44) := by decide +kernel
theorem dX2_due_52 : decode cX2_due 52 = .ok (.aload_n 0, 1) := by decide +kernel
theorem dX2_due_53 : decode cX2_due 53 = .ok (.aload_n 2, 1) := by decide +kernel
theorem dX2_due_54 : decode cX2_due 54 = .ok (.iload_n 3, 1) := by decide +kernel
theorem dX2_due_55 : decode cX2_due 55 = .ok (.invokevirtual 79, 3) := by decide +kernel
theorem dX2_due_58 : decode cX2_due 58 = .ok (.ireturn, 1) := by decide +kernel
theorem dX2_due_59 : decode cX2_due 59 = .ok (.aload_n 0, 1) := by decide +kernel
theorem dX2_due_60 : decode cX2_due 60 = .ok (.aload_n 2, 1) := by decide +kernel
theorem dX2_due_61 : decode cX2_due 61 = .ok (.iload_n 3, 1) := by decide +kernel
theorem dX2_due_62 : decode cX2_due 62 = .ok (.invokevirtual 83, 3) := by decide +kernel
theorem dX2_due_65 : decode cX2_due 65 = .ok (.ireturn, 1) := by decide +kernel
theorem dX2_due_66 : decode cX2_due 66 = .ok (.aload_n 0, 1) := by decide +kernel
theorem dX2_due_67 : decode cX2_due 67 = .ok (.aload_n 2, 1) := by decide +kernel
theorem dX2_due_68 : decode cX2_due 68 = .ok (.iload_n 3, 1) := by decide +kernel
theorem dX2_due_69 : decode cX2_due 69 = .ok (.iconst 1, 1) := by decide +kernel
theorem dX2_due_70 : decode cX2_due 70 = .ok (.isub, 1) := by decide +kernel
theorem dX2_due_71 : decode cX2_due 71 = .ok (.iaload, 1) := by decide +kernel
theorem dX2_due_72 : decode cX2_due 72 = .ok (.iload_n 3, 1) := by decide +kernel
theorem dX2_due_73 : decode cX2_due 73 = .ok (.invokevirtual 86, 3) := by decide +kernel
theorem dX2_due_76 : decode cX2_due 76 = .ok (.ireturn, 1) := by decide +kernel
theorem dX2_due_77 : decode cX2_due 77 = .ok (.aload_n 0, 1) := by decide +kernel
theorem dX2_due_78 : decode cX2_due 78 = .ok (.aload_n 2, 1) := by decide +kernel
theorem dX2_due_79 : decode cX2_due 79 = .ok (.iload_n 3, 1) := by decide +kernel
theorem dX2_due_80 : decode cX2_due 80 = .ok (.invokevirtual 90, 3) := by decide +kernel
theorem dX2_due_83 : decode cX2_due 83 = .ok (.ireturn, 1) := by decide +kernel
theorem dX2_due_84 : decode cX2_due 84 = .ok (.aload_n 0, 1) := by decide +kernel
theorem dX2_due_85 : decode cX2_due 85 = .ok (.aload_n 2, 1) := by decide +kernel
theorem dX2_due_86 : decode cX2_due 86 = .ok (.iload_n 3, 1) := by decide +kernel
theorem dX2_due_87 : decode cX2_due 87 = .ok (.invokevirtual 93, 3) := by decide +kernel
theorem dX2_due_90 : decode cX2_due 90 = .ok (.ireturn, 1) := by decide +kernel
theorem dX2_due_91 : decode cX2_due 91 = .ok (.aload_n 0, 1) := by decide +kernel
theorem dX2_due_92 : decode cX2_due 92 = .ok (.aload_n 2, 1) := by decide +kernel
theorem dX2_due_93 : decode cX2_due 93 = .ok (.iload_n 3, 1) := by decide +kernel
theorem dX2_due_94 : decode cX2_due 94 = .ok (.iconst 1, 1) := by decide +kernel
theorem dX2_due_95 : decode cX2_due 95 = .ok (.isub, 1) := by decide +kernel
theorem dX2_due_96 : decode cX2_due 96 = .ok (.iaload, 1) := by decide +kernel
theorem dX2_due_97 : decode cX2_due 97 = .ok (.invokevirtual 96, 3) := by decide +kernel
theorem dX2_due_100 : decode cX2_due 100 = .ok (.ireturn, 1) := by decide +kernel
theorem dX2_due_101 : decode cX2_due 101 = .ok (.aload_n 0, 1) := by decide +kernel
theorem dX2_due_102 : decode cX2_due 102 = .ok (.aload_n 2, 1) := by decide +kernel
theorem dX2_due_103 : decode cX2_due 103 = .ok (.iload_n 3, 1) := by decide +kernel
theorem dX2_due_104 : decode cX2_due 104 = .ok (.invokevirtual 99, 3) := by decide +kernel
theorem dX2_due_107 : decode cX2_due 107 = .ok (.ireturn, 1) := by decide +kernel
theorem dX2_due_108 : decode cX2_due 108 = .ok (.bipush (-4), 2) := by decide +kernel
theorem dX2_due_110 : decode cX2_due 110 = .ok (.ireturn, 1) := by decide +kernel
theorem dX2_reach_0 : decode cX2_reach 0 = .ok (.iload_n 2, 1) := by decide +kernel
theorem dX2_reach_1 : decode cX2_reach 1 = .ok (.iconst 2, 1) := by decide +kernel
theorem dX2_reach_2 : decode cX2_reach 2 = .ok (.if_icmp .ge 6, 3) := by decide +kernel
theorem dX2_reach_5 : decode cX2_reach 5 = .ok (.bipush (-4), 2) := by decide +kernel
theorem dX2_reach_7 : decode cX2_reach 7 = .ok (.ireturn, 1) := by decide +kernel
theorem dX2_reach_8 : decode cX2_reach 8 = .ok (.iload_n 2, 1) := by decide +kernel
theorem dX2_reach_9 : decode cX2_reach 9 = .ok (.aload_n 1, 1) := by decide +kernel
theorem dX2_reach_10 : decode cX2_reach 10 = .ok (.iload_n 2, 1) := by decide +kernel
theorem dX2_reach_11 : decode cX2_reach 11 = .ok (.iconst 1, 1) := by decide +kernel
theorem dX2_reach_12 : decode cX2_reach 12 = .ok (.isub, 1) := by decide +kernel
theorem dX2_reach_13 : decode cX2_reach 13 = .ok (.iaload, 1) := by decide +kernel
theorem dX2_reach_14 : decode cX2_reach 14 = .ok (.isub, 1) := by decide +kernel
theorem dX2_reach_15 : decode cX2_reach 15 = .ok (.istore_n 3, 1) := by decide +kernel
theorem dX2_reach_16 : decode cX2_reach 16 = .ok (.iload_n 2, 1) := by decide +kernel
theorem dX2_reach_17 : decode cX2_reach 17 = .ok (.aload_n 1, 1) := by decide +kernel
theorem dX2_reach_18 : decode cX2_reach 18 = .ok (.iload_n 2, 1) := by decide +kernel
theorem dX2_reach_19 : decode cX2_reach 19 = .ok (.iconst 2, 1) := by decide +kernel
theorem dX2_reach_20 : decode cX2_reach 20 = .ok (.isub, 1) := by decide +kernel
theorem dX2_reach_21 : decode cX2_reach 21 = .ok (.iaload, 1) := by decide +kernel
theorem dX2_reach_22 : decode cX2_reach 22 = .ok (.isub, 1) := by decide +kernel
theorem dX2_reach_23 : decode cX2_reach 23 = .ok (.istore 4, 2) := by decide +kernel
theorem dX2_reach_25 : decode cX2_reach 25 = .ok (.iload_n 3, 1) := by decide +kernel
theorem dX2_reach_26 : decode cX2_reach 26 = .ok (.ifCond .lt 23, 3) := by decide +kernel
theorem dX2_reach_29 : decode cX2_reach 29 = .ok (.iload_n 3, 1) := by decide +kernel
theorem dX2_reach_30 : decode cX2_reach 30 = .ok (.iload_n 2, 1) := by decide +kernel
theorem dX2_reach_31 : decode cX2_reach 31 = .ok (.if_icmp .ge 18, 3) := by decide +kernel
theorem dX2_reach_34 : decode cX2_reach 34 = .ok (.iload 4, 2) := by decide +kernel
theorem dX2_reach_36 : decode cX2_reach 36 = .ok (.ifCond .lt 13, 3) := by decide +kernel
theorem dX2_reach_39 : decode cX2_reach 39 = .ok (.iload 4, 2) := by decide +kernel
theorem dX2_reach_41 : decode cX2_reach 41 = .ok (.iload_n 2, 1) := by decide +kernel
theorem dX2_reach_42 : decode cX2_reach 42 = .ok (.if_icmp .ge 7, 3) := by decide +kernel
theorem dX2_reach_45 : decode cX2_reach 45 = .ok (.iconst 1, 1) := by decide +kernel
theorem dX2_reach_46 : decode cX2_reach 46 = .ok (.goto 4, 3) := by decide +kernel
theorem dX2_reach_49 : decode cX2_reach 49 = .ok (.iconst 0, 1) := by decide +kernel
theorem dX2_reach_50 : decode cX2_reach 50 = .ok (.istore 5, 2) := by decide +kernel
theorem dX2_reach_52 : decode cX2_reach 52 = .ok (.iload 5, 2) := by decide +kernel
theorem dX2_reach_54 : decode cX2_reach 54 = .ok (.ifCond .eq 14, 3) := by decide +kernel
theorem dX2_reach_57 : decode cX2_reach 57 = .ok (.aload_n 1, 1) := by decide +kernel
theorem dX2_reach_58 : decode cX2_reach 58 = .ok (.iload_n 3, 1) := by decide +kernel
theorem dX2_reach_59 : decode cX2_reach 59 = .ok (.iaload, 1) := by decide +kernel
theorem dX2_reach_60 : decode cX2_reach 60 = .ok (.aload_n 1, 1) := by decide +kernel
theorem dX2_reach_61 : decode cX2_reach 61 = .ok (.iload 4, 2) := by decide +kernel
theorem dX2_reach_63 : decode cX2_reach 63 = .ok (.iaload, 1) := by decide +kernel
theorem dX2_reach_64 : decode cX2_reach 64 = .ok (.iadd, 1) := by decide +kernel
theorem dX2_reach_65 : decode cX2_reach 65 = .ok (.goto 5, 3) := by decide +kernel
theorem dX2_reach_68 : decode cX2_reach 68 = .ok (.bipush (-4), 2) := by decide +kernel
theorem dX2_reach_70 : decode cX2_reach 70 = .ok (.ireturn, 1) := by decide +kernel
theorem dX2_fold_0 : decode cX2_fold 0 = .ok (.aload_n 1, 1) := by decide +kernel
theorem dX2_fold_1 : decode cX2_fold 1 = .ok (.iload_n 2, 1) := by decide +kernel
theorem dX2_fold_2 : decode cX2_fold 2 = .ok (.iconst 1, 1) := by decide +kernel
theorem dX2_fold_3 : decode cX2_fold 3 = .ok (.isub, 1) := by decide +kernel
theorem dX2_fold_4 : decode cX2_fold 4 = .ok (.iaload, 1) := by decide +kernel
theorem dX2_fold_5 : decode cX2_fold 5 = .ok (.istore_n 3, 1) := by decide +kernel
theorem dX2_fold_6 : decode cX2_fold 6 = .ok (.iload_n 3, 1) := by decide +kernel
theorem dX2_fold_7 : decode cX2_fold 7 = .ok (.iconst 1, 1) := by decide +kernel
theorem dX2_fold_8 : decode cX2_fold 8 = .ok (.if_icmp .lt 22, 3) := by decide +kernel
theorem dX2_fold_11 : decode cX2_fold 11 = .ok (.iload_n 3, 1) := by decide +kernel
theorem dX2_fold_12 : decode cX2_fold 12 = .ok (.iload_n 2, 1) := by decide +kernel
theorem dX2_fold_13 : decode cX2_fold 13 = .ok (.if_icmp .gt 17, 3) := by decide +kernel
theorem dX2_fold_16 : decode cX2_fold 16 = .ok (.aload_n 1, 1) := by decide +kernel
theorem dX2_fold_17 : decode cX2_fold 17 = .ok (.iload_n 3, 1) := by decide +kernel
theorem dX2_fold_18 : decode cX2_fold 18 = .ok (.iconst 1, 1) := by decide +kernel
theorem dX2_fold_19 : decode cX2_fold 19 = .ok (.isub, 1) := by decide +kernel
theorem dX2_fold_20 : decode cX2_fold 20 = .ok (.iaload, 1) := by decide +kernel
theorem dX2_fold_21 : decode cX2_fold 21 = .ok (.aload_n 1, 1) := by decide +kernel
theorem dX2_fold_22 : decode cX2_fold 22 = .ok (.iload_n 2, 1) := by decide +kernel
theorem dX2_fold_23 : decode cX2_fold 23 = .ok (.iload_n 3, 1) := by decide +kernel
theorem dX2_fold_24 : decode cX2_fold 24 = .ok (.isub, 1) := by decide +kernel
theorem dX2_fold_25 : decode cX2_fold 25 = .ok (.iaload, 1) := by decide +kernel
theorem dX2_fold_26 : decode cX2_fold 26 = .ok (.iadd, 1) := by decide +kernel
theorem dX2_fold_27 : decode cX2_fold 27 = .ok (.goto 5, 3) := by decide +kernel
theorem dX2_fold_30 : decode cX2_fold 30 = .ok (.bipush (-4), 2) := by decide +kernel
theorem dX2_fold_32 : decode cX2_fold 32 = .ok (.ireturn, 1) := by decide +kernel
set_option maxRecDepth 20000 in
theorem ggX2_back_X3_of : GoodIn wsX2_back wsX3_of := goodIn_r _ [6, 7, 14] (by decide +kernel) (by decide +kernel)
set_option maxRecDepth 20000 in
theorem gX2_back_X3_of : GoodIn wsX2_back (wsV RX2 102 RX3 yX3_of wsX3_of) := goodIn_app (goodIn_of _ (by decide +kernel)) ggX2_back_X3_of
set_option maxRecDepth 20000 in
theorem ggX2_back_X3_put : GoodIn wsX2_back wsX3_put := goodIn_r _ [11, 7, 14] (by decide +kernel) (by decide +kernel)
set_option maxRecDepth 20000 in
theorem gX2_back_X3_put : GoodIn wsX2_back (wsV RX2 105 RX3 yX3_put wsX3_put) := goodIn_app (goodIn_of _ (by decide +kernel)) ggX2_back_X3_put
theorem dX2_back_0 : decode cX2_back 0 = .ok (.aload_n 0, 1) := by decide +kernel
theorem dX2_back_1 : decode cX2_back 1 = .ok (.getfield 15, 3) := by decide +kernel
theorem dX2_back_4 : decode cX2_back 4 = .ok (.iload_n 1, 1) := by decide +kernel
theorem dX2_back_5 : decode cX2_back 5 = .ok (.invokevirtual 102, 3) := by decide +kernel
theorem dX2_back_8 : decode cX2_back 8 = .ok (.istore_n 3, 1) := by decide +kernel
theorem dX2_back_9 : decode cX2_back 9 = .ok (.aload_n 0, 1) := by decide +kernel
theorem dX2_back_10 : decode cX2_back 10 = .ok (.getfield 15, 3) := by decide +kernel
theorem dX2_back_13 : decode cX2_back 13 = .ok (.iload_n 1, 1) := by decide +kernel
theorem dX2_back_14 : decode cX2_back 14 = .ok (.iload_n 2, 1) := by decide +kernel
theorem dX2_back_15 : decode cX2_back 15 = .ok (.invokevirtual 105, 3) := by decide +kernel
theorem dX2_back_18 : decode cX2_back 18 = .ok (.iload_n 3, 1) := by decide +kernel
theorem dX2_back_19 : decode cX2_back 19 = .ok (.ifCond .ne 7, 3) := by decide +kernel
theorem dX2_back_22 : decode cX2_back 22 = .ok (.iconst 0, 1) := by decide +kernel
theorem dX2_back_23 : decode cX2_back 23 = .ok (.goto 6, 3) := by decide +kernel
theorem dX2_back_26 : decode cX2_back 26 = .ok (.iload_n 2, 1) := by decide +kernel
theorem dX2_back_27 : decode cX2_back 27 = .ok (.iload_n 3, 1) := by decide +kernel
theorem dX2_back_28 : decode cX2_back 28 = .ok (.isub, 1) := by decide +kernel
theorem dX2_back_29 : decode cX2_back 29 = .ok (.ireturn, 1) := by decide +kernel
theorem dX2_again_0 : decode cX2_again 0 = .ok (.iconst 1, 1) := by decide +kernel
theorem dX2_again_1 : decode cX2_again 1 = .ok (.istore_n 3, 1) := by decide +kernel
theorem dX2_again_2 : decode cX2_again 2 = .ok (.iconst 1, 1) := by decide +kernel
theorem dX2_again_3 : decode cX2_again 3 = .ok (.istore 4, 2) := by decide +kernel
theorem dX2_again_5 : decode cX2_again 5 = .ok (.iload 4, 2) := by decide +kernel
theorem dX2_again_7 : decode cX2_again 7 = .ok (.iload_n 2, 1) := by decide +kernel
theorem dX2_again_8 : decode cX2_again 8 = .ok (.if_icmp .ge 84, 3) := by decide +kernel
theorem dX2_again_11 : decode cX2_again 11 = .ok (.iload 4, 2) := by decide +kernel
theorem dX2_again_13 : decode cX2_again 13 = .ok (.aload_n 0, 1) := by decide +kernel
theorem dX2_again_14 : decode cX2_again 14 = .ok (.getfield 9, 3) := by decide +kernel
theorem dX2_again_17 : decode cX2_again 17 = .ok (.arraylength, 1) := by decide +kernel
theorem dX2_again_18 : decode cX2_again 18 = .ok (.if_icmp .ge 74, 3) := by decide +kernel
theorem dX2_again_21 : decode cX2_again 21 = .ok (.aload_n 0, 1) := by decide +kernel
theorem dX2_again_22 : decode cX2_again 22 = .ok (.getfield 9, 3) := by decide +kernel
theorem dX2_again_25 : decode cX2_again 25 = .ok (.iload 4, 2) := by decide +kernel
theorem dX2_again_27 : decode cX2_again 27 = .ok (.aload_n 1, 1) := by decide +kernel
theorem dX2_again_28 : decode cX2_again 28 = .ok (.iload_n 2, 1) := by decide +kernel
theorem dX2_again_29 : decode cX2_again 29 = .ok (.iconst 1, 1) := by decide +kernel
theorem dX2_again_30 : decode cX2_again 30 = .ok (.isub, 1) := by decide +kernel
theorem dX2_again_31 : decode cX2_again 31 = .ok (.iaload, 1) := by decide +kernel
theorem dX2_again_32 : decode cX2_again 32 = .ok (.aload_n 1, 1) := by decide +kernel
theorem dX2_again_33 : decode cX2_again 33 = .ok (.iload_n 2, 1) := by decide +kernel
theorem dX2_again_34 : decode cX2_again 34 = .ok (.iconst 1, 1) := by decide +kernel
theorem dX2_again_35 : decode cX2_again 35 = .ok (.isub, 1) := by decide +kernel
theorem dX2_again_36 : decode cX2_again 36 = .ok (.iload 4, 2) := by decide +kernel
theorem dX2_again_38 : decode cX2_again 38 = .ok (.isub, 1) := by decide +kernel
theorem dX2_again_39 : decode cX2_again 39 = .ok (.iaload, 1) := by decide +kernel
theorem dX2_again_40 : decode cX2_again 40 = .ok (.if_icmp .ne 15, 3) := by decide +kernel
theorem dX2_again_43 : decode cX2_again 43 = .ok (.aload_n 0, 1) := by decide +kernel
theorem dX2_again_44 : decode cX2_again 44 = .ok (.getfield 9, 3) := by decide +kernel
theorem dX2_again_47 : decode cX2_again 47 = .ok (.iload 4, 2) := by decide +kernel
theorem dX2_again_49 : decode cX2_again 49 = .ok (.iaload, 1) := by decide +kernel
theorem dX2_again_50 : decode cX2_again 50 = .ok (.iconst 1, 1) := by decide +kernel
theorem dX2_again_51 : decode cX2_again 51 = .ok (.iadd, 1) := by decide +kernel
theorem dX2_again_52 : decode cX2_again 52 = .ok (.goto 4, 3) := by decide +kernel
theorem dX2_again_55 : decode cX2_again 55 = .ok (.iconst 0, 1) := by decide +kernel
theorem dX2_again_56 : decode cX2_again 56 = .ok (.iastore, 1) := by decide +kernel
theorem dX2_again_57 : decode cX2_again 57 = .ok (.aload_n 0, 1) := by decide +kernel
theorem dX2_again_58 : decode cX2_again 58 = .ok (.getfield 9, 3) := by decide +kernel
theorem dX2_again_61 : decode cX2_again 61 = .ok (.iload 4, 2) := by decide +kernel
theorem dX2_again_63 : decode cX2_again 63 = .ok (.iaload, 1) := by decide +kernel
theorem dX2_again_64 : decode cX2_again 64 = .ok (.iload 4, 2) := by decide +kernel
theorem dX2_again_66 : decode cX2_again 66 = .ok (.if_icmp .lt 20, 3) := by decide +kernel
theorem dX2_again_69 : decode cX2_again 69 = .ok (.iload_n 3, 1) := by decide +kernel
theorem dX2_again_70 : decode cX2_again 70 = .ok (.aload_n 0, 1) := by decide +kernel
theorem dX2_again_71 : decode cX2_again 71 = .ok (.getfield 9, 3) := by decide +kernel
theorem dX2_again_74 : decode cX2_again 74 = .ok (.iload 4, 2) := by decide +kernel
theorem dX2_again_76 : decode cX2_again 76 = .ok (.iaload, 1) := by decide +kernel
theorem dX2_again_77 : decode cX2_again 77 = .ok (.iload 4, 2) := by decide +kernel
theorem dX2_again_79 : decode cX2_again 79 = .ok (.idiv, 1) := by decide +kernel
theorem dX2_again_80 : decode cX2_again 80 = .ok (.iconst 1, 1) := by decide +kernel
theorem dX2_again_81 : decode cX2_again 81 = .ok (.iadd, 1) := by decide +kernel
theorem dX2_again_82 : decode cX2_again 82 = .ok (.invokestatic 109, 3) := by decide +kernel
theorem dX2_again_85 : decode cX2_again 85 = .ok (.istore_n 3, 1) := by decide +kernel
theorem dX2_again_86 : decode cX2_again 86 = .ok (.iinc 4 1, 3) := by decide +kernel
theorem dX2_again_89 : decode cX2_again 89 = .ok (.goto (-84), 3) := by decide +kernel
theorem dX2_again_92 : decode cX2_again 92 = .ok (.iload_n 3, 1) := by decide +kernel
theorem dX2_again_93 : decode cX2_again 93 = .ok (.ireturn, 1) := by decide +kernel
set_option maxRecDepth 20000 in
theorem ggX2_sum_X3_raise : GoodIn wsX2_sum wsX3_raise := goodIn_r _ [7, 8, 15] (by decide +kernel) (by decide +kernel)
set_option maxRecDepth 20000 in
theorem gX2_sum_X3_raise : GoodIn wsX2_sum (wsV RX2 114 RX3 yX3_raise wsX3_raise) := goodIn_app (goodIn_of _ (by decide +kernel)) ggX2_sum_X3_raise
set_option maxRecDepth 20000 in
theorem ggX2_sum_X3_of : GoodIn wsX2_sum wsX3_of := goodIn_r _ [12, 8, 15] (by decide +kernel) (by decide +kernel)
set_option maxRecDepth 20000 in
theorem gX2_sum_X3_of : GoodIn wsX2_sum (wsV RX2 102 RX3 yX3_of wsX3_of) := goodIn_app (goodIn_of _ (by decide +kernel)) ggX2_sum_X3_of
theorem dX2_sum_0 : decode cX2_sum 0 = .ok (.aload_n 1, 1) := by decide +kernel
theorem dX2_sum_1 : decode cX2_sum 1 = .ok (.iload_n 2, 1) := by decide +kernel
theorem dX2_sum_2 : decode cX2_sum 2 = .ok (.iconst 1, 1) := by decide +kernel
theorem dX2_sum_3 : decode cX2_sum 3 = .ok (.isub, 1) := by decide +kernel
theorem dX2_sum_4 : decode cX2_sum 4 = .ok (.iaload, 1) := by decide +kernel
theorem dX2_sum_5 : decode cX2_sum 5 = .ok (.istore_n 3, 1) := by decide +kernel
theorem dX2_sum_6 : decode cX2_sum 6 = .ok (.iconst 0, 1) := by decide +kernel
theorem dX2_sum_7 : decode cX2_sum 7 = .ok (.istore 4, 2) := by decide +kernel
theorem dX2_sum_9 : decode cX2_sum 9 = .ok (.iload 4, 2) := by decide +kernel
theorem dX2_sum_11 : decode cX2_sum 11 = .ok (.iload_n 2, 1) := by decide +kernel
theorem dX2_sum_12 : decode cX2_sum 12 = .ok (.iconst 1, 1) := by decide +kernel
theorem dX2_sum_13 : decode cX2_sum 13 = .ok (.isub, 1) := by decide +kernel
theorem dX2_sum_14 : decode cX2_sum 14 = .ok (.if_icmp .ge 22, 3) := by decide +kernel
theorem dX2_sum_17 : decode cX2_sum 17 = .ok (.aload_n 0, 1) := by decide +kernel
theorem dX2_sum_18 : decode cX2_sum 18 = .ok (.getfield 15, 3) := by decide +kernel
theorem dX2_sum_21 : decode cX2_sum 21 = .ok (.iload_n 3, 1) := by decide +kernel
theorem dX2_sum_22 : decode cX2_sum 22 = .ok (.aload_n 1, 1) := by decide +kernel
theorem dX2_sum_23 : decode cX2_sum 23 = .ok (.iload 4, 2) := by decide +kernel
theorem dX2_sum_25 : decode cX2_sum 25 = .ok (.iaload, 1) := by decide +kernel
theorem dX2_sum_26 : decode cX2_sum 26 = .ok (.iadd, 1) := by decide +kernel
theorem dX2_sum_27 : decode cX2_sum 27 = .ok (.invokevirtual 114, 3) := by decide +kernel
theorem dX2_sum_30 : decode cX2_sum 30 = .ok (.iinc 4 1, 3) := by decide +kernel
theorem dX2_sum_33 : decode cX2_sum 33 = .ok (.goto (-24), 3) := by decide +kernel
theorem dX2_sum_36 : decode cX2_sum 36 = .ok (.iload_n 3, 1) := by decide +kernel
theorem dX2_sum_37 : decode cX2_sum 37 = .ok (.iconst 1, 1) := by decide +kernel
theorem dX2_sum_38 : decode cX2_sum 38 = .ok (.iadd, 1) := by decide +kernel
theorem dX2_sum_39 : decode cX2_sum 39 = .ok (.istore 4, 2) := by decide +kernel
theorem dX2_sum_41 : decode cX2_sum 41 = .ok (.iload 4, 2) := by decide +kernel
theorem dX2_sum_43 : decode cX2_sum 43 = .ok (.ldc 118, 2) := by decide +kernel
theorem dX2_sum_45 : decode cX2_sum 45 = .ok (.if_icmp .gt 25, 3) := by decide +kernel
theorem dX2_sum_48 : decode cX2_sum 48 = .ok (.aload_n 0, 1) := by decide +kernel
theorem dX2_sum_49 : decode cX2_sum 49 = .ok (.getfield 15, 3) := by decide +kernel
theorem dX2_sum_52 : decode cX2_sum 52 = .ok (.iload 4, 2) := by decide +kernel
theorem dX2_sum_54 : decode cX2_sum 54 = .ok (.invokevirtual 102, 3) := by decide +kernel
theorem dX2_sum_57 : decode cX2_sum 57 = .ok (.iconst 1, 1) := by decide +kernel
theorem dX2_sum_58 : decode cX2_sum 58 = .ok (.if_icmp .ne 6, 3) := by decide +kernel
theorem dX2_sum_61 : decode cX2_sum 61 = .ok (.iload 4, 2) := by decide +kernel
theorem dX2_sum_63 : decode cX2_sum 63 = .ok (.ireturn, 1) := by decide +kernel
theorem dX2_sum_64 : decode cX2_sum 64 = .ok (.iinc 4 1, 3) := by decide +kernel
theorem dX2_sum_67 : decode cX2_sum 67 = .ok (.goto (-26), 3) := by decide +kernel
theorem dX2_sum_70 : decode cX2_sum 70 = .ok (.bipush (-4), 2) := by decide +kernel
theorem dX2_sum_72 : decode cX2_sum 72 = .ok (.ireturn, 1) := by decide +kernel
set_option maxRecDepth 20000 in
theorem ggX2_soFar_X3_raise : GoodIn wsX2_soFar wsX3_raise := goodIn_r _ [6, 7, 14] (by decide +kernel) (by decide +kernel)
set_option maxRecDepth 20000 in
theorem gX2_soFar_X3_raise : GoodIn wsX2_soFar (wsV RX2 114 RX3 yX3_raise wsX3_raise) := goodIn_app (goodIn_of _ (by decide +kernel)) ggX2_soFar_X3_raise
set_option maxRecDepth 20000 in
theorem ggX2_soFar_X3_of : GoodIn wsX2_soFar wsX3_of := goodIn_r _ [11, 7, 14] (by decide +kernel) (by decide +kernel)
set_option maxRecDepth 20000 in
theorem gX2_soFar_X3_of : GoodIn wsX2_soFar (wsV RX2 102 RX3 yX3_of wsX3_of) := goodIn_app (goodIn_of _ (by decide +kernel)) ggX2_soFar_X3_of
theorem dX2_soFar_0 : decode cX2_soFar 0 = .ok (.aload_n 0, 1) := by decide +kernel
theorem dX2_soFar_1 : decode cX2_soFar 1 = .ok (.getfield 15, 3) := by decide +kernel
theorem dX2_soFar_4 : decode cX2_soFar 4 = .ok (.iload_n 1, 1) := by decide +kernel
theorem dX2_soFar_5 : decode cX2_soFar 5 = .ok (.invokevirtual 114, 3) := by decide +kernel
theorem dX2_soFar_8 : decode cX2_soFar 8 = .ok (.aload_n 0, 1) := by decide +kernel
theorem dX2_soFar_9 : decode cX2_soFar 9 = .ok (.getfield 15, 3) := by decide +kernel
theorem dX2_soFar_12 : decode cX2_soFar 12 = .ok (.iload_n 1, 1) := by decide +kernel
theorem dX2_soFar_13 : decode cX2_soFar 13 = .ok (.invokevirtual 102, 3) := by decide +kernel
theorem dX2_soFar_16 : decode cX2_soFar 16 = .ok (.ireturn, 1) := by decide +kernel
set_option maxRecDepth 20000 in
theorem ggX2_free_X3_put : GoodIn wsX2_free wsX3_put := goodIn_r _ [6, 7, 14] (by decide +kernel) (by decide +kernel)
set_option maxRecDepth 20000 in
theorem gX2_free_X3_put : GoodIn wsX2_free (wsV RX2 105 RX3 yX3_put wsX3_put) := goodIn_app (goodIn_of _ (by decide +kernel)) ggX2_free_X3_put
set_option maxRecDepth 20000 in
theorem ggX2_free_X3_of : GoodIn wsX2_free wsX3_of := goodIn_r _ [11, 7, 14] (by decide +kernel) (by decide +kernel)
set_option maxRecDepth 20000 in
theorem gX2_free_X3_of : GoodIn wsX2_free (wsV RX2 102 RX3 yX3_of wsX3_of) := goodIn_app (goodIn_of _ (by decide +kernel)) ggX2_free_X3_of
theorem dX2_free_0 : decode cX2_free 0 = .ok (.iconst 1, 1) := by decide +kernel
theorem dX2_free_1 : decode cX2_free 1 = .ok (.istore_n 3, 1) := by decide +kernel
theorem dX2_free_2 : decode cX2_free 2 = .ok (.iconst 2, 1) := by decide +kernel
theorem dX2_free_3 : decode cX2_free 3 = .ok (.iload_n 3, 1) := by decide +kernel
theorem dX2_free_4 : decode cX2_free 4 = .ok (.imul, 1) := by decide +kernel
theorem dX2_free_5 : decode cX2_free 5 = .ok (.iload_n 2, 1) := by decide +kernel
theorem dX2_free_6 : decode cX2_free 6 = .ok (.if_icmp .gt 32, 3) := by decide +kernel
theorem dX2_free_9 : decode cX2_free 9 = .ok (.aload_n 0, 1) := by decide +kernel
theorem dX2_free_10 : decode cX2_free 10 = .ok (.getfield 15, 3) := by decide +kernel
theorem dX2_free_13 : decode cX2_free 13 = .ok (.iconst 2, 1) := by decide +kernel
theorem dX2_free_14 : decode cX2_free 14 = .ok (.aload_n 1, 1) := by decide +kernel
theorem dX2_free_15 : decode cX2_free 15 = .ok (.iload_n 2, 1) := by decide +kernel
theorem dX2_free_16 : decode cX2_free 16 = .ok (.iload_n 3, 1) := by decide +kernel
theorem dX2_free_17 : decode cX2_free 17 = .ok (.isub, 1) := by decide +kernel
theorem dX2_free_18 : decode cX2_free 18 = .ok (.iaload, 1) := by decide +kernel
theorem dX2_free_19 : decode cX2_free 19 = .ok (.imul, 1) := by decide +kernel
theorem dX2_free_20 : decode cX2_free 20 = .ok (.aload_n 1, 1) := by decide +kernel
theorem dX2_free_21 : decode cX2_free 21 = .ok (.iload_n 2, 1) := by decide +kernel
theorem dX2_free_22 : decode cX2_free 22 = .ok (.iconst 2, 1) := by decide +kernel
theorem dX2_free_23 : decode cX2_free 23 = .ok (.iload_n 3, 1) := by decide +kernel
theorem dX2_free_24 : decode cX2_free 24 = .ok (.imul, 1) := by decide +kernel
theorem dX2_free_25 : decode cX2_free 25 = .ok (.isub, 1) := by decide +kernel
theorem dX2_free_26 : decode cX2_free 26 = .ok (.iaload, 1) := by decide +kernel
theorem dX2_free_27 : decode cX2_free 27 = .ok (.isub, 1) := by decide +kernel
theorem dX2_free_28 : decode cX2_free 28 = .ok (.iload_n 2, 1) := by decide +kernel
theorem dX2_free_29 : decode cX2_free 29 = .ok (.invokevirtual 105, 3) := by decide +kernel
theorem dX2_free_32 : decode cX2_free 32 = .ok (.iinc 3 1, 3) := by decide +kernel
theorem dX2_free_35 : decode cX2_free 35 = .ok (.goto (-33), 3) := by decide +kernel
theorem dX2_free_38 : decode cX2_free 38 = .ok (.iconst 0, 1) := by decide +kernel
theorem dX2_free_39 : decode cX2_free 39 = .ok (.istore_n 3, 1) := by decide +kernel
theorem dX2_free_40 : decode cX2_free 40 = .ok (.iload_n 3, 1) := by decide +kernel
theorem dX2_free_41 : decode cX2_free 41 = .ok (.iload_n 2, 1) := by decide +kernel
theorem dX2_free_42 : decode cX2_free 42 = .ok (.if_icmp .gt 23, 3) := by decide +kernel
theorem dX2_free_45 : decode cX2_free 45 = .ok (.aload_n 0, 1) := by decide +kernel
theorem dX2_free_46 : decode cX2_free 46 = .ok (.getfield 15, 3) := by decide +kernel
theorem dX2_free_49 : decode cX2_free 49 = .ok (.iload_n 3, 1) := by decide +kernel
theorem dX2_free_50 : decode cX2_free 50 = .ok (.invokevirtual 102, 3) := by decide +kernel
theorem dX2_free_53 : decode cX2_free 53 = .ok (.iload_n 2, 1) := by decide +kernel
theorem dX2_free_54 : decode cX2_free 54 = .ok (.if_icmp .eq 5, 3) := by decide +kernel
theorem dX2_free_57 : decode cX2_free 57 = .ok (.iload_n 3, 1) := by decide +kernel
theorem dX2_free_58 : decode cX2_free 58 = .ok (.ireturn, 1) := by decide +kernel
theorem dX2_free_59 : decode cX2_free 59 = .ok (.iinc 3 1, 3) := by decide +kernel
theorem dX2_free_62 : decode cX2_free 62 = .ok (.goto (-22), 3) := by decide +kernel
theorem dX2_free_65 : decode cX2_free 65 = .ok (.bipush (-4), 2) := by decide +kernel
theorem dX2_free_67 : decode cX2_free 67 = .ok (.ireturn, 1) := by decide +kernel
theorem dX3_init_0 : decode cX3_init 0 = .ok (.aload_n 0, 1) := by decide +kernel
theorem dX3_init_1 : decode cX3_init 1 = .ok (.invokespecial 3, 3) := by decide +kernel
theorem dX3_init_4 : decode cX3_init 4 = .ok (.aload_n 0, 1) := by decide +kernel
theorem dX3_init_5 : decode cX3_init 5 = .ok (.ldc 9, 2) := by decide +kernel
theorem dX3_init_7 : decode cX3_init 7 = .ok (.newarray .int, 2) := by decide +kernel
theorem dX3_init_9 : decode cX3_init 9 = .ok (.putfield 10, 3) := by decide +kernel
theorem dX3_init_12 : decode cX3_init 12 = .ok (.return_, 1) := by decide +kernel
set_option maxRecDepth 20000 in
theorem ggX3_clear_J7_fill_53178 : GoodIn wsX3_clear wsJ7_fill_53178 := goodIn_r _ [5] (by decide +kernel) (by decide +kernel)
set_option maxRecDepth 20000 in
theorem gX3_clear_J7_fill_53178 : GoodIn wsX3_clear (va_wsS RX3 16 yJ7_fill_53178 wsJ7_fill_53178) := goodIn_app (goodIn_of _ (by decide +kernel)) ggX3_clear_J7_fill_53178
theorem dX3_clear_0 : decode cX3_clear 0 = .ok (.aload_n 0, 1) := by decide +kernel
theorem dX3_clear_1 : decode cX3_clear 1 = .ok (.getfield 10, 3) := by decide +kernel
theorem dX3_clear_4 : decode cX3_clear 4 = .ok (.iconst 0, 1) := by decide +kernel
theorem dX3_clear_5 : decode cX3_clear 5 = .ok (.invokestatic 16, 3) := by decide +kernel
theorem dX3_clear_8 : decode cX3_clear 8 = .ok (.return_, 1) := by decide +kernel
theorem dX3_of_0 : decode cX3_of 0 = .ok (.iload_n 1, 1) := by decide +kernel
theorem dX3_of_1 : decode cX3_of 1 = .ok (.ifCond .lt 21, 3) := by decide +kernel
theorem dX3_of_4 : decode cX3_of 4 = .ok (.iload_n 1, 1) := by decide +kernel
theorem dX3_of_5 : decode cX3_of 5 = .ok (.aload_n 0, 1) := by decide +kernel
theorem dX3_of_6 : decode cX3_of 6 = .ok (.getfield 10, 3) := by decide +kernel
theorem dX3_of_9 : decode cX3_of 9 = .ok (.arraylength, 1) := by decide +kernel
theorem dX3_of_10 : decode cX3_of 10 = .ok (.if_icmp .ge 12, 3) := by decide +kernel
theorem dX3_of_13 : decode cX3_of 13 = .ok (.aload_n 0, 1) := by decide +kernel
theorem dX3_of_14 : decode cX3_of 14 = .ok (.getfield 10, 3) := by decide +kernel
theorem dX3_of_17 : decode cX3_of 17 = .ok (.iload_n 1, 1) := by decide +kernel
theorem dX3_of_18 : decode cX3_of 18 = .ok (.iaload, 1) := by decide +kernel
theorem dX3_of_19 : decode cX3_of 19 = .ok (.goto 4, 3) := by decide +kernel
theorem dX3_of_22 : decode cX3_of 22 = .ok (.iconst 0, 1) := by decide +kernel
theorem dX3_of_23 : decode cX3_of 23 = .ok (.ireturn, 1) := by decide +kernel
theorem dX3_put_0 : decode cX3_put 0 = .ok (.iload_n 1, 1) := by decide +kernel
theorem dX3_put_1 : decode cX3_put 1 = .ok (.ifCond .lt 19, 3) := by decide +kernel
theorem dX3_put_4 : decode cX3_put 4 = .ok (.iload_n 1, 1) := by decide +kernel
theorem dX3_put_5 : decode cX3_put 5 = .ok (.aload_n 0, 1) := by decide +kernel
theorem dX3_put_6 : decode cX3_put 6 = .ok (.getfield 10, 3) := by decide +kernel
theorem dX3_put_9 : decode cX3_put 9 = .ok (.arraylength, 1) := by decide +kernel
theorem dX3_put_10 : decode cX3_put 10 = .ok (.if_icmp .ge 10, 3) := by decide +kernel
theorem dX3_put_13 : decode cX3_put 13 = .ok (.aload_n 0, 1) := by decide +kernel
theorem dX3_put_14 : decode cX3_put 14 = .ok (.getfield 10, 3) := by decide +kernel
theorem dX3_put_17 : decode cX3_put 17 = .ok (.iload_n 1, 1) := by decide +kernel
theorem dX3_put_18 : decode cX3_put 18 = .ok (.iload_n 2, 1) := by decide +kernel
theorem dX3_put_19 : decode cX3_put 19 = .ok (.iastore, 1) := by decide +kernel
theorem dX3_put_20 : decode cX3_put 20 = .ok (.return_, 1) := by decide +kernel
theorem dX3_raise_0 : decode cX3_raise 0 = .ok (.iload_n 1, 1) := by decide +kernel
theorem dX3_raise_1 : decode cX3_raise 1 = .ok (.ifCond .lt 22, 3) := by decide +kernel
theorem dX3_raise_4 : decode cX3_raise 4 = .ok (.iload_n 1, 1) := by decide +kernel
theorem dX3_raise_5 : decode cX3_raise 5 = .ok (.aload_n 0, 1) := by decide +kernel
theorem dX3_raise_6 : decode cX3_raise 6 = .ok (.getfield 10, 3) := by decide +kernel
theorem dX3_raise_9 : decode cX3_raise 9 = .ok (.arraylength, 1) := by decide +kernel
theorem dX3_raise_10 : decode cX3_raise 10 = .ok (.if_icmp .ge 13, 3) := by decide +kernel
theorem dX3_raise_13 : decode cX3_raise 13 = .ok (.aload_n 0, 1) := by decide +kernel
theorem dX3_raise_14 : decode cX3_raise 14 = .ok (.getfield 10, 3) := by decide +kernel
theorem dX3_raise_17 : decode cX3_raise 17 = .ok (.iload_n 1, 1) := by decide +kernel
theorem dX3_raise_18 : decode cX3_raise 18 = .ok (.dup2, 1) := by decide +kernel
theorem dX3_raise_19 : decode cX3_raise 19 = .ok (.iaload, 1) := by decide +kernel
theorem dX3_raise_20 : decode cX3_raise 20 = .ok (.iconst 1, 1) := by decide +kernel
theorem dX3_raise_21 : decode cX3_raise 21 = .ok (.iadd, 1) := by decide +kernel
theorem dX3_raise_22 : decode cX3_raise 22 = .ok (.iastore, 1) := by decide +kernel
theorem dX3_raise_23 : decode cX3_raise 23 = .ok (.return_, 1) := by decide +kernel
set_option maxRecDepth 20000 in
theorem ggX4_init_X6_init : GoodIn wsX4_init wsX6_init := goodIn_r _ [10, 11, 2, 3, 12, 13, 14, 15, 16, 17, 21, 22] (by decide +kernel) (by decide +kernel)
set_option maxRecDepth 20000 in
theorem gX4_init_X6_init : GoodIn wsX4_init (wsX6_init) := ggX4_init_X6_init
theorem dX4_init_0 : decode cX4_init 0 = .ok (.aload_n 0, 1) := by decide +kernel
theorem dX4_init_1 : decode cX4_init 1 = .ok (.invokespecial 3, 3) := by decide +kernel
theorem dX4_init_4 : decode cX4_init 4 = .ok (.aload_n 0, 1) := by decide +kernel
theorem dX4_init_5 : decode cX4_init 5 = .ok (.bipush 61, 2) := by decide +kernel
theorem dX4_init_7 : decode cX4_init 7 = .ok (.anewarray 9, 3) := by decide +kernel
theorem dX4_init_10 : decode cX4_init 10 = .ok (.putfield 11, 3) := by decide +kernel
theorem dX4_init_13 : decode cX4_init 13 = .ok (.iconst 0, 1) := by decide +kernel
theorem dX4_init_14 : decode cX4_init 14 = .ok (.istore_n 1, 1) := by decide +kernel
theorem dX4_init_15 : decode cX4_init 15 = .ok (.iload_n 1, 1) := by decide +kernel
theorem dX4_init_16 : decode cX4_init 16 = .ok (.aload_n 0, 1) := by decide +kernel
theorem dX4_init_17 : decode cX4_init 17 = .ok (.getfield 11, 3) := by decide +kernel
theorem dX4_init_20 : decode cX4_init 20 = .ok (.arraylength, 1) := by decide +kernel
theorem dX4_init_21 : decode cX4_init 21 = .ok (.if_icmp .ge 24, 3) := by decide +kernel
theorem dX4_init_24 : decode cX4_init 24 = .ok (.aload_n 0, 1) := by decide +kernel
theorem dX4_init_25 : decode cX4_init 25 = .ok (.getfield 11, 3) := by decide +kernel
theorem dX4_init_28 : decode cX4_init 28 = .ok (.iload_n 1, 1) := by decide +kernel
theorem dX4_init_29 : decode cX4_init 29 = .ok (.new 9, 3) := by decide +kernel
theorem dX4_init_32 : decode cX4_init 32 = .ok (.dup, 1) := by decide +kernel
theorem dX4_init_33 : decode cX4_init 33 = .ok (.bipush 40, 2) := by decide +kernel
theorem dX4_init_35 : decode cX4_init 35 = .ok (.invokespecial 17, 3) := by decide +kernel
theorem dX4_init_38 : decode cX4_init 38 = .ok (.aastore, 1) := by decide +kernel
theorem dX4_init_39 : decode cX4_init 39 = .ok (.iinc 1 1, 3) := by decide +kernel
theorem dX4_init_42 : decode cX4_init 42 = .ok (.goto (-27), 3) := by decide +kernel
theorem dX4_init_45 : decode cX4_init 45 = .ok (.return_, 1) := by decide +kernel
theorem dX4_tail_0 : decode cX4_tail 0 = .ok (.aload_n 0, 1) := by decide +kernel
theorem dX4_tail_1 : decode cX4_tail 1 = .ok (.getfield 20, 3) := by decide +kernel
theorem dX4_tail_4 : decode cX4_tail 4 = .ok (.ireturn, 1) := by decide +kernel
theorem dX4_length_0 : decode cX4_length 0 = .ok (.aload_n 0, 1) := by decide +kernel
theorem dX4_length_1 : decode cX4_length 1 = .ok (.getfield 24, 3) := by decide +kernel
theorem dX4_length_4 : decode cX4_length 4 = .ok (.ireturn, 1) := by decide +kernel
set_option maxRecDepth 20000 in
theorem ggX4_find_X6_copy : GoodIn wsX4_find wsX6_copy := goodIn_r _ [8, 9, 10, 11, 12, 7, 13, 14, 15, 16, 17, 18, 40, 41] (by decide +kernel) (by decide +kernel)
set_option maxRecDepth 20000 in
theorem gX4_find_X6_copy : GoodIn wsX4_find (wsV RX4 27 RX6 yX6_copy wsX6_copy) := goodIn_app (goodIn_of _ (by decide +kernel)) ggX4_find_X6_copy
set_option maxRecDepth 20000 in
theorem ggX4_find_X8_tally : GoodIn wsX4_find wsX8_tally := goodIn_r _ [22, 23, 24, 25, 7, 26, 9, 27, 28, 29, 30, 31, 11, 12, 13, 14, 32, 16, 17, 18, 40, 41] (by decide +kernel) (by decide +kernel)
set_option maxRecDepth 20000 in
theorem gX4_find_X8_tally : GoodIn wsX4_find (va_wsS RX4 31 yX8_tally wsX8_tally) := goodIn_app (goodIn_of _ (by decide +kernel)) ggX4_find_X8_tally
set_option maxRecDepth 20000 in
theorem ggX4_find_X6_same : GoodIn wsX4_find wsX6_same := goodIn_r _ [36, 9, 10, 11, 12, 7, 13, 14, 40, 41] (by decide +kernel) (by decide +kernel)
set_option maxRecDepth 20000 in
theorem gX4_find_X6_same : GoodIn wsX4_find (wsV RX4 37 RX6 yX6_same wsX6_same) := goodIn_app (goodIn_of _ (by decide +kernel)) ggX4_find_X6_same
theorem dX4_find_0 : decode cX4_find 0 = .ok (.aload_n 0, 1) := by decide +kernel
theorem dX4_find_1 : decode cX4_find 1 = .ok (.getfield 11, 3) := by decide +kernel
theorem dX4_find_4 : decode cX4_find 4 = .ok (.iconst 0, 1) := by decide +kernel
theorem dX4_find_5 : decode cX4_find 5 = .ok (.aaload, 1) := by decide +kernel
theorem dX4_find_6 : decode cX4_find 6 = .ok (.aload_n 1, 1) := by decide +kernel
theorem dX4_find_7 : decode cX4_find 7 = .ok (.invokevirtual 27, 3) := by decide +kernel
theorem dX4_find_10 : decode cX4_find 10 = .ok (.iconst 1, 1) := by decide +kernel
theorem dX4_find_11 : decode cX4_find 11 = .ok (.istore_n 2, 1) := by decide +kernel
theorem dX4_find_12 : decode cX4_find 12 = .ok (.iload_n 2, 1) := by decide +kernel
theorem dX4_find_13 : decode cX4_find 13 = .ok (.aload_n 0, 1) := by decide +kernel
theorem dX4_find_14 : decode cX4_find 14 = .ok (.getfield 11, 3) := by decide +kernel
theorem dX4_find_17 : decode cX4_find 17 = .ok (.arraylength, 1) := by decide +kernel
theorem dX4_find_18 : decode cX4_find 18 = .ok (.if_icmp .ge 76, 3) := by decide +kernel
theorem dX4_find_21 : decode cX4_find 21 = .ok (.aload_n 0, 1) := by decide +kernel
theorem dX4_find_22 : decode cX4_find 22 = .ok (.getfield 11, 3) := by decide +kernel
theorem dX4_find_25 : decode cX4_find 25 = .ok (.iload_n 2, 1) := by decide +kernel
theorem dX4_find_26 : decode cX4_find 26 = .ok (.iconst 1, 1) := by decide +kernel
theorem dX4_find_27 : decode cX4_find 27 = .ok (.isub, 1) := by decide +kernel
theorem dX4_find_28 : decode cX4_find 28 = .ok (.aaload, 1) := by decide +kernel
theorem dX4_find_29 : decode cX4_find 29 = .ok (.aload_n 0, 1) := by decide +kernel
theorem dX4_find_30 : decode cX4_find 30 = .ok (.getfield 11, 3) := by decide +kernel
theorem dX4_find_33 : decode cX4_find 33 = .ok (.iload_n 2, 1) := by decide +kernel
theorem dX4_find_34 : decode cX4_find 34 = .ok (.aaload, 1) := by decide +kernel
theorem dX4_find_35 : decode cX4_find 35 = .ok (.invokestatic 31, 3) := by decide +kernel
theorem dX4_find_38 : decode cX4_find 38 = .ok (.ifCond .ne 5, 3) := by decide +kernel
theorem dX4_find_41 : decode cX4_find 41 = .ok (.iconst 0, 1) := by decide +kernel
theorem dX4_find_42 : decode cX4_find 42 = .ok (.ireturn, 1) := by decide +kernel
theorem dX4_find_43 : decode cX4_find 43 = .ok (.iconst 0, 1) := by decide +kernel
theorem dX4_find_44 : decode cX4_find 44 = .ok (.istore_n 3, 1) := by decide +kernel
theorem dX4_find_45 : decode cX4_find 45 = .ok (.iload_n 3, 1) := by decide +kernel
theorem dX4_find_46 : decode cX4_find 46 = .ok (.iload_n 2, 1) := by decide +kernel
theorem dX4_find_47 : decode cX4_find 47 = .ok (.if_icmp .ge 41, 3) := by decide +kernel
theorem dX4_find_50 : decode cX4_find 50 = .ok (.aload_n 0, 1) := by decide +kernel
theorem dX4_find_51 : decode cX4_find 51 = .ok (.getfield 11, 3) := by decide +kernel
theorem dX4_find_54 : decode cX4_find 54 = .ok (.iload_n 3, 1) := by decide +kernel
theorem dX4_find_55 : decode cX4_find 55 = .ok (.aaload, 1) := by decide +kernel
theorem dX4_find_56 : decode cX4_find 56 = .ok (.aload_n 0, 1) := by decide +kernel
theorem dX4_find_57 : decode cX4_find 57 = .ok (.getfield 11, 3) := by decide +kernel
theorem dX4_find_60 : decode cX4_find 60 = .ok (.iload_n 2, 1) := by decide +kernel
theorem dX4_find_61 : decode cX4_find 61 = .ok (.aaload, 1) := by decide +kernel
theorem dX4_find_62 : decode cX4_find 62 = .ok (.invokevirtual 37, 3) := by decide +kernel
theorem dX4_find_65 : decode cX4_find 65 = .ok (.ifCond .eq 17, 3) := by decide +kernel
theorem dX4_find_68 : decode cX4_find 68 = .ok (.aload_n 0, 1) := by decide +kernel
theorem dX4_find_69 : decode cX4_find 69 = .ok (.iload_n 3, 1) := by decide +kernel
theorem dX4_find_70 : decode cX4_find 70 = .ok (.putfield 20, 3) := by decide +kernel
theorem dX4_find_73 : decode cX4_find 73 = .ok (.aload_n 0, 1) := by decide +kernel
theorem dX4_find_74 : decode cX4_find 74 = .ok (.iload_n 2, 1) := by decide +kernel
theorem dX4_find_75 : decode cX4_find 75 = .ok (.iload_n 3, 1) := by decide +kernel
theorem dX4_find_76 : decode cX4_find 76 = .ok (.isub, 1) := by decide +kernel
theorem dX4_find_77 : decode cX4_find 77 = .ok (.putfield 24, 3) := by decide +kernel
theorem dX4_find_80 : decode cX4_find 80 = .ok (.iconst 1, 1) := by decide +kernel
theorem dX4_find_81 : decode cX4_find 81 = .ok (.ireturn, 1) := by decide +kernel
theorem dX4_find_82 : decode cX4_find 82 = .ok (.iinc 3 1, 3) := by decide +kernel
theorem dX4_find_85 : decode cX4_find 85 = .ok (.goto (-40), 3) := by decide +kernel
theorem dX4_find_88 : decode cX4_find 88 = .ok (.iinc 2 1, 3) := by decide +kernel
theorem dX4_find_91 : decode cX4_find 91 = .ok (.goto (-79), 3) := by decide +kernel
theorem dX4_find_94 : decode cX4_find 94 = .ok (.iconst 0, 1) := by decide +kernel
theorem dX4_find_95 : decode cX4_find 95 = .ok (.ireturn, 1) := by decide +kernel
set_option maxRecDepth 20000 in
theorem ggX5_init_X6_init : GoodIn wsX5_init wsX6_init := goodIn_r _ [14, 15, 2, 3, 16, 17, 18, 19, 8, 20, 26, 27] (by decide +kernel) (by decide +kernel)
set_option maxRecDepth 20000 in
theorem gX5_init_X6_init : GoodIn wsX5_init (wsX6_init) := ggX5_init_X6_init
set_option maxRecDepth 20000 in
theorem ggX5_init_X6_add : GoodIn wsX5_init wsX6_add := goodIn_r _ [24, 25, 20, 26, 27] (by decide +kernel) (by decide +kernel)
set_option maxRecDepth 20000 in
theorem gX5_init_X6_add : GoodIn wsX5_init (wsV RX5 33 RX6 yX6_add wsX6_add) := goodIn_app (goodIn_of _ (by decide +kernel)) ggX5_init_X6_add
theorem dX5_init_0 : decode cX5_init 0 = .ok (.aload_n 0, 1) := by decide +kernel
theorem dX5_init_1 : decode cX5_init 1 = .ok (.invokespecial 3, 3) := by decide +kernel
theorem dX5_init_4 : decode cX5_init 4 = .ok (.aload_n 0, 1) := by decide +kernel
theorem dX5_init_5 : decode cX5_init 5 = .ok (.new 9, 3) := by decide +kernel
theorem dX5_init_8 : decode cX5_init 8 = .ok (.dup, 1) := by decide +kernel
theorem dX5_init_9 : decode cX5_init 9 = .ok (.bipush 6, 2) := by decide +kernel
theorem dX5_init_11 : decode cX5_init 11 = .ok (.invokespecial 11, 3) := by decide +kernel
theorem dX5_init_14 : decode cX5_init 14 = .ok (.putfield 14, 3) := by decide +kernel
theorem dX5_init_17 : decode cX5_init 17 = .ok (.aload_n 0, 1) := by decide +kernel
theorem dX5_init_18 : decode cX5_init 18 = .ok (.sipush 2000, 3) := by decide +kernel
theorem dX5_init_21 : decode cX5_init 21 = .ok (.newarray .int, 2) := by decide +kernel
theorem dX5_init_23 : decode cX5_init 23 = .ok (.putfield 20, 3) := by decide +kernel
theorem dX5_init_26 : decode cX5_init 26 = .ok (.aload_n 0, 1) := by decide +kernel
theorem dX5_init_27 : decode cX5_init 27 = .ok (.getstatic 24, 3) := by decide +kernel
theorem dX5_init_30 : decode cX5_init 30 = .ok (.putfield 30, 3) := by decide +kernel
theorem dX5_init_33 : decode cX5_init 33 = .ok (.aload_n 0, 1) := by decide +kernel
theorem dX5_init_34 : decode cX5_init 34 = .ok (.getfield 14, 3) := by decide +kernel
theorem dX5_init_37 : decode cX5_init 37 = .ok (.iconst 1, 1) := by decide +kernel
theorem dX5_init_38 : decode cX5_init 38 = .ok (.invokevirtual 33, 3) := by decide +kernel
theorem dX5_init_41 : decode cX5_init 41 = .ok (.pop, 1) := by decide +kernel
theorem dX5_init_42 : decode cX5_init 42 = .ok (.aload_n 0, 1) := by decide +kernel
theorem dX5_init_43 : decode cX5_init 43 = .ok (.getfield 14, 3) := by decide +kernel
theorem dX5_init_46 : decode cX5_init 46 = .ok (.iconst 1, 1) := by decide +kernel
theorem dX5_init_47 : decode cX5_init 47 = .ok (.invokevirtual 33, 3) := by decide +kernel
theorem dX5_init_50 : decode cX5_init 50 = .ok (.pop, 1) := by decide +kernel
theorem dX5_init_51 : decode cX5_init 51 = .ok (.return_, 1) := by decide +kernel
set_option maxRecDepth 20000 in
theorem ggX5_become_X1_sort : GoodIn wsX5_become wsX1_sort := goodIn_r _ [8, 9, 10, 11, 12, 13, 14, 15, 16, 31, 32, 33, 34, 35] (by decide +kernel) (by decide +kernel)
set_option maxRecDepth 20000 in
theorem gX5_become_X1_sort : GoodIn wsX5_become (wsV RX5 37 RX1 yX1_sort wsX1_sort) := goodIn_app (goodIn_of _ (by decide +kernel)) ggX5_become_X1_sort
set_option maxRecDepth 20000 in
theorem ggX5_become_X6_copy : GoodIn wsX5_become wsX6_copy := goodIn_r _ [20, 15, 21, 11, 12, 13, 14, 16, 22, 23, 24, 25, 34, 35] (by decide +kernel) (by decide +kernel)
set_option maxRecDepth 20000 in
theorem gX5_become_X6_copy : GoodIn wsX5_become (wsV RX5 43 RX6 yX6_copy wsX6_copy) := goodIn_app (goodIn_of _ (by decide +kernel)) ggX5_become_X6_copy
theorem dX5_become_0 : decode cX5_become 0 = .ok (.aload_n 1, 1) := by decide +kernel
theorem dX5_become_1 : decode cX5_become 1 = .ok (.invokevirtual 37, 3) := by decide +kernel
theorem dX5_become_4 : decode cX5_become 4 = .ok (.astore_n 2, 1) := by decide +kernel
theorem dX5_become_5 : decode cX5_become 5 = .ok (.aload_n 2, 1) := by decide +kernel
theorem dX5_become_6 : decode cX5_become 6 = .ok (.ifnonnull 4, 3) := by decide +kernel
theorem dX5_become_9 : decode cX5_become 9 = .ok (.return_, 1) := by decide +kernel
theorem dX5_become_10 : decode cX5_become 10 = .ok (.aload_n 0, 1) := by decide +kernel
theorem dX5_become_11 : decode cX5_become 11 = .ok (.aload_n 2, 1) := by decide +kernel
theorem dX5_become_12 : decode cX5_become 12 = .ok (.putfield 30, 3) := by decide +kernel
theorem dX5_become_15 : decode cX5_become 15 = .ok (.aload_n 0, 1) := by decide +kernel
theorem dX5_become_16 : decode cX5_become 16 = .ok (.getfield 14, 3) := by decide +kernel
theorem dX5_become_19 : decode cX5_become 19 = .ok (.aload_n 1, 1) := by decide +kernel
theorem dX5_become_20 : decode cX5_become 20 = .ok (.getfield 42, 3) := by decide +kernel
theorem dX5_become_23 : decode cX5_become 23 = .ok (.invokevirtual 43, 3) := by decide +kernel
theorem dX5_become_26 : decode cX5_become 26 = .ok (.aload_n 0, 1) := by decide +kernel
theorem dX5_become_27 : decode cX5_become 27 = .ok (.iconst 0, 1) := by decide +kernel
theorem dX5_become_28 : decode cX5_become 28 = .ok (.putfield 47, 3) := by decide +kernel
theorem dX5_become_31 : decode cX5_become 31 = .ok (.return_, 1) := by decide +kernel
theorem dX5_numberAt_0 : decode cX5_numberAt 0 = .ok (.iload_n 1, 1) := by decide +kernel
theorem dX5_numberAt_1 : decode cX5_numberAt 1 = .ok (.ifCond .lt 27, 3) := by decide +kernel
theorem dX5_numberAt_4 : decode cX5_numberAt 4 = .ok (.iload_n 1, 1) := by decide +kernel
theorem dX5_numberAt_5 : decode cX5_numberAt 5 = .ok (.aload_n 0, 1) := by decide +kernel
theorem dX5_numberAt_6 : decode cX5_numberAt 6 = .ok (.getfield 51, 3) := by decide +kernel
theorem dX5_numberAt_9 : decode cX5_numberAt 9 = .ok (.if_icmp .ge 19, 3) := by decide +kernel
theorem dX5_numberAt_12 : decode cX5_numberAt 12 = .ok (.iload_n 1, 1) := by decide +kernel
theorem dX5_numberAt_13 : decode cX5_numberAt 13 = .ok (.sipush 2000, 3) := by decide +kernel
theorem dX5_numberAt_16 : decode cX5_numberAt 16 = .ok (.if_icmp .ge 12, 3) := by decide +kernel
theorem dX5_numberAt_19 : decode cX5_numberAt 19 = .ok (.aload_n 0, 1) := by decide +kernel
theorem dX5_numberAt_20 : decode cX5_numberAt 20 = .ok (.getfield 20, 3) := by decide +kernel
theorem dX5_numberAt_23 : decode cX5_numberAt 23 = .ok (.iload_n 1, 1) := by decide +kernel
theorem dX5_numberAt_24 : decode cX5_numberAt 24 = .ok (.iaload, 1) := by decide +kernel
theorem dX5_numberAt_25 : decode cX5_numberAt 25 = .ok (.goto 5, 3) := by decide +kernel
theorem dX5_numberAt_28 : decode cX5_numberAt 28 = .ok (.bipush (-4), 2) := by decide +kernel
theorem dX5_numberAt_30 : decode cX5_numberAt 30 = .ok (.ireturn, 1) := by decide +kernel
set_option maxRecDepth 20000 in
theorem ggX5_placeOf_X5_numberAt : GoodIn wsX5_placeOf wsX5_numberAt := goodIn_r _ [6, 1, 7, 8, 9, 10, 11, 12] (by decide +kernel) (by decide +kernel)
set_option maxRecDepth 20000 in
theorem gX5_placeOf_X5_numberAt : GoodIn wsX5_placeOf (wsV RX5 55 RX5 yX5_numberAt wsX5_numberAt) := goodIn_app (goodIn_of _ (by decide +kernel)) ggX5_placeOf_X5_numberAt
theorem dX5_placeOf_0 : decode cX5_placeOf 0 = .ok (.iconst 0, 1) := by decide +kernel
theorem dX5_placeOf_1 : decode cX5_placeOf 1 = .ok (.istore_n 2, 1) := by decide +kernel
theorem dX5_placeOf_2 : decode cX5_placeOf 2 = .ok (.iload_n 2, 1) := by decide +kernel
theorem dX5_placeOf_3 : decode cX5_placeOf 3 = .ok (.aload_n 0, 1) := by decide +kernel
theorem dX5_placeOf_4 : decode cX5_placeOf 4 = .ok (.getfield 51, 3) := by decide +kernel
theorem dX5_placeOf_7 : decode cX5_placeOf 7 = .ok (.if_icmp .ge 20, 3) := by decide +kernel
theorem dX5_placeOf_10 : decode cX5_placeOf 10 = .ok (.aload_n 0, 1) := by decide +kernel
theorem dX5_placeOf_11 : decode cX5_placeOf 11 = .ok (.iload_n 2, 1) := by decide +kernel
theorem dX5_placeOf_12 : decode cX5_placeOf 12 = .ok (.invokevirtual 55, 3) := by decide +kernel
theorem dX5_placeOf_15 : decode cX5_placeOf 15 = .ok (.iload_n 1, 1) := by decide +kernel
theorem dX5_placeOf_16 : decode cX5_placeOf 16 = .ok (.if_icmp .ne 5, 3) := by decide +kernel
theorem dX5_placeOf_19 : decode cX5_placeOf 19 = .ok (.iload_n 2, 1) := by decide +kernel
theorem dX5_placeOf_20 : decode cX5_placeOf 20 = .ok (.ireturn, 1) := by decide +kernel
theorem dX5_placeOf_21 : decode cX5_placeOf 21 = .ok (.iinc 2 1, 3) := by decide +kernel
theorem dX5_placeOf_24 : decode cX5_placeOf 24 = .ok (.goto (-22), 3) := by decide +kernel
theorem dX5_placeOf_27 : decode cX5_placeOf 27 = .ok (.bipush (-4), 2) := by decide +kernel
theorem dX5_placeOf_29 : decode cX5_placeOf 29 = .ok (.ireturn, 1) := by decide +kernel
set_option maxRecDepth 20000 in
theorem ggX5_countOf_X5_numberAt : GoodIn wsX5_countOf wsX5_numberAt := goodIn_r _ [6, 1, 7, 8, 9, 10, 11, 12] (by decide +kernel) (by decide +kernel)
set_option maxRecDepth 20000 in
theorem gX5_countOf_X5_numberAt : GoodIn wsX5_countOf (wsV RX5 55 RX5 yX5_numberAt wsX5_numberAt) := goodIn_app (goodIn_of _ (by decide +kernel)) ggX5_countOf_X5_numberAt
theorem dX5_countOf_0 : decode cX5_countOf 0 = .ok (.iconst 0, 1) := by decide +kernel
theorem dX5_countOf_1 : decode cX5_countOf 1 = .ok (.istore_n 3, 1) := by decide +kernel
theorem dX5_countOf_2 : decode cX5_countOf 2 = .ok (.iconst 0, 1) := by decide +kernel
theorem dX5_countOf_3 : decode cX5_countOf 3 = .ok (.istore 4, 2) := by decide +kernel
theorem dX5_countOf_5 : decode cX5_countOf 5 = .ok (.iload 4, 2) := by decide +kernel
theorem dX5_countOf_7 : decode cX5_countOf 7 = .ok (.iload_n 2, 1) := by decide +kernel
theorem dX5_countOf_8 : decode cX5_countOf 8 = .ok (.if_icmp .ge 31, 3) := by decide +kernel
theorem dX5_countOf_11 : decode cX5_countOf 11 = .ok (.iload 4, 2) := by decide +kernel
theorem dX5_countOf_13 : decode cX5_countOf 13 = .ok (.aload_n 0, 1) := by decide +kernel
theorem dX5_countOf_14 : decode cX5_countOf 14 = .ok (.getfield 51, 3) := by decide +kernel
theorem dX5_countOf_17 : decode cX5_countOf 17 = .ok (.if_icmp .ge 22, 3) := by decide +kernel
theorem dX5_countOf_20 : decode cX5_countOf 20 = .ok (.aload_n 0, 1) := by decide +kernel
theorem dX5_countOf_21 : decode cX5_countOf 21 = .ok (.iload 4, 2) := by decide +kernel
theorem dX5_countOf_23 : decode cX5_countOf 23 = .ok (.invokevirtual 55, 3) := by decide +kernel
theorem dX5_countOf_26 : decode cX5_countOf 26 = .ok (.iload_n 1, 1) := by decide +kernel
theorem dX5_countOf_27 : decode cX5_countOf 27 = .ok (.if_icmp .ne 6, 3) := by decide +kernel
theorem dX5_countOf_30 : decode cX5_countOf 30 = .ok (.iinc 3 1, 3) := by decide +kernel
theorem dX5_countOf_33 : decode cX5_countOf 33 = .ok (.iinc 4 1, 3) := by decide +kernel
theorem dX5_countOf_36 : decode cX5_countOf 36 = .ok (.goto (-31), 3) := by decide +kernel
theorem dX5_countOf_39 : decode cX5_countOf 39 = .ok (.iload_n 3, 1) := by decide +kernel
theorem dX5_countOf_40 : decode cX5_countOf 40 = .ok (.ireturn, 1) := by decide +kernel
set_option maxRecDepth 20000 in
theorem ggX5_runEnd_X5_numberAt : GoodIn wsX5_runEnd wsX5_numberAt := goodIn_r _ [5, 6, 7, 8, 9, 10, 11, 12] (by decide +kernel) (by decide +kernel)
set_option maxRecDepth 20000 in
theorem gX5_runEnd_X5_numberAt : GoodIn wsX5_runEnd (wsV RX5 55 RX5 yX5_numberAt wsX5_numberAt) := goodIn_app (goodIn_of _ (by decide +kernel)) ggX5_runEnd_X5_numberAt
theorem dX5_runEnd_0 : decode cX5_runEnd 0 = .ok (.iload_n 1, 1) := by decide +kernel
theorem dX5_runEnd_1 : decode cX5_runEnd 1 = .ok (.iconst 1, 1) := by decide +kernel
theorem dX5_runEnd_2 : decode cX5_runEnd 2 = .ok (.iadd, 1) := by decide +kernel
theorem dX5_runEnd_3 : decode cX5_runEnd 3 = .ok (.istore_n 3, 1) := by decide +kernel
theorem dX5_runEnd_4 : decode cX5_runEnd 4 = .ok (.iload_n 3, 1) := by decide +kernel
theorem dX5_runEnd_5 : decode cX5_runEnd 5 = .ok (.iload_n 2, 1) := by decide +kernel
theorem dX5_runEnd_6 : decode cX5_runEnd 6 = .ok (.if_icmp .ge 22, 3) := by decide +kernel
theorem dX5_runEnd_9 : decode cX5_runEnd 9 = .ok (.aload_n 0, 1) := by decide +kernel
theorem dX5_runEnd_10 : decode cX5_runEnd 10 = .ok (.iload_n 3, 1) := by decide +kernel
theorem dX5_runEnd_11 : decode cX5_runEnd 11 = .ok (.invokevirtual 55, 3) := by decide +kernel
theorem dX5_runEnd_14 : decode cX5_runEnd 14 = .ok (.aload_n 0, 1) := by decide +kernel
theorem dX5_runEnd_15 : decode cX5_runEnd 15 = .ok (.iload_n 1, 1) := by decide +kernel
theorem dX5_runEnd_16 : decode cX5_runEnd 16 = .ok (.invokevirtual 55, 3) := by decide +kernel
theorem dX5_runEnd_19 : decode cX5_runEnd 19 = .ok (.if_icmp .ne 9, 3) := by decide +kernel
theorem dX5_runEnd_22 : decode cX5_runEnd 22 = .ok (.iinc 3 1, 3) := by decide +kernel
theorem dX5_runEnd_25 : decode cX5_runEnd 25 = .ok (.goto (-21), 3) := by decide +kernel
theorem dX5_runEnd_28 : decode cX5_runEnd 28 = .ok (.iload_n 3, 1) := by decide +kernel
theorem dX5_runEnd_29 : decode cX5_runEnd 29 = .ok (.ireturn, 1) := by decide +kernel
set_option maxRecDepth 20000 in
theorem ggX5_runStart_X5_runEnd : GoodIn wsX5_runStart wsX5_runEnd := goodIn_r _ [6, 7, 8, 9, 5, 10, 1, 11, 12, 13, 14, 15, 16] (by decide +kernel) (by decide +kernel)
set_option maxRecDepth 20000 in
theorem gX5_runStart_X5_runEnd : GoodIn wsX5_runStart (wsV RX5 59 RX5 yX5_runEnd wsX5_runEnd) := goodIn_app (goodIn_of _ (by decide +kernel)) ggX5_runStart_X5_runEnd
theorem dX5_runStart_0 : decode cX5_runStart 0 = .ok (.iconst 0, 1) := by decide +kernel
theorem dX5_runStart_1 : decode cX5_runStart 1 = .ok (.istore_n 2, 1) := by decide +kernel
theorem dX5_runStart_2 : decode cX5_runStart 2 = .ok (.iconst 0, 1) := by decide +kernel
theorem dX5_runStart_3 : decode cX5_runStart 3 = .ok (.istore_n 3, 1) := by decide +kernel
theorem dX5_runStart_4 : decode cX5_runStart 4 = .ok (.iload_n 3, 1) := by decide +kernel
theorem dX5_runStart_5 : decode cX5_runStart 5 = .ok (.iload_n 1, 1) := by decide +kernel
theorem dX5_runStart_6 : decode cX5_runStart 6 = .ok (.if_icmp .ge 27, 3) := by decide +kernel
theorem dX5_runStart_9 : decode cX5_runStart 9 = .ok (.iload_n 2, 1) := by decide +kernel
theorem dX5_runStart_10 : decode cX5_runStart 10 = .ok (.aload_n 0, 1) := by decide +kernel
theorem dX5_runStart_11 : decode cX5_runStart 11 = .ok (.getfield 51, 3) := by decide +kernel
theorem dX5_runStart_14 : decode cX5_runStart 14 = .ok (.if_icmp .ge 19, 3) := by decide +kernel
theorem dX5_runStart_17 : decode cX5_runStart 17 = .ok (.aload_n 0, 1) := by decide +kernel
theorem dX5_runStart_18 : decode cX5_runStart 18 = .ok (.iload_n 2, 1) := by decide +kernel
theorem dX5_runStart_19 : decode cX5_runStart 19 = .ok (.aload_n 0, 1) := by decide +kernel
theorem dX5_runStart_20 : decode cX5_runStart 20 = .ok (.getfield 51, 3) := by decide +kernel
theorem dX5_runStart_23 : decode cX5_runStart 23 = .ok (.invokevirtual 59, 3) := by decide +kernel
theorem dX5_runStart_26 : decode cX5_runStart 26 = .ok (.istore_n 2, 1) := by decide +kernel
theorem dX5_runStart_27 : decode cX5_runStart 27 = .ok (.iinc 3 1, 3) := by decide +kernel
theorem dX5_runStart_30 : decode cX5_runStart 30 = .ok (.goto (-26), 3) := by decide +kernel
theorem dX5_runStart_33 : decode cX5_runStart 33 = .ok (.iload_n 2, 1) := by decide +kernel
theorem dX5_runStart_34 : decode cX5_runStart 34 = .ok (.aload_n 0, 1) := by decide +kernel
theorem dX5_runStart_35 : decode cX5_runStart 35 = .ok (.getfield 51, 3) := by decide +kernel
theorem dX5_runStart_38 : decode cX5_runStart 38 = .ok (.if_icmp .ge 7, 3) := by decide +kernel
theorem dX5_runStart_41 : decode cX5_runStart 41 = .ok (.iload_n 2, 1) := by decide +kernel
theorem dX5_runStart_42 : decode cX5_runStart 42 = .ok (.goto 5, 3) := by decide +kernel
theorem dX5_runStart_45 : decode cX5_runStart 45 = .ok (.bipush (-4), 2) := by decide +kernel
theorem dX5_runStart_47 : decode cX5_runStart 47 = .ok (.ireturn, 1) := by decide +kernel
set_option maxRecDepth 20000 in
theorem ggX5_greatest_X5_numberAt : GoodIn wsX5_greatest wsX5_numberAt := goodIn_r _ [10, 1, 11, 12, 13, 14, 15, 16] (by decide +kernel) (by decide +kernel)
set_option maxRecDepth 20000 in
theorem gX5_greatest_X5_numberAt : GoodIn wsX5_greatest (wsV RX5 55 RX5 yX5_numberAt wsX5_numberAt) := goodIn_app (goodIn_of _ (by decide +kernel)) ggX5_greatest_X5_numberAt
theorem dX5_greatest_0 : decode cX5_greatest 0 = .ok (.bipush (-4), 2) := by decide +kernel
theorem dX5_greatest_2 : decode cX5_greatest 2 = .ok (.istore_n 2, 1) := by decide +kernel
theorem dX5_greatest_3 : decode cX5_greatest 3 = .ok (.iconst 0, 1) := by decide +kernel
theorem dX5_greatest_4 : decode cX5_greatest 4 = .ok (.istore_n 3, 1) := by decide +kernel
theorem dX5_greatest_5 : decode cX5_greatest 5 = .ok (.iload_n 3, 1) := by decide +kernel
theorem dX5_greatest_6 : decode cX5_greatest 6 = .ok (.iload_n 1, 1) := by decide +kernel
theorem dX5_greatest_7 : decode cX5_greatest 7 = .ok (.if_icmp .ge 27, 3) := by decide +kernel
theorem dX5_greatest_10 : decode cX5_greatest 10 = .ok (.iload_n 3, 1) := by decide +kernel
theorem dX5_greatest_11 : decode cX5_greatest 11 = .ok (.aload_n 0, 1) := by decide +kernel
theorem dX5_greatest_12 : decode cX5_greatest 12 = .ok (.getfield 51, 3) := by decide +kernel
theorem dX5_greatest_15 : decode cX5_greatest 15 = .ok (.if_icmp .ge 19, 3) := by decide +kernel
theorem dX5_greatest_18 : decode cX5_greatest 18 = .ok (.iload_n 2, 1) := by decide +kernel
theorem dX5_greatest_19 : decode cX5_greatest 19 = .ok (.aload_n 0, 1) := by decide +kernel
theorem dX5_greatest_20 : decode cX5_greatest 20 = .ok (.iload_n 3, 1) := by decide +kernel
theorem dX5_greatest_21 : decode cX5_greatest 21 = .ok (.invokevirtual 55, 3) := by decide +kernel
theorem dX5_greatest_24 : decode cX5_greatest 24 = .ok (.invokestatic 63, 3) := by decide +kernel
theorem dX5_greatest_27 : decode cX5_greatest 27 = .ok (.istore_n 2, 1) := by decide +kernel
theorem dX5_greatest_28 : decode cX5_greatest 28 = .ok (.iinc 3 1, 3) := by decide +kernel
theorem dX5_greatest_31 : decode cX5_greatest 31 = .ok (.goto (-26), 3) := by decide +kernel
theorem dX5_greatest_34 : decode cX5_greatest 34 = .ok (.iload_n 2, 1) := by decide +kernel
theorem dX5_greatest_35 : decode cX5_greatest 35 = .ok (.ireturn, 1) := by decide +kernel
set_option maxRecDepth 20000 in
theorem ggX5_longestRun_X5_runEnd : GoodIn wsX5_longestRun wsX5_runEnd := goodIn_r _ [13, 14, 15, 16, 12, 17, 1, 18, 19, 20, 21, 22, 23] (by decide +kernel) (by decide +kernel)
set_option maxRecDepth 20000 in
theorem gX5_longestRun_X5_runEnd : GoodIn wsX5_longestRun (wsV RX5 59 RX5 yX5_runEnd wsX5_runEnd) := goodIn_app (goodIn_of _ (by decide +kernel)) ggX5_longestRun_X5_runEnd
theorem dX5_longestRun_0 : decode cX5_longestRun 0 = .ok (.iload_n 1, 1) := by decide +kernel
theorem dX5_longestRun_1 : decode cX5_longestRun 1 = .ok (.aload_n 0, 1) := by decide +kernel
theorem dX5_longestRun_2 : decode cX5_longestRun 2 = .ok (.getfield 51, 3) := by decide +kernel
theorem dX5_longestRun_5 : decode cX5_longestRun 5 = .ok (.invokestatic 68, 3) := by decide +kernel
theorem dX5_longestRun_8 : decode cX5_longestRun 8 = .ok (.istore_n 2, 1) := by decide +kernel
theorem dX5_longestRun_9 : decode cX5_longestRun 9 = .ok (.iconst 0, 1) := by decide +kernel
theorem dX5_longestRun_10 : decode cX5_longestRun 10 = .ok (.istore_n 3, 1) := by decide +kernel
theorem dX5_longestRun_11 : decode cX5_longestRun 11 = .ok (.iconst 0, 1) := by decide +kernel
theorem dX5_longestRun_12 : decode cX5_longestRun 12 = .ok (.istore 4, 2) := by decide +kernel
theorem dX5_longestRun_14 : decode cX5_longestRun 14 = .ok (.iconst 0, 1) := by decide +kernel
theorem dX5_longestRun_15 : decode cX5_longestRun 15 = .ok (.istore 5, 2) := by decide +kernel
theorem dX5_longestRun_17 : decode cX5_longestRun 17 = .ok (.iload 5, 2) := by decide +kernel
theorem dX5_longestRun_19 : decode cX5_longestRun 19 = .ok (.sipush 2000, 3) := by decide +kernel
theorem dX5_longestRun_22 : decode cX5_longestRun 22 = .ok (.if_icmp .ge 38, 3) := by decide +kernel
theorem dX5_longestRun_25 : decode cX5_longestRun 25 = .ok (.iload 4, 2) := by decide +kernel
theorem dX5_longestRun_27 : decode cX5_longestRun 27 = .ok (.iload_n 2, 1) := by decide +kernel
theorem dX5_longestRun_28 : decode cX5_longestRun 28 = .ok (.if_icmp .ge 32, 3) := by decide +kernel
theorem dX5_longestRun_31 : decode cX5_longestRun 31 = .ok (.aload_n 0, 1) := by decide +kernel
theorem dX5_longestRun_32 : decode cX5_longestRun 32 = .ok (.iload 4, 2) := by decide +kernel
theorem dX5_longestRun_34 : decode cX5_longestRun 34 = .ok (.iload_n 2, 1) := by decide +kernel
theorem dX5_longestRun_35 : decode cX5_longestRun 35 = .ok (.invokevirtual 59, 3) := by decide +kernel
theorem dX5_longestRun_38 : decode cX5_longestRun 38 = .ok (.istore 6, 2) := by decide +kernel
theorem dX5_longestRun_40 : decode cX5_longestRun 40 = .ok (.iload_n 3, 1) := by decide +kernel
theorem dX5_longestRun_41 : decode cX5_longestRun 41 = .ok (.iload 6, 2) := by decide +kernel
theorem dX5_longestRun_43 : decode cX5_longestRun 43 = .ok (.iload 4, 2) := by decide +kernel
theorem dX5_longestRun_45 : decode cX5_longestRun 45 = .ok (.isub, 1) := by decide +kernel
theorem dX5_longestRun_46 : decode cX5_longestRun 46 = .ok (.invokestatic 63, 3) := by decide +kernel
theorem dX5_longestRun_49 : decode cX5_longestRun 49 = .ok (.istore_n 3, 1) := by decide +kernel
theorem dX5_longestRun_50 : decode cX5_longestRun 50 = .ok (.iload 6, 2) := by decide +kernel
theorem dX5_longestRun_52 : decode cX5_longestRun 52 = .ok (.istore 4, 2) := by decide +kernel
theorem dX5_longestRun_54 : decode cX5_longestRun 54 = .ok (.iinc 5 1, 3) := by decide +kernel
theorem dX5_longestRun_57 : decode cX5_longestRun 57 = .ok (.goto (-40), 3) := by decide +kernel
theorem dX5_longestRun_60 : decode cX5_longestRun 60 = .ok (.iload_n 3, 1) := by decide +kernel
theorem dX5_longestRun_61 : decode cX5_longestRun 61 = .ok (.ireturn, 1) := by decide +kernel
set_option maxRecDepth 20000 in
theorem ggX5_unlike_X3_clear : GoodIn wsX5_unlike wsX3_clear := goodIn_r _ [6, 7, 8, 9, 10, 11, 31] (by decide +kernel) (by decide +kernel)
set_option maxRecDepth 20000 in
theorem gX5_unlike_X3_clear : GoodIn wsX5_unlike (wsV RX5 71 RX3 yX3_clear wsX3_clear) := goodIn_app (goodIn_of _ (by decide +kernel)) ggX5_unlike_X3_clear
set_option maxRecDepth 20000 in
theorem ggX5_unlike_X5_numberAt : GoodIn wsX5_unlike wsX5_numberAt := goodIn_r _ [16, 1, 17, 26, 27, 28, 29, 30] (by decide +kernel) (by decide +kernel)
set_option maxRecDepth 20000 in
theorem gX5_unlike_X5_numberAt : GoodIn wsX5_unlike (wsV RX5 55 RX5 yX5_numberAt wsX5_numberAt) := goodIn_app (goodIn_of _ (by decide +kernel)) ggX5_unlike_X5_numberAt
set_option maxRecDepth 20000 in
theorem ggX5_unlike_X3_of : GoodIn wsX5_unlike wsX3_of := goodIn_r _ [21, 7, 31] (by decide +kernel) (by decide +kernel)
set_option maxRecDepth 20000 in
theorem gX5_unlike_X3_of : GoodIn wsX5_unlike (wsV RX5 76 RX3 yX3_of wsX3_of) := goodIn_app (goodIn_of _ (by decide +kernel)) ggX5_unlike_X3_of
set_option maxRecDepth 20000 in
theorem ggX5_unlike_X3_put : GoodIn wsX5_unlike wsX3_put := goodIn_r _ [25, 7, 31] (by decide +kernel) (by decide +kernel)
set_option maxRecDepth 20000 in
theorem gX5_unlike_X3_put : GoodIn wsX5_unlike (wsV RX5 79 RX3 yX3_put wsX3_put) := goodIn_app (goodIn_of _ (by decide +kernel)) ggX5_unlike_X3_put
theorem dX5_unlike_0 : decode cX5_unlike 0 = .ok (.aload_n 2, 1) := by decide +kernel
theorem dX5_unlike_1 : decode cX5_unlike 1 = .ok (.invokevirtual 71, 3) := by decide +kernel
theorem dX5_unlike_4 : decode cX5_unlike 4 = .ok (.iconst 0, 1) := by decide +kernel
theorem dX5_unlike_5 : decode cX5_unlike 5 = .ok (.istore_n 3, 1) := by decide +kernel
theorem dX5_unlike_6 : decode cX5_unlike 6 = .ok (.iconst 0, 1) := by decide +kernel
theorem dX5_unlike_7 : decode cX5_unlike 7 = .ok (.istore 4, 2) := by decide +kernel
theorem dX5_unlike_9 : decode cX5_unlike 9 = .ok (.iload 4, 2) := by decide +kernel
theorem dX5_unlike_11 : decode cX5_unlike 11 = .ok (.iload_n 1, 1) := by decide +kernel
theorem dX5_unlike_12 : decode cX5_unlike 12 = .ok (.if_icmp .ge 45, 3) := by decide +kernel
theorem dX5_unlike_15 : decode cX5_unlike 15 = .ok (.iload 4, 2) := by decide +kernel
theorem dX5_unlike_17 : decode cX5_unlike 17 = .ok (.aload_n 0, 1) := by decide +kernel
theorem dX5_unlike_18 : decode cX5_unlike 18 = .ok (.getfield 51, 3) := by decide +kernel
theorem dX5_unlike_21 : decode cX5_unlike 21 = .ok (.if_icmp .ge 36, 3) := by decide +kernel
theorem dX5_unlike_24 : decode cX5_unlike 24 = .ok (.aload_n 2, 1) := by decide +kernel
theorem dX5_unlike_25 : decode cX5_unlike 25 = .ok (.aload_n 0, 1) := by decide +kernel
theorem dX5_unlike_26 : decode cX5_unlike 26 = .ok (.iload 4, 2) := by decide +kernel
theorem dX5_unlike_28 : decode cX5_unlike 28 = .ok (.invokevirtual 55, 3) := by decide +kernel
theorem dX5_unlike_31 : decode cX5_unlike 31 = .ok (.invokevirtual 76, 3) := by decide +kernel
theorem dX5_unlike_34 : decode cX5_unlike 34 = .ok (.ifCond .ne 17, 3) := by decide +kernel
theorem dX5_unlike_37 : decode cX5_unlike 37 = .ok (.aload_n 2, 1) := by decide +kernel
theorem dX5_unlike_38 : decode cX5_unlike 38 = .ok (.aload_n 0, 1) := by decide +kernel
theorem dX5_unlike_39 : decode cX5_unlike 39 = .ok (.iload 4, 2) := by decide +kernel
theorem dX5_unlike_41 : decode cX5_unlike 41 = .ok (.invokevirtual 55, 3) := by decide +kernel
theorem dX5_unlike_44 : decode cX5_unlike 44 = .ok (.iconst 1, 1) := by decide +kernel
theorem dX5_unlike_45 : decode cX5_unlike 45 = .ok (.invokevirtual 79, 3) := by decide +kernel
theorem dX5_unlike_48 : decode cX5_unlike 48 = .ok (.iinc 3 1, 3) := by decide +kernel
theorem dX5_unlike_51 : decode cX5_unlike 51 = .ok (.iinc 4 1, 3) := by decide +kernel
theorem dX5_unlike_54 : decode cX5_unlike 54 = .ok (.goto (-45), 3) := by decide +kernel
theorem dX5_unlike_57 : decode cX5_unlike 57 = .ok (.iload_n 3, 1) := by decide +kernel
theorem dX5_unlike_58 : decode cX5_unlike 58 = .ok (.ireturn, 1) := by decide +kernel
set_option maxRecDepth 20000 in
theorem ggX5_period_X5_tail : GoodIn wsX5_period wsX5_tail := goodIn_r _ [6, 1, 7, 8, 9, 10, 11, 12, 13, 5, 14, 15, 16, 17, 18, 19, 20] (by decide +kernel) (by decide +kernel)
set_option maxRecDepth 20000 in
theorem gX5_period_X5_tail : GoodIn wsX5_period (wsV RX5 83 RX5 yX5_tail wsX5_tail) := goodIn_app (goodIn_of _ (by decide +kernel)) ggX5_period_X5_tail
theorem dX5_period_0 : decode cX5_period 0 = .ok (.iconst 1, 1) := by decide +kernel
theorem dX5_period_1 : decode cX5_period 1 = .ok (.istore_n 1, 1) := by decide +kernel
theorem dX5_period_2 : decode cX5_period 2 = .ok (.iload_n 1, 1) := by decide +kernel
theorem dX5_period_3 : decode cX5_period 3 = .ok (.sipush 600, 3) := by decide +kernel
theorem dX5_period_6 : decode cX5_period 6 = .ok (.if_icmp .gt 37, 3) := by decide +kernel
theorem dX5_period_9 : decode cX5_period 9 = .ok (.iconst 3, 1) := by decide +kernel
theorem dX5_period_10 : decode cX5_period 10 = .ok (.iload_n 1, 1) := by decide +kernel
theorem dX5_period_11 : decode cX5_period 11 = .ok (.imul, 1) := by decide +kernel
theorem dX5_period_12 : decode cX5_period 12 = .ok (.aload_n 0, 1) := by decide +kernel
theorem dX5_period_13 : decode cX5_period 13 = .ok (.getfield 51, 3) := by decide +kernel
theorem dX5_period_16 : decode cX5_period 16 = .ok (.if_icmp .gt 27, 3) := by decide +kernel
theorem dX5_period_19 : decode cX5_period 19 = .ok (.aload_n 0, 1) := by decide +kernel
theorem dX5_period_20 : decode cX5_period 20 = .ok (.getfield 51, 3) := by decide +kernel
theorem dX5_period_23 : decode cX5_period 23 = .ok (.aload_n 0, 1) := by decide +kernel
theorem dX5_period_24 : decode cX5_period 24 = .ok (.iload_n 1, 1) := by decide +kernel
theorem dX5_period_25 : decode cX5_period 25 = .ok (.invokevirtual 83, 3) := by decide +kernel
theorem dX5_period_28 : decode cX5_period 28 = .ok (.isub, 1) := by decide +kernel
theorem dX5_period_29 : decode cX5_period 29 = .ok (.iconst 3, 1) := by decide +kernel
theorem dX5_period_30 : decode cX5_period 30 = .ok (.iload_n 1, 1) := by decide +kernel
theorem dX5_period_31 : decode cX5_period 31 = .ok (.imul, 1) := by decide +kernel
theorem dX5_period_32 : decode cX5_period 32 = .ok (.if_icmp .lt 5, 3) := by decide +kernel
theorem dX5_period_35 : decode cX5_period 35 = .ok (.iload_n 1, 1) := by decide +kernel
theorem dX5_period_36 : decode cX5_period 36 = .ok (.ireturn, 1) := by decide +kernel
theorem dX5_period_37 : decode cX5_period 37 = .ok (.iinc 1 1, 3) := by decide +kernel
theorem dX5_period_40 : decode cX5_period 40 = .ok (.goto (-38), 3) := by decide +kernel
theorem dX5_period_43 : decode cX5_period 43 = .ok (.bipush (-4), 2) := by decide +kernel
theorem dX5_period_45 : decode cX5_period 45 = .ok (.ireturn, 1) := by decide +kernel
set_option maxRecDepth 20000 in
theorem ggX5_tail_X5_numberAt : GoodIn wsX5_tail wsX5_numberAt := goodIn_r _ [10, 1, 11, 12, 13, 14, 15, 16] (by decide +kernel) (by decide +kernel)
set_option maxRecDepth 20000 in
theorem gX5_tail_X5_numberAt : GoodIn wsX5_tail (wsV RX5 55 RX5 yX5_numberAt wsX5_numberAt) := goodIn_app (goodIn_of _ (by decide +kernel)) ggX5_tail_X5_numberAt
theorem dX5_tail_0 : decode cX5_tail 0 = .ok (.aload_n 0, 1) := by decide +kernel
theorem dX5_tail_1 : decode cX5_tail 1 = .ok (.getfield 51, 3) := by decide +kernel
theorem dX5_tail_4 : decode cX5_tail 4 = .ok (.iload_n 1, 1) := by decide +kernel
theorem dX5_tail_5 : decode cX5_tail 5 = .ok (.isub, 1) := by decide +kernel
theorem dX5_tail_6 : decode cX5_tail 6 = .ok (.iconst 0, 1) := by decide +kernel
theorem dX5_tail_7 : decode cX5_tail 7 = .ok (.invokestatic 63, 3) := by decide +kernel
theorem dX5_tail_10 : decode cX5_tail 10 = .ok (.istore_n 2, 1) := by decide +kernel
theorem dX5_tail_11 : decode cX5_tail 11 = .ok (.iload_n 2, 1) := by decide +kernel
theorem dX5_tail_12 : decode cX5_tail 12 = .ok (.ifCond .le 28, 3) := by decide +kernel
theorem dX5_tail_15 : decode cX5_tail 15 = .ok (.aload_n 0, 1) := by decide +kernel
theorem dX5_tail_16 : decode cX5_tail 16 = .ok (.iload_n 2, 1) := by decide +kernel
theorem dX5_tail_17 : decode cX5_tail 17 = .ok (.iconst 1, 1) := by decide +kernel
theorem dX5_tail_18 : decode cX5_tail 18 = .ok (.isub, 1) := by decide +kernel
theorem dX5_tail_19 : decode cX5_tail 19 = .ok (.invokevirtual 55, 3) := by decide +kernel
theorem dX5_tail_22 : decode cX5_tail 22 = .ok (.aload_n 0, 1) := by decide +kernel
theorem dX5_tail_23 : decode cX5_tail 23 = .ok (.iload_n 2, 1) := by decide +kernel
theorem dX5_tail_24 : decode cX5_tail 24 = .ok (.iconst 1, 1) := by decide +kernel
theorem dX5_tail_25 : decode cX5_tail 25 = .ok (.isub, 1) := by decide +kernel
theorem dX5_tail_26 : decode cX5_tail 26 = .ok (.iload_n 1, 1) := by decide +kernel
theorem dX5_tail_27 : decode cX5_tail 27 = .ok (.iadd, 1) := by decide +kernel
theorem dX5_tail_28 : decode cX5_tail 28 = .ok (.invokevirtual 55, 3) := by decide +kernel
theorem dX5_tail_31 : decode cX5_tail 31 = .ok (.if_icmp .ne 9, 3) := by decide +kernel
theorem dX5_tail_34 : decode cX5_tail 34 = .ok (.iinc 2 (-1), 3) := by decide +kernel
theorem dX5_tail_37 : decode cX5_tail 37 = .ok (.goto (-26), 3) := by decide +kernel
theorem dX5_tail_40 : decode cX5_tail 40 = .ok (.iload_n 2, 1) := by decide +kernel
theorem dX5_tail_41 : decode cX5_tail 41 = .ok (.ireturn, 1) := by decide +kernel
theorem dX6_init_0 : decode cX6_init 0 = .ok (.aload_n 0, 1) := by decide +kernel
theorem dX6_init_1 : decode cX6_init 1 = .ok (.invokespecial 3, 3) := by decide +kernel
theorem dX6_init_4 : decode cX6_init 4 = .ok (.aload_n 0, 1) := by decide +kernel
theorem dX6_init_5 : decode cX6_init 5 = .ok (.iload_n 1, 1) := by decide +kernel
theorem dX6_init_6 : decode cX6_init 6 = .ok (.iconst 0, 1) := by decide +kernel
theorem dX6_init_7 : decode cX6_init 7 = .ok (.invokestatic 9, 3) := by decide +kernel
theorem dX6_init_10 : decode cX6_init 10 = .ok (.newarray .int, 2) := by decide +kernel
theorem dX6_init_12 : decode cX6_init 12 = .ok (.putfield 15, 3) := by decide +kernel
theorem dX6_init_15 : decode cX6_init 15 = .ok (.return_, 1) := by decide +kernel
theorem dX6_size_0 : decode cX6_size 0 = .ok (.aload_n 0, 1) := by decide +kernel
theorem dX6_size_1 : decode cX6_size 1 = .ok (.getfield 21, 3) := by decide +kernel
theorem dX6_size_4 : decode cX6_size 4 = .ok (.ireturn, 1) := by decide +kernel
theorem dX6_get_0 : decode cX6_get 0 = .ok (.iload_n 1, 1) := by decide +kernel
theorem dX6_get_1 : decode cX6_get 1 = .ok (.ifCond .lt 29, 3) := by decide +kernel
theorem dX6_get_4 : decode cX6_get 4 = .ok (.iload_n 1, 1) := by decide +kernel
theorem dX6_get_5 : decode cX6_get 5 = .ok (.aload_n 0, 1) := by decide +kernel
theorem dX6_get_6 : decode cX6_get 6 = .ok (.getfield 21, 3) := by decide +kernel
theorem dX6_get_9 : decode cX6_get 9 = .ok (.if_icmp .ge 21, 3) := by decide +kernel
theorem dX6_get_12 : decode cX6_get 12 = .ok (.iload_n 1, 1) := by decide +kernel
theorem dX6_get_13 : decode cX6_get 13 = .ok (.aload_n 0, 1) := by decide +kernel
theorem dX6_get_14 : decode cX6_get 14 = .ok (.getfield 15, 3) := by decide +kernel
theorem dX6_get_17 : decode cX6_get 17 = .ok (.arraylength, 1) := by decide +kernel
theorem dX6_get_18 : decode cX6_get 18 = .ok (.if_icmp .ge 12, 3) := by decide +kernel
theorem dX6_get_21 : decode cX6_get 21 = .ok (.aload_n 0, 1) := by decide +kernel
theorem dX6_get_22 : decode cX6_get 22 = .ok (.getfield 15, 3) := by decide +kernel
theorem dX6_get_25 : decode cX6_get 25 = .ok (.iload_n 1, 1) := by decide +kernel
theorem dX6_get_26 : decode cX6_get 26 = .ok (.iaload, 1) := by decide +kernel
theorem dX6_get_27 : decode cX6_get 27 = .ok (.goto 5, 3) := by decide +kernel
theorem dX6_get_30 : decode cX6_get 30 = .ok (.bipush (-4), 2) := by decide +kernel
theorem dX6_get_32 : decode cX6_get 32 = .ok (.ireturn, 1) := by decide +kernel
theorem dX6_add_0 : decode cX6_add 0 = .ok (.aload_n 0, 1) := by decide +kernel
theorem dX6_add_1 : decode cX6_add 1 = .ok (.getfield 21, 3) := by decide +kernel
theorem dX6_add_4 : decode cX6_add 4 = .ok (.ifCond .lt 15, 3) := by decide +kernel
theorem dX6_add_7 : decode cX6_add 7 = .ok (.aload_n 0, 1) := by decide +kernel
theorem dX6_add_8 : decode cX6_add 8 = .ok (.getfield 21, 3) := by decide +kernel
theorem dX6_add_11 : decode cX6_add 11 = .ok (.aload_n 0, 1) := by decide +kernel
theorem dX6_add_12 : decode cX6_add 12 = .ok (.getfield 15, 3) := by decide +kernel
theorem dX6_add_15 : decode cX6_add 15 = .ok (.arraylength, 1) := by decide +kernel
theorem dX6_add_16 : decode cX6_add 16 = .ok (.if_icmp .lt 5, 3) := by decide +kernel
theorem dX6_add_19 : decode cX6_add 19 = .ok (.iconst 0, 1) := by decide +kernel
theorem dX6_add_20 : decode cX6_add 20 = .ok (.ireturn, 1) := by decide +kernel
theorem dX6_add_21 : decode cX6_add 21 = .ok (.aload_n 0, 1) := by decide +kernel
theorem dX6_add_22 : decode cX6_add 22 = .ok (.getfield 15, 3) := by decide +kernel
theorem dX6_add_25 : decode cX6_add 25 = .ok (.aload_n 0, 1) := by decide +kernel
theorem dX6_add_26 : decode cX6_add 26 = .ok (.getfield 21, 3) := by decide +kernel
theorem dX6_add_29 : decode cX6_add 29 = .ok (.iload_n 1, 1) := by decide +kernel
theorem dX6_add_30 : decode cX6_add 30 = .ok (.iastore, 1) := by decide +kernel
theorem dX6_add_31 : decode cX6_add 31 = .ok (.aload_n 0, 1) := by decide +kernel
theorem dX6_add_32 : decode cX6_add 32 = .ok (.dup, 1) := by decide +kernel
theorem dX6_add_33 : decode cX6_add 33 = .ok (.getfield 21, 3) := by decide +kernel
theorem dX6_add_36 : decode cX6_add 36 = .ok (.iconst 1, 1) := by decide +kernel
theorem dX6_add_37 : decode cX6_add 37 = .ok (.iadd, 1) := by decide +kernel
theorem dX6_add_38 : decode cX6_add 38 = .ok (.putfield 21, 3) := by decide +kernel
theorem dX6_add_41 : decode cX6_add 41 = .ok (.iconst 1, 1) := by decide +kernel
theorem dX6_add_42 : decode cX6_add 42 = .ok (.ireturn, 1) := by decide +kernel
theorem dX6_clear_0 : decode cX6_clear 0 = .ok (.aload_n 0, 1) := by decide +kernel
theorem dX6_clear_1 : decode cX6_clear 1 = .ok (.getfield 21, 3) := by decide +kernel
theorem dX6_clear_4 : decode cX6_clear 4 = .ok (.istore_n 1, 1) := by decide +kernel
theorem dX6_clear_5 : decode cX6_clear 5 = .ok (.aload_n 0, 1) := by decide +kernel
theorem dX6_clear_6 : decode cX6_clear 6 = .ok (.iconst 0, 1) := by decide +kernel
theorem dX6_clear_7 : decode cX6_clear 7 = .ok (.putfield 21, 3) := by decide +kernel
theorem dX6_clear_10 : decode cX6_clear 10 = .ok (.iload_n 1, 1) := by decide +kernel
theorem dX6_clear_11 : decode cX6_clear 11 = .ok (.ireturn, 1) := by decide +kernel
set_option maxRecDepth 20000 in
theorem ggX6_copy_X6_get : GoodIn wsX6_copy wsX6_get := goodIn_r _ [6, 1, 7, 12, 13] (by decide +kernel) (by decide +kernel)
set_option maxRecDepth 20000 in
theorem gX6_copy_X6_get : GoodIn wsX6_copy (wsV RX6 25 RX6 yX6_get wsX6_get) := goodIn_app (goodIn_of _ (by decide +kernel)) ggX6_copy_X6_get
set_option maxRecDepth 20000 in
theorem ggX6_copy_X6_add : GoodIn wsX6_copy wsX6_add := goodIn_r _ [11, 1, 7, 12, 13] (by decide +kernel) (by decide +kernel)
set_option maxRecDepth 20000 in
theorem gX6_copy_X6_add : GoodIn wsX6_copy (wsV RX6 29 RX6 yX6_add wsX6_add) := goodIn_app (goodIn_of _ (by decide +kernel)) ggX6_copy_X6_add
theorem dX6_copy_0 : decode cX6_copy 0 = .ok (.aload_n 0, 1) := by decide +kernel
theorem dX6_copy_1 : decode cX6_copy 1 = .ok (.iconst 0, 1) := by decide +kernel
theorem dX6_copy_2 : decode cX6_copy 2 = .ok (.putfield 21, 3) := by decide +kernel
theorem dX6_copy_5 : decode cX6_copy 5 = .ok (.iconst 0, 1) := by decide +kernel
theorem dX6_copy_6 : decode cX6_copy 6 = .ok (.istore_n 2, 1) := by decide +kernel
theorem dX6_copy_7 : decode cX6_copy 7 = .ok (.iload_n 2, 1) := by decide +kernel
theorem dX6_copy_8 : decode cX6_copy 8 = .ok (.aload_n 1, 1) := by decide +kernel
theorem dX6_copy_9 : decode cX6_copy 9 = .ok (.getfield 21, 3) := by decide +kernel
theorem dX6_copy_12 : decode cX6_copy 12 = .ok (.if_icmp .ge 19, 3) := by decide +kernel
theorem dX6_copy_15 : decode cX6_copy 15 = .ok (.aload_n 0, 1) := by decide +kernel
theorem dX6_copy_16 : decode cX6_copy 16 = .ok (.aload_n 1, 1) := by decide +kernel
theorem dX6_copy_17 : decode cX6_copy 17 = .ok (.iload_n 2, 1) := by decide +kernel
theorem dX6_copy_18 : decode cX6_copy 18 = .ok (.invokevirtual 25, 3) := by decide +kernel
theorem dX6_copy_21 : decode cX6_copy 21 = .ok (.invokevirtual 29, 3) := by decide +kernel
theorem dX6_copy_24 : decode cX6_copy 24 = .ok (.pop, 1) := by decide +kernel
theorem dX6_copy_25 : decode cX6_copy 25 = .ok (.iinc 2 1, 3) := by decide +kernel
theorem dX6_copy_28 : decode cX6_copy 28 = .ok (.goto (-21), 3) := by decide +kernel
theorem dX6_copy_31 : decode cX6_copy 31 = .ok (.return_, 1) := by decide +kernel
set_option maxRecDepth 20000 in
theorem ggX6_same_X6_get : GoodIn wsX6_same wsX6_get := goodIn_r _ [6, 1, 7, 8, 9] (by decide +kernel) (by decide +kernel)
set_option maxRecDepth 20000 in
theorem gX6_same_X6_get : GoodIn wsX6_same (wsV RX6 25 RX6 yX6_get wsX6_get) := goodIn_app (goodIn_of _ (by decide +kernel)) ggX6_same_X6_get
theorem dX6_same_0 : decode cX6_same 0 = .ok (.aload_n 0, 1) := by decide +kernel
theorem dX6_same_1 : decode cX6_same 1 = .ok (.getfield 21, 3) := by decide +kernel
theorem dX6_same_4 : decode cX6_same 4 = .ok (.aload_n 1, 1) := by decide +kernel
theorem dX6_same_5 : decode cX6_same 5 = .ok (.getfield 21, 3) := by decide +kernel
theorem dX6_same_8 : decode cX6_same 8 = .ok (.if_icmp .eq 5, 3) := by decide +kernel
theorem dX6_same_11 : decode cX6_same 11 = .ok (.iconst 0, 1) := by decide +kernel
theorem dX6_same_12 : decode cX6_same 12 = .ok (.ireturn, 1) := by decide +kernel
theorem dX6_same_13 : decode cX6_same 13 = .ok (.iconst 0, 1) := by decide +kernel
theorem dX6_same_14 : decode cX6_same 14 = .ok (.istore_n 2, 1) := by decide +kernel
theorem dX6_same_15 : decode cX6_same 15 = .ok (.iload_n 2, 1) := by decide +kernel
theorem dX6_same_16 : decode cX6_same 16 = .ok (.aload_n 0, 1) := by decide +kernel
theorem dX6_same_17 : decode cX6_same 17 = .ok (.getfield 21, 3) := by decide +kernel
theorem dX6_same_20 : decode cX6_same 20 = .ok (.if_icmp .ge 24, 3) := by decide +kernel
theorem dX6_same_23 : decode cX6_same 23 = .ok (.aload_n 0, 1) := by decide +kernel
theorem dX6_same_24 : decode cX6_same 24 = .ok (.iload_n 2, 1) := by decide +kernel
theorem dX6_same_25 : decode cX6_same 25 = .ok (.invokevirtual 25, 3) := by decide +kernel
theorem dX6_same_28 : decode cX6_same 28 = .ok (.aload_n 1, 1) := by decide +kernel
theorem dX6_same_29 : decode cX6_same 29 = .ok (.iload_n 2, 1) := by decide +kernel
theorem dX6_same_30 : decode cX6_same 30 = .ok (.invokevirtual 25, 3) := by decide +kernel
theorem dX6_same_33 : decode cX6_same 33 = .ok (.if_icmp .eq 5, 3) := by decide +kernel
theorem dX6_same_36 : decode cX6_same 36 = .ok (.iconst 0, 1) := by decide +kernel
theorem dX6_same_37 : decode cX6_same 37 = .ok (.ireturn, 1) := by decide +kernel
theorem dX6_same_38 : decode cX6_same 38 = .ok (.iinc 2 1, 3) := by decide +kernel
theorem dX6_same_41 : decode cX6_same 41 = .ok (.goto (-26), 3) := by decide +kernel
theorem dX6_same_44 : decode cX6_same 44 = .ok (.iconst 1, 1) := by decide +kernel
theorem dX6_same_45 : decode cX6_same 45 = .ok (.ireturn, 1) := by decide +kernel
set_option maxRecDepth 20000 in
theorem ggX7_allows_X6_size : GoodIn wsX7_allows wsX6_size := goodIn_r _ [10, 11, 17, 18] (by decide +kernel) (by decide +kernel)
set_option maxRecDepth 20000 in
theorem gX7_allows_X6_size : GoodIn wsX7_allows (wsV RX7 60 RX6 yX6_size wsX6_size) := goodIn_app (goodIn_of _ (by decide +kernel)) ggX7_allows_X6_size
set_option maxRecDepth 20000 in
theorem ggX7_allows_X6_get : GoodIn wsX7_allows wsX6_get := goodIn_r _ [15, 11, 16, 17, 18] (by decide +kernel) (by decide +kernel)
set_option maxRecDepth 20000 in
theorem gX7_allows_X6_get : GoodIn wsX7_allows (wsV RX7 66 RX6 yX6_get wsX6_get) := goodIn_app (goodIn_of _ (by decide +kernel)) ggX7_allows_X6_get
theorem dX7_allows_0 : decode cX7_allows 0 = .ok (.aload_n 1, 1) := by decide +kernel
theorem dX7_allows_1 : decode cX7_allows 1 = .ok (.invokevirtual 60, 3) := by decide +kernel
theorem dX7_allows_4 : decode cX7_allows 4 = .ok (.aload_n 0, 1) := by decide +kernel
theorem dX7_allows_5 : decode cX7_allows 5 = .ok (.getfield 48, 3) := by decide +kernel
theorem dX7_allows_8 : decode cX7_allows 8 = .ok (.if_icmp .lt 14, 3) := by decide +kernel
theorem dX7_allows_11 : decode cX7_allows 11 = .ok (.aload_n 1, 1) := by decide +kernel
theorem dX7_allows_12 : decode cX7_allows 12 = .ok (.invokevirtual 60, 3) := by decide +kernel
theorem dX7_allows_15 : decode cX7_allows 15 = .ok (.aload_n 0, 1) := by decide +kernel
theorem dX7_allows_16 : decode cX7_allows 16 = .ok (.getfield 51, 3) := by decide +kernel
theorem dX7_allows_19 : decode cX7_allows 19 = .ok (.if_icmp .le 5, 3) := by decide +kernel
theorem dX7_allows_22 : decode cX7_allows 22 = .ok (.iconst 0, 1) := by decide +kernel
theorem dX7_allows_23 : decode cX7_allows 23 = .ok (.ireturn, 1) := by decide +kernel
theorem dX7_allows_24 : decode cX7_allows 24 = .ok (.iconst 0, 1) := by decide +kernel
theorem dX7_allows_25 : decode cX7_allows 25 = .ok (.istore_n 2, 1) := by decide +kernel
theorem dX7_allows_26 : decode cX7_allows 26 = .ok (.iload_n 2, 1) := by decide +kernel
theorem dX7_allows_27 : decode cX7_allows 27 = .ok (.aload_n 1, 1) := by decide +kernel
theorem dX7_allows_28 : decode cX7_allows 28 = .ok (.invokevirtual 60, 3) := by decide +kernel
theorem dX7_allows_31 : decode cX7_allows 31 = .ok (.if_icmp .ge 35, 3) := by decide +kernel
theorem dX7_allows_34 : decode cX7_allows 34 = .ok (.aload_n 1, 1) := by decide +kernel
theorem dX7_allows_35 : decode cX7_allows 35 = .ok (.iload_n 2, 1) := by decide +kernel
theorem dX7_allows_36 : decode cX7_allows 36 = .ok (.invokevirtual 66, 3) := by decide +kernel
theorem dX7_allows_39 : decode cX7_allows 39 = .ok (.aload_n 0, 1) := by decide +kernel
theorem dX7_allows_40 : decode cX7_allows 40 = .ok (.getfield 54, 3) := by decide +kernel
theorem dX7_allows_43 : decode cX7_allows 43 = .ok (.if_icmp .lt 15, 3) := by decide +kernel
theorem dX7_allows_46 : decode cX7_allows 46 = .ok (.aload_n 1, 1) := by decide +kernel
theorem dX7_allows_47 : decode cX7_allows 47 = .ok (.iload_n 2, 1) := by decide +kernel
theorem dX7_allows_48 : decode cX7_allows 48 = .ok (.invokevirtual 66, 3) := by decide +kernel
theorem dX7_allows_51 : decode cX7_allows 51 = .ok (.aload_n 0, 1) := by decide +kernel
theorem dX7_allows_52 : decode cX7_allows 52 = .ok (.getfield 57, 3) := by decide +kernel
theorem dX7_allows_55 : decode cX7_allows 55 = .ok (.if_icmp .le 5, 3) := by decide +kernel
theorem dX7_allows_58 : decode cX7_allows 58 = .ok (.iconst 0, 1) := by decide +kernel
theorem dX7_allows_59 : decode cX7_allows 59 = .ok (.ireturn, 1) := by decide +kernel
theorem dX7_allows_60 : decode cX7_allows 60 = .ok (.iinc 2 1, 3) := by decide +kernel
theorem dX7_allows_63 : decode cX7_allows 63 = .ok (.goto (-37), 3) := by decide +kernel
theorem dX7_allows_66 : decode cX7_allows 66 = .ok (.aload_n 0, 1) := by decide +kernel
theorem dX7_allows_67 : decode cX7_allows 67 = .ok (.getstatic 16, 3) := by decide +kernel
theorem dX7_allows_70 : decode cX7_allows 70 = .ok (.if_acmp .ne 16, 3) := by decide +kernel
theorem dX7_allows_73 : decode cX7_allows 73 = .ok (.aload_n 1, 1) := by decide +kernel
theorem dX7_allows_74 : decode cX7_allows 74 = .ok (.iconst 1, 1) := by decide +kernel
theorem dX7_allows_75 : decode cX7_allows 75 = .ok (.invokevirtual 66, 3) := by decide +kernel
theorem dX7_allows_78 : decode cX7_allows 78 = .ok (.aload_n 1, 1) := by decide +kernel
theorem dX7_allows_79 : decode cX7_allows 79 = .ok (.iconst 0, 1) := by decide +kernel
theorem dX7_allows_80 : decode cX7_allows 80 = .ok (.invokevirtual 66, 3) := by decide +kernel
theorem dX7_allows_83 : decode cX7_allows 83 = .ok (.if_icmp .le 7, 3) := by decide +kernel
theorem dX7_allows_86 : decode cX7_allows 86 = .ok (.iconst 1, 1) := by decide +kernel
theorem dX7_allows_87 : decode cX7_allows 87 = .ok (.goto 4, 3) := by decide +kernel
theorem dX7_allows_90 : decode cX7_allows 90 = .ok (.iconst 0, 1) := by decide +kernel
theorem dX7_allows_91 : decode cX7_allows 91 = .ok (.ireturn, 1) := by decide +kernel
set_option maxRecDepth 20000 in
theorem ggX8_init_X6_init : GoodIn wsX8_init wsX6_init := goodIn_r _ [11, 12, 2, 3, 13, 14, 15, 16, 17, 18, 19, 20] (by decide +kernel) (by decide +kernel)
set_option maxRecDepth 20000 in
theorem gX8_init_X6_init : GoodIn wsX8_init (wsX6_init) := ggX8_init_X6_init
theorem dX8_init_0 : decode cX8_init 0 = .ok (.aload_n 0, 1) := by decide +kernel
theorem dX8_init_1 : decode cX8_init 1 = .ok (.invokespecial 3, 3) := by decide +kernel
theorem dX8_init_4 : decode cX8_init 4 = .ok (.aload_n 0, 1) := by decide +kernel
theorem dX8_init_5 : decode cX8_init 5 = .ok (.new 9, 3) := by decide +kernel
theorem dX8_init_8 : decode cX8_init 8 = .ok (.dup, 1) := by decide +kernel
theorem dX8_init_9 : decode cX8_init 9 = .ok (.sipush 5000, 3) := by decide +kernel
theorem dX8_init_12 : decode cX8_init 12 = .ok (.invokespecial 11, 3) := by decide +kernel
theorem dX8_init_15 : decode cX8_init 15 = .ok (.putfield 14, 3) := by decide +kernel
theorem dX8_init_18 : decode cX8_init 18 = .ok (.aload_n 0, 1) := by decide +kernel
theorem dX8_init_19 : decode cX8_init 19 = .ok (.new 9, 3) := by decide +kernel
theorem dX8_init_22 : decode cX8_init 22 = .ok (.dup, 1) := by decide +kernel
theorem dX8_init_23 : decode cX8_init 23 = .ok (.sipush 5000, 3) := by decide +kernel
theorem dX8_init_26 : decode cX8_init 26 = .ok (.invokespecial 11, 3) := by decide +kernel
theorem dX8_init_29 : decode cX8_init 29 = .ok (.putfield 20, 3) := by decide +kernel
theorem dX8_init_32 : decode cX8_init 32 = .ok (.return_, 1) := by decide +kernel
set_option maxRecDepth 20000 in
theorem ggX8_speak_X6_copy : GoodIn wsX8_speak wsX6_copy := goodIn_r _ [7, 8, 9, 10, 11, 6, 12, 13, 14, 15, 16, 17, 37, 38] (by decide +kernel) (by decide +kernel)
set_option maxRecDepth 20000 in
theorem gX8_speak_X6_copy : GoodIn wsX8_speak (wsV RX8 23 RX6 yX6_copy wsX6_copy) := goodIn_app (goodIn_of _ (by decide +kernel)) ggX8_speak_X6_copy
set_option maxRecDepth 20000 in
theorem ggX8_speak_X8_tally : GoodIn wsX8_speak wsX8_tally := goodIn_r _ [21, 22, 23, 24, 6, 25, 8, 26, 27, 28, 29, 30, 10, 11, 12, 13, 31, 15, 16, 17, 37, 38] (by decide +kernel) (by decide +kernel)
set_option maxRecDepth 20000 in
theorem gX8_speak_X8_tally : GoodIn wsX8_speak (va_wsS RX8 27 yX8_tally wsX8_tally) := goodIn_app (goodIn_of _ (by decide +kernel)) ggX8_speak_X8_tally
set_option maxRecDepth 20000 in
theorem ggX8_speak_X8_say : GoodIn wsX8_speak wsX8_say := goodIn_r _ [34, 22, 23, 24, 6, 25, 8, 26, 27, 28, 29, 30, 10, 11, 12, 13, 31, 15, 16, 17, 37, 38] (by decide +kernel) (by decide +kernel)
set_option maxRecDepth 20000 in
theorem gX8_speak_X8_say : GoodIn wsX8_speak (va_wsS RX8 31 yX8_say wsX8_say) := goodIn_app (goodIn_of _ (by decide +kernel)) ggX8_speak_X8_say
theorem dX8_speak_0 : decode cX8_speak 0 = .ok (.aload_n 0, 1) := by decide +kernel
theorem dX8_speak_1 : decode cX8_speak 1 = .ok (.getfield 14, 3) := by decide +kernel
theorem dX8_speak_4 : decode cX8_speak 4 = .ok (.astore 4, 2) := by decide +kernel
theorem dX8_speak_6 : decode cX8_speak 6 = .ok (.aload_n 0, 1) := by decide +kernel
theorem dX8_speak_7 : decode cX8_speak 7 = .ok (.getfield 20, 3) := by decide +kernel
theorem dX8_speak_10 : decode cX8_speak 10 = .ok (.astore 5, 2) := by decide +kernel
theorem dX8_speak_12 : decode cX8_speak 12 = .ok (.aload 4, 2) := by decide +kernel
theorem dX8_speak_14 : decode cX8_speak 14 = .ok (.aload_n 1, 1) := by decide +kernel
theorem dX8_speak_15 : decode cX8_speak 15 = .ok (.invokevirtual 23, 3) := by decide +kernel
theorem dX8_speak_18 : decode cX8_speak 18 = .ok (.iconst 0, 1) := by decide +kernel
theorem dX8_speak_19 : decode cX8_speak 19 = .ok (.istore 6, 2) := by decide +kernel
theorem dX8_speak_21 : decode cX8_speak 21 = .ok (.iload 6, 2) := by decide +kernel
theorem dX8_speak_23 : decode cX8_speak 23 = .ok (.iload_n 3, 1) := by decide +kernel
theorem dX8_speak_24 : decode cX8_speak 24 = .ok (.if_icmp .ge 50, 3) := by decide +kernel
theorem dX8_speak_27 : decode cX8_speak 27 = .ok (.iload_n 2, 1) := by decide +kernel
theorem dX8_speak_28 : decode cX8_speak 28 = .ok (.ifCond .eq 16, 3) := by decide +kernel
theorem dX8_speak_31 : decode cX8_speak 31 = .ok (.aload 4, 2) := by decide +kernel
theorem dX8_speak_33 : decode cX8_speak 33 = .ok (.aload 5, 2) := by decide +kernel
theorem dX8_speak_35 : decode cX8_speak 35 = .ok (.invokestatic 27, 3) := by decide +kernel
theorem dX8_speak_38 : decode cX8_speak 38 = .ok (.ifCond .eq 16, 3) := by decide +kernel
theorem dX8_speak_41 : decode cX8_speak 41 = .ok (.goto 15, 3) := by decide +kernel
theorem dX8_speak_44 : decode cX8_speak 44 = .ok (.aload 4, 2) := by decide +kernel
theorem dX8_speak_46 : decode cX8_speak 46 = .ok (.aload 5, 2) := by decide +kernel
theorem dX8_speak_48 : decode cX8_speak 48 = .ok (.invokestatic 31, 3) := by decide +kernel
theorem dX8_speak_51 : decode cX8_speak 51 = .ok (.ifCond .ne 5, 3) := by decide +kernel
theorem dX8_speak_54 : decode cX8_speak 54 = .ok (.aconst_null, 1) := by decide +kernel
theorem dX8_speak_55 : decode cX8_speak 55 = .ok (.areturn, 1) := by decide +kernel
theorem dX8_speak_56 : decode cX8_speak 56 = .ok (.aload 5, 2) := by decide +kernel
theorem dX8_speak_58 : decode cX8_speak 58 = .ok (.astore 7, 2) := by decide +kernel
theorem dX8_speak_60 : decode cX8_speak 60 = .ok (.aload 4, 2) := by decide +kernel
theorem dX8_speak_62 : decode cX8_speak 62 = .ok (.astore 5, 2) := by decide +kernel
theorem dX8_speak_64 : decode cX8_speak 64 = .ok (.aload 7, 2) := by decide +kernel
theorem dX8_speak_66 : decode cX8_speak 66 = .ok (.astore 4, 2) := by decide +kernel
theorem dX8_speak_68 : decode cX8_speak 68 = .ok (.iinc 6 1, 3) := by decide +kernel
theorem dX8_speak_71 : decode cX8_speak 71 = .ok (.goto (-50), 3) := by decide +kernel
theorem dX8_speak_74 : decode cX8_speak 74 = .ok (.aload 4, 2) := by decide +kernel
theorem dX8_speak_76 : decode cX8_speak 76 = .ok (.areturn, 1) := by decide +kernel
set_option maxRecDepth 20000 in
theorem ggX8_takeBack_X8_unsay : GoodIn wsX8_takeBack wsX8_unsay := goodIn_r _ [5, 6, 7, 8, 9, 10, 11, 12, 13, 14, 15, 16, 17, 18, 19, 20, 21, 22, 23, 24, 27, 28] (by decide +kernel) (by decide +kernel)
set_option maxRecDepth 20000 in
theorem gX8_takeBack_X8_unsay : GoodIn wsX8_takeBack (va_wsS RX8 34 yX8_unsay wsX8_unsay) := goodIn_app (goodIn_of _ (by decide +kernel)) ggX8_takeBack_X8_unsay
theorem dX8_takeBack_0 : decode cX8_takeBack 0 = .ok (.aload_n 1, 1) := by decide +kernel
theorem dX8_takeBack_1 : decode cX8_takeBack 1 = .ok (.aload_n 0, 1) := by decide +kernel
theorem dX8_takeBack_2 : decode cX8_takeBack 2 = .ok (.getfield 14, 3) := by decide +kernel
theorem dX8_takeBack_5 : decode cX8_takeBack 5 = .ok (.invokestatic 34, 3) := by decide +kernel
theorem dX8_takeBack_8 : decode cX8_takeBack 8 = .ok (.ifCond .eq 10, 3) := by decide +kernel
theorem dX8_takeBack_11 : decode cX8_takeBack 11 = .ok (.aload_n 0, 1) := by decide +kernel
theorem dX8_takeBack_12 : decode cX8_takeBack 12 = .ok (.getfield 14, 3) := by decide +kernel
theorem dX8_takeBack_15 : decode cX8_takeBack 15 = .ok (.goto 4, 3) := by decide +kernel
theorem dX8_takeBack_18 : decode cX8_takeBack 18 = .ok (.aconst_null, 1) := by decide +kernel
theorem dX8_takeBack_19 : decode cX8_takeBack 19 = .ok (.areturn, 1) := by decide +kernel
set_option maxRecDepth 20000 in
theorem ggX8_mostBacks_X6_copy : GoodIn wsX8_mostBacks wsX6_copy := goodIn_r _ [7, 8, 9, 10, 11, 6, 12, 13, 14, 15, 16, 17, 34, 35] (by decide +kernel) (by decide +kernel)
set_option maxRecDepth 20000 in
theorem gX8_mostBacks_X6_copy : GoodIn wsX8_mostBacks (wsV RX8 23 RX6 yX6_copy wsX6_copy) := goodIn_app (goodIn_of _ (by decide +kernel)) ggX8_mostBacks_X6_copy
set_option maxRecDepth 20000 in
theorem ggX8_mostBacks_X8_unsay : GoodIn wsX8_mostBacks wsX8_unsay := goodIn_r _ [21, 22, 23, 24, 6, 25, 8, 26, 27, 28, 29, 30, 10, 11, 12, 13, 31, 15, 16, 17, 34, 35] (by decide +kernel) (by decide +kernel)
set_option maxRecDepth 20000 in
theorem gX8_mostBacks_X8_unsay : GoodIn wsX8_mostBacks (va_wsS RX8 34 yX8_unsay wsX8_unsay) := goodIn_app (goodIn_of _ (by decide +kernel)) ggX8_mostBacks_X8_unsay
theorem dX8_mostBacks_0 : decode cX8_mostBacks 0 = .ok (.aload_n 0, 1) := by decide +kernel
theorem dX8_mostBacks_1 : decode cX8_mostBacks 1 = .ok (.getfield 14, 3) := by decide +kernel
theorem dX8_mostBacks_4 : decode cX8_mostBacks 4 = .ok (.astore_n 2, 1) := by decide +kernel
theorem dX8_mostBacks_5 : decode cX8_mostBacks 5 = .ok (.aload_n 0, 1) := by decide +kernel
theorem dX8_mostBacks_6 : decode cX8_mostBacks 6 = .ok (.getfield 20, 3) := by decide +kernel
theorem dX8_mostBacks_9 : decode cX8_mostBacks 9 = .ok (.astore_n 3, 1) := by decide +kernel
theorem dX8_mostBacks_10 : decode cX8_mostBacks 10 = .ok (.aload_n 2, 1) := by decide +kernel
theorem dX8_mostBacks_11 : decode cX8_mostBacks 11 = .ok (.aload_n 1, 1) := by decide +kernel
theorem dX8_mostBacks_12 : decode cX8_mostBacks 12 = .ok (.invokevirtual 23, 3) := by decide +kernel
theorem dX8_mostBacks_15 : decode cX8_mostBacks 15 = .ok (.iconst 0, 1) := by decide +kernel
theorem dX8_mostBacks_16 : decode cX8_mostBacks 16 = .ok (.istore 4, 2) := by decide +kernel
theorem dX8_mostBacks_18 : decode cX8_mostBacks 18 = .ok (.iload 4, 2) := by decide +kernel
theorem dX8_mostBacks_20 : decode cX8_mostBacks 20 = .ok (.bipush 20, 2) := by decide +kernel
theorem dX8_mostBacks_22 : decode cX8_mostBacks 22 = .ok (.if_icmp .ge 25, 3) := by decide +kernel
theorem dX8_mostBacks_25 : decode cX8_mostBacks 25 = .ok (.aload_n 2, 1) := by decide +kernel
theorem dX8_mostBacks_26 : decode cX8_mostBacks 26 = .ok (.aload_n 3, 1) := by decide +kernel
theorem dX8_mostBacks_27 : decode cX8_mostBacks 27 = .ok (.invokestatic 34, 3) := by decide +kernel
theorem dX8_mostBacks_30 : decode cX8_mostBacks 30 = .ok (.ifCond .eq 17, 3) := by decide +kernel
theorem dX8_mostBacks_33 : decode cX8_mostBacks 33 = .ok (.aload_n 3, 1) := by decide +kernel
theorem dX8_mostBacks_34 : decode cX8_mostBacks 34 = .ok (.astore 5, 2) := by decide +kernel
theorem dX8_mostBacks_36 : decode cX8_mostBacks 36 = .ok (.aload_n 2, 1) := by decide +kernel
theorem dX8_mostBacks_37 : decode cX8_mostBacks 37 = .ok (.astore_n 3, 1) := by decide +kernel
theorem dX8_mostBacks_38 : decode cX8_mostBacks 38 = .ok (.aload 5, 2) := by decide +kernel
theorem dX8_mostBacks_40 : decode cX8_mostBacks 40 = .ok (.astore_n 2, 1) := by decide +kernel
theorem dX8_mostBacks_41 : decode cX8_mostBacks 41 = .ok (.iinc 4 1, 3) := by decide +kernel
theorem dX8_mostBacks_44 : decode cX8_mostBacks 44 = .ok (.goto (-26), 3) := by decide +kernel
theorem dX8_mostBacks_47 : decode cX8_mostBacks 47 = .ok (.iload 4, 2) := by decide +kernel
theorem dX8_mostBacks_49 : decode cX8_mostBacks 49 = .ok (.ireturn, 1) := by decide +kernel
set_option maxRecDepth 20000 in
theorem ggX8_say_X6_clear : GoodIn wsX8_say wsX6_clear := goodIn_r _ [5, 6, 20, 21] (by decide +kernel) (by decide +kernel)
set_option maxRecDepth 20000 in
theorem gX8_say_X6_clear : GoodIn wsX8_say (wsV RX8 37 RX6 yX6_clear wsX6_clear) := goodIn_app (goodIn_of _ (by decide +kernel)) ggX8_say_X6_clear
set_option maxRecDepth 20000 in
theorem ggX8_say_X6_size : GoodIn wsX8_say wsX6_size := goodIn_r _ [10, 6, 20, 21] (by decide +kernel) (by decide +kernel)
set_option maxRecDepth 20000 in
theorem gX8_say_X6_size : GoodIn wsX8_say (wsV RX8 41 RX6 yX6_size wsX6_size) := goodIn_app (goodIn_of _ (by decide +kernel)) ggX8_say_X6_size
set_option maxRecDepth 20000 in
theorem ggX8_say_X6_get : GoodIn wsX8_say wsX6_get := goodIn_r _ [14, 6, 15, 20, 21] (by decide +kernel) (by decide +kernel)
set_option maxRecDepth 20000 in
theorem gX8_say_X6_get : GoodIn wsX8_say (wsV RX8 44 RX6 yX6_get wsX6_get) := goodIn_app (goodIn_of _ (by decide +kernel)) ggX8_say_X6_get
set_option maxRecDepth 20000 in
theorem ggX8_say_X6_add : GoodIn wsX8_say wsX6_add := goodIn_r _ [19, 6, 15, 20, 21] (by decide +kernel) (by decide +kernel)
set_option maxRecDepth 20000 in
theorem gX8_say_X6_add : GoodIn wsX8_say (wsV RX8 48 RX6 yX6_add wsX6_add) := goodIn_app (goodIn_of _ (by decide +kernel)) ggX8_say_X6_add
theorem dX8_say_0 : decode cX8_say 0 = .ok (.aload_n 1, 1) := by decide +kernel
theorem dX8_say_1 : decode cX8_say 1 = .ok (.invokevirtual 37, 3) := by decide +kernel
theorem dX8_say_4 : decode cX8_say 4 = .ok (.pop, 1) := by decide +kernel
theorem dX8_say_5 : decode cX8_say 5 = .ok (.iconst 0, 1) := by decide +kernel
theorem dX8_say_6 : decode cX8_say 6 = .ok (.istore_n 2, 1) := by decide +kernel
theorem dX8_say_7 : decode cX8_say 7 = .ok (.iconst 0, 1) := by decide +kernel
theorem dX8_say_8 : decode cX8_say 8 = .ok (.istore_n 3, 1) := by decide +kernel
theorem dX8_say_9 : decode cX8_say 9 = .ok (.iload_n 3, 1) := by decide +kernel
theorem dX8_say_10 : decode cX8_say 10 = .ok (.aload_n 0, 1) := by decide +kernel
theorem dX8_say_11 : decode cX8_say 11 = .ok (.invokevirtual 41, 3) := by decide +kernel
theorem dX8_say_14 : decode cX8_say 14 = .ok (.if_icmp .ge 70, 3) := by decide +kernel
theorem dX8_say_17 : decode cX8_say 17 = .ok (.iinc 2 1, 3) := by decide +kernel
theorem dX8_say_20 : decode cX8_say 20 = .ok (.iload_n 3, 1) := by decide +kernel
theorem dX8_say_21 : decode cX8_say 21 = .ok (.iconst 1, 1) := by decide +kernel
theorem dX8_say_22 : decode cX8_say 22 = .ok (.iadd, 1) := by decide +kernel
theorem dX8_say_23 : decode cX8_say 23 = .ok (.aload_n 0, 1) := by decide +kernel
theorem dX8_say_24 : decode cX8_say 24 = .ok (.invokevirtual 41, 3) := by decide +kernel
theorem dX8_say_27 : decode cX8_say 27 = .ok (.if_icmp .ge 21, 3) := by decide +kernel
theorem dX8_say_30 : decode cX8_say 30 = .ok (.aload_n 0, 1) := by decide +kernel
theorem dX8_say_31 : decode cX8_say 31 = .ok (.iload_n 3, 1) := by decide +kernel
theorem dX8_say_32 : decode cX8_say 32 = .ok (.iconst 1, 1) := by decide +kernel
theorem dX8_say_33 : decode cX8_say 33 = .ok (.iadd, 1) := by decide +kernel
theorem dX8_say_34 : decode cX8_say 34 = .ok (.invokevirtual 44, 3) := by decide +kernel
theorem dX8_say_37 : decode cX8_say 37 = .ok (.aload_n 0, 1) := by decide +kernel
theorem dX8_say_38 : decode cX8_say 38 = .ok (.iload_n 3, 1) := by decide +kernel
theorem dX8_say_39 : decode cX8_say 39 = .ok (.invokevirtual 44, 3) := by decide +kernel
theorem dX8_say_42 : decode cX8_say 42 = .ok (.if_icmp .ne 6, 3) := by decide +kernel
theorem dX8_say_45 : decode cX8_say 45 = .ok (.goto 33, 3) := by decide +kernel
theorem dX8_say_48 : decode cX8_say 48 = .ok (.iload_n 2, 1) := by decide +kernel
theorem dX8_say_49 : decode cX8_say 49 = .ok (.bipush 9, 2) := by decide +kernel
theorem dX8_say_51 : decode cX8_say 51 = .ok (.if_icmp .gt 23, 3) := by decide +kernel
theorem dX8_say_54 : decode cX8_say 54 = .ok (.aload_n 1, 1) := by decide +kernel
theorem dX8_say_55 : decode cX8_say 55 = .ok (.iload_n 2, 1) := by decide +kernel
theorem dX8_say_56 : decode cX8_say 56 = .ok (.invokevirtual 48, 3) := by decide +kernel
theorem dX8_say_59 : decode cX8_say 59 = .ok (.ifCond .eq 15, 3) := by decide +kernel
theorem dX8_say_62 : decode cX8_say 62 = .ok (.aload_n 1, 1) := by decide +kernel
theorem dX8_say_63 : decode cX8_say 63 = .ok (.aload_n 0, 1) := by decide +kernel
theorem dX8_say_64 : decode cX8_say 64 = .ok (.iload_n 3, 1) := by decide +kernel
theorem dX8_say_65 : decode cX8_say 65 = .ok (.invokevirtual 44, 3) := by decide +kernel
theorem dX8_say_68 : decode cX8_say 68 = .ok (.invokevirtual 48, 3) := by decide +kernel
theorem dX8_say_71 : decode cX8_say 71 = .ok (.ifCond .ne 5, 3) := by decide +kernel
theorem dX8_say_74 : decode cX8_say 74 = .ok (.iconst 0, 1) := by decide +kernel
theorem dX8_say_75 : decode cX8_say 75 = .ok (.ireturn, 1) := by decide +kernel
theorem dX8_say_76 : decode cX8_say 76 = .ok (.iconst 0, 1) := by decide +kernel
theorem dX8_say_77 : decode cX8_say 77 = .ok (.istore_n 2, 1) := by decide +kernel
theorem dX8_say_78 : decode cX8_say 78 = .ok (.iinc 3 1, 3) := by decide +kernel
theorem dX8_say_81 : decode cX8_say 81 = .ok (.goto (-72), 3) := by decide +kernel
theorem dX8_say_84 : decode cX8_say 84 = .ok (.iconst 1, 1) := by decide +kernel
theorem dX8_say_85 : decode cX8_say 85 = .ok (.ireturn, 1) := by decide +kernel
set_option maxRecDepth 20000 in
theorem ggX8_tally_X6_clear : GoodIn wsX8_tally wsX6_clear := goodIn_r _ [5, 6, 20, 21] (by decide +kernel) (by decide +kernel)
set_option maxRecDepth 20000 in
theorem gX8_tally_X6_clear : GoodIn wsX8_tally (wsV RX8 37 RX6 yX6_clear wsX6_clear) := goodIn_app (goodIn_of _ (by decide +kernel)) ggX8_tally_X6_clear
set_option maxRecDepth 20000 in
theorem ggX8_tally_X6_size : GoodIn wsX8_tally wsX6_size := goodIn_r _ [10, 6, 20, 21] (by decide +kernel) (by decide +kernel)
set_option maxRecDepth 20000 in
theorem gX8_tally_X6_size : GoodIn wsX8_tally (wsV RX8 41 RX6 yX6_size wsX6_size) := goodIn_app (goodIn_of _ (by decide +kernel)) ggX8_tally_X6_size
set_option maxRecDepth 20000 in
theorem ggX8_tally_X6_get : GoodIn wsX8_tally wsX6_get := goodIn_r _ [14, 6, 15, 20, 21] (by decide +kernel) (by decide +kernel)
set_option maxRecDepth 20000 in
theorem gX8_tally_X6_get : GoodIn wsX8_tally (wsV RX8 44 RX6 yX6_get wsX6_get) := goodIn_app (goodIn_of _ (by decide +kernel)) ggX8_tally_X6_get
set_option maxRecDepth 20000 in
theorem ggX8_tally_X6_add : GoodIn wsX8_tally wsX6_add := goodIn_r _ [19, 6, 15, 20, 21] (by decide +kernel) (by decide +kernel)
set_option maxRecDepth 20000 in
theorem gX8_tally_X6_add : GoodIn wsX8_tally (wsV RX8 48 RX6 yX6_add wsX6_add) := goodIn_app (goodIn_of _ (by decide +kernel)) ggX8_tally_X6_add
theorem dX8_tally_0 : decode cX8_tally 0 = .ok (.aload_n 1, 1) := by decide +kernel
theorem dX8_tally_1 : decode cX8_tally 1 = .ok (.invokevirtual 37, 3) := by decide +kernel
theorem dX8_tally_4 : decode cX8_tally 4 = .ok (.pop, 1) := by decide +kernel
theorem dX8_tally_5 : decode cX8_tally 5 = .ok (.iconst 1, 1) := by decide +kernel
theorem dX8_tally_6 : decode cX8_tally 6 = .ok (.istore_n 2, 1) := by decide +kernel
theorem dX8_tally_7 : decode cX8_tally 7 = .ok (.iload_n 2, 1) := by decide +kernel
theorem dX8_tally_8 : decode cX8_tally 8 = .ok (.bipush 9, 2) := by decide +kernel
theorem dX8_tally_10 : decode cX8_tally 10 = .ok (.if_icmp .gt 70, 3) := by decide +kernel
theorem dX8_tally_13 : decode cX8_tally 13 = .ok (.iconst 0, 1) := by decide +kernel
theorem dX8_tally_14 : decode cX8_tally 14 = .ok (.istore_n 3, 1) := by decide +kernel
theorem dX8_tally_15 : decode cX8_tally 15 = .ok (.iconst 0, 1) := by decide +kernel
theorem dX8_tally_16 : decode cX8_tally 16 = .ok (.istore 4, 2) := by decide +kernel
theorem dX8_tally_18 : decode cX8_tally 18 = .ok (.iload 4, 2) := by decide +kernel
theorem dX8_tally_20 : decode cX8_tally 20 = .ok (.aload_n 0, 1) := by decide +kernel
theorem dX8_tally_21 : decode cX8_tally 21 = .ok (.invokevirtual 41, 3) := by decide +kernel
theorem dX8_tally_24 : decode cX8_tally 24 = .ok (.if_icmp .ge 22, 3) := by decide +kernel
theorem dX8_tally_27 : decode cX8_tally 27 = .ok (.aload_n 0, 1) := by decide +kernel
theorem dX8_tally_28 : decode cX8_tally 28 = .ok (.iload 4, 2) := by decide +kernel
theorem dX8_tally_30 : decode cX8_tally 30 = .ok (.invokevirtual 44, 3) := by decide +kernel
theorem dX8_tally_33 : decode cX8_tally 33 = .ok (.iload_n 2, 1) := by decide +kernel
theorem dX8_tally_34 : decode cX8_tally 34 = .ok (.if_icmp .ne 6, 3) := by decide +kernel
theorem dX8_tally_37 : decode cX8_tally 37 = .ok (.iinc 3 1, 3) := by decide +kernel
theorem dX8_tally_40 : decode cX8_tally 40 = .ok (.iinc 4 1, 3) := by decide +kernel
theorem dX8_tally_43 : decode cX8_tally 43 = .ok (.goto (-25), 3) := by decide +kernel
theorem dX8_tally_46 : decode cX8_tally 46 = .ok (.iload_n 3, 1) := by decide +kernel
theorem dX8_tally_47 : decode cX8_tally 47 = .ok (.bipush 9, 2) := by decide +kernel
theorem dX8_tally_49 : decode cX8_tally 49 = .ok (.if_icmp .gt 23, 3) := by decide +kernel
theorem dX8_tally_52 : decode cX8_tally 52 = .ok (.iload_n 3, 1) := by decide +kernel
theorem dX8_tally_53 : decode cX8_tally 53 = .ok (.ifCond .le 21, 3) := by decide +kernel
theorem dX8_tally_56 : decode cX8_tally 56 = .ok (.aload_n 1, 1) := by decide +kernel
theorem dX8_tally_57 : decode cX8_tally 57 = .ok (.iload_n 3, 1) := by decide +kernel
theorem dX8_tally_58 : decode cX8_tally 58 = .ok (.invokevirtual 48, 3) := by decide +kernel
theorem dX8_tally_61 : decode cX8_tally 61 = .ok (.ifCond .eq 11, 3) := by decide +kernel
theorem dX8_tally_64 : decode cX8_tally 64 = .ok (.aload_n 1, 1) := by decide +kernel
theorem dX8_tally_65 : decode cX8_tally 65 = .ok (.iload_n 2, 1) := by decide +kernel
theorem dX8_tally_66 : decode cX8_tally 66 = .ok (.invokevirtual 48, 3) := by decide +kernel
theorem dX8_tally_69 : decode cX8_tally 69 = .ok (.ifCond .ne 5, 3) := by decide +kernel
theorem dX8_tally_72 : decode cX8_tally 72 = .ok (.iconst 0, 1) := by decide +kernel
theorem dX8_tally_73 : decode cX8_tally 73 = .ok (.ireturn, 1) := by decide +kernel
theorem dX8_tally_74 : decode cX8_tally 74 = .ok (.iinc 2 1, 3) := by decide +kernel
theorem dX8_tally_77 : decode cX8_tally 77 = .ok (.goto (-70), 3) := by decide +kernel
theorem dX8_tally_80 : decode cX8_tally 80 = .ok (.iconst 1, 1) := by decide +kernel
theorem dX8_tally_81 : decode cX8_tally 81 = .ok (.ireturn, 1) := by decide +kernel
set_option maxRecDepth 20000 in
theorem ggX8_unsay_X6_clear : GoodIn wsX8_unsay wsX6_clear := goodIn_r _ [5, 6, 20, 21] (by decide +kernel) (by decide +kernel)
set_option maxRecDepth 20000 in
theorem gX8_unsay_X6_clear : GoodIn wsX8_unsay (wsV RX8 37 RX6 yX6_clear wsX6_clear) := goodIn_app (goodIn_of _ (by decide +kernel)) ggX8_unsay_X6_clear
set_option maxRecDepth 20000 in
theorem ggX8_unsay_X6_size : GoodIn wsX8_unsay wsX6_size := goodIn_r _ [10, 6, 20, 21] (by decide +kernel) (by decide +kernel)
set_option maxRecDepth 20000 in
theorem gX8_unsay_X6_size : GoodIn wsX8_unsay (wsV RX8 41 RX6 yX6_size wsX6_size) := goodIn_app (goodIn_of _ (by decide +kernel)) ggX8_unsay_X6_size
set_option maxRecDepth 20000 in
theorem ggX8_unsay_X6_get : GoodIn wsX8_unsay wsX6_get := goodIn_r _ [14, 6, 15, 20, 21] (by decide +kernel) (by decide +kernel)
set_option maxRecDepth 20000 in
theorem gX8_unsay_X6_get : GoodIn wsX8_unsay (wsV RX8 44 RX6 yX6_get wsX6_get) := goodIn_app (goodIn_of _ (by decide +kernel)) ggX8_unsay_X6_get
set_option maxRecDepth 20000 in
theorem ggX8_unsay_X6_add : GoodIn wsX8_unsay wsX6_add := goodIn_r _ [19, 6, 15, 20, 21] (by decide +kernel) (by decide +kernel)
set_option maxRecDepth 20000 in
theorem gX8_unsay_X6_add : GoodIn wsX8_unsay (wsV RX8 48 RX6 yX6_add wsX6_add) := goodIn_app (goodIn_of _ (by decide +kernel)) ggX8_unsay_X6_add
theorem dX8_unsay_0 : decode cX8_unsay 0 = .ok (.aload_n 1, 1) := by decide +kernel
theorem dX8_unsay_1 : decode cX8_unsay 1 = .ok (.invokevirtual 37, 3) := by decide +kernel
theorem dX8_unsay_4 : decode cX8_unsay 4 = .ok (.pop, 1) := by decide +kernel
theorem dX8_unsay_5 : decode cX8_unsay 5 = .ok (.aload_n 0, 1) := by decide +kernel
theorem dX8_unsay_6 : decode cX8_unsay 6 = .ok (.invokevirtual 41, 3) := by decide +kernel
theorem dX8_unsay_9 : decode cX8_unsay 9 = .ok (.iconst 2, 1) := by decide +kernel
theorem dX8_unsay_10 : decode cX8_unsay 10 = .ok (.irem, 1) := by decide +kernel
theorem dX8_unsay_11 : decode cX8_unsay 11 = .ok (.ifCond .eq 5, 3) := by decide +kernel
theorem dX8_unsay_14 : decode cX8_unsay 14 = .ok (.iconst 0, 1) := by decide +kernel
theorem dX8_unsay_15 : decode cX8_unsay 15 = .ok (.ireturn, 1) := by decide +kernel
theorem dX8_unsay_16 : decode cX8_unsay 16 = .ok (.iconst 0, 1) := by decide +kernel
theorem dX8_unsay_17 : decode cX8_unsay 17 = .ok (.istore_n 2, 1) := by decide +kernel
theorem dX8_unsay_18 : decode cX8_unsay 18 = .ok (.iload_n 2, 1) := by decide +kernel
theorem dX8_unsay_19 : decode cX8_unsay 19 = .ok (.aload_n 0, 1) := by decide +kernel
theorem dX8_unsay_20 : decode cX8_unsay 20 = .ok (.invokevirtual 41, 3) := by decide +kernel
theorem dX8_unsay_23 : decode cX8_unsay 23 = .ok (.if_icmp .ge 63, 3) := by decide +kernel
theorem dX8_unsay_26 : decode cX8_unsay 26 = .ok (.aload_n 0, 1) := by decide +kernel
theorem dX8_unsay_27 : decode cX8_unsay 27 = .ok (.iload_n 2, 1) := by decide +kernel
theorem dX8_unsay_28 : decode cX8_unsay 28 = .ok (.iconst 1, 1) := by decide +kernel
theorem dX8_unsay_29 : decode cX8_unsay 29 = .ok (.iadd, 1) := by decide +kernel
theorem dX8_unsay_30 : decode cX8_unsay 30 = .ok (.invokevirtual 44, 3) := by decide +kernel
theorem dX8_unsay_33 : decode cX8_unsay 33 = .ok (.istore_n 3, 1) := by decide +kernel
theorem dX8_unsay_34 : decode cX8_unsay 34 = .ok (.iload_n 2, 1) := by decide +kernel
theorem dX8_unsay_35 : decode cX8_unsay 35 = .ok (.ifCond .le 16, 3) := by decide +kernel
theorem dX8_unsay_38 : decode cX8_unsay 38 = .ok (.iload_n 3, 1) := by decide +kernel
theorem dX8_unsay_39 : decode cX8_unsay 39 = .ok (.aload_n 0, 1) := by decide +kernel
theorem dX8_unsay_40 : decode cX8_unsay 40 = .ok (.iload_n 2, 1) := by decide +kernel
theorem dX8_unsay_41 : decode cX8_unsay 41 = .ok (.iconst 1, 1) := by decide +kernel
theorem dX8_unsay_42 : decode cX8_unsay 42 = .ok (.isub, 1) := by decide +kernel
theorem dX8_unsay_43 : decode cX8_unsay 43 = .ok (.invokevirtual 44, 3) := by decide +kernel
theorem dX8_unsay_46 : decode cX8_unsay 46 = .ok (.if_icmp .ne 5, 3) := by decide +kernel
theorem dX8_unsay_49 : decode cX8_unsay 49 = .ok (.iconst 0, 1) := by decide +kernel
theorem dX8_unsay_50 : decode cX8_unsay 50 = .ok (.ireturn, 1) := by decide +kernel
theorem dX8_unsay_51 : decode cX8_unsay 51 = .ok (.iconst 0, 1) := by decide +kernel
theorem dX8_unsay_52 : decode cX8_unsay 52 = .ok (.istore 4, 2) := by decide +kernel
theorem dX8_unsay_54 : decode cX8_unsay 54 = .ok (.iload 4, 2) := by decide +kernel
theorem dX8_unsay_56 : decode cX8_unsay 56 = .ok (.aload_n 0, 1) := by decide +kernel
theorem dX8_unsay_57 : decode cX8_unsay 57 = .ok (.iload_n 2, 1) := by decide +kernel
theorem dX8_unsay_58 : decode cX8_unsay 58 = .ok (.invokevirtual 44, 3) := by decide +kernel
theorem dX8_unsay_61 : decode cX8_unsay 61 = .ok (.if_icmp .ge 19, 3) := by decide +kernel
theorem dX8_unsay_64 : decode cX8_unsay 64 = .ok (.aload_n 1, 1) := by decide +kernel
theorem dX8_unsay_65 : decode cX8_unsay 65 = .ok (.iload_n 3, 1) := by decide +kernel
theorem dX8_unsay_66 : decode cX8_unsay 66 = .ok (.invokevirtual 48, 3) := by decide +kernel
theorem dX8_unsay_69 : decode cX8_unsay 69 = .ok (.ifCond .ne 5, 3) := by decide +kernel
theorem dX8_unsay_72 : decode cX8_unsay 72 = .ok (.iconst 0, 1) := by decide +kernel
theorem dX8_unsay_73 : decode cX8_unsay 73 = .ok (.ireturn, 1) := by decide +kernel
theorem dX8_unsay_74 : decode cX8_unsay 74 = .ok (.iinc 4 1, 3) := by decide +kernel
theorem dX8_unsay_77 : decode cX8_unsay 77 = .ok (.goto (-23), 3) := by decide +kernel
theorem dX8_unsay_80 : decode cX8_unsay 80 = .ok (.iinc 2 2, 3) := by decide +kernel
theorem dX8_unsay_83 : decode cX8_unsay 83 = .ok (.goto (-65), 3) := by decide +kernel
theorem dX8_unsay_86 : decode cX8_unsay 86 = .ok (.iconst 1, 1) := by decide +kernel
theorem dX8_unsay_87 : decode cX8_unsay 87 = .ok (.ireturn, 1) := by decide +kernel
theorem dX9_init_0 : decode cX9_init 0 = .ok (.aload_n 0, 1) := by decide +kernel
theorem dX9_init_1 : decode cX9_init 1 = .ok (.invokespecial 3, 3) := by decide +kernel
theorem dX9_init_4 : decode cX9_init 4 = .ok (.aload_n 0, 1) := by decide +kernel
theorem dX9_init_5 : decode cX9_init 5 = .ok (.bipush 10, 2) := by decide +kernel
theorem dX9_init_7 : decode cX9_init 7 = .ok (.newarray .int, 2) := by decide +kernel
theorem dX9_init_9 : decode cX9_init 9 = .ok (.putfield 9, 3) := by decide +kernel
theorem dX9_init_12 : decode cX9_init 12 = .ok (.return_, 1) := by decide +kernel
theorem dX9_answer_0 : decode cX9_answer 0 = .ok (.aload_n 0, 1) := by decide +kernel
theorem dX9_answer_1 : decode cX9_answer 1 = .ok (.getfield 15, 3) := by decide +kernel
theorem dX9_answer_4 : decode cX9_answer 4 = .ok (.lreturn, 1) := by decide +kernel
set_option maxRecDepth 20000 in
theorem ggX9_search_X9_fill : GoodIn wsX9_search wsX9_fill := goodIn_r _ [8, 9, 10, 11, 12, 7, 13, 14, 15, 16, 17, 2, 1, 4, 18, 5, 6, 19, 20, 21, 22] (by decide +kernel) (by decide +kernel)
set_option maxRecDepth 20000 in
theorem gX9_search_X9_fill : GoodIn wsX9_search (va_wsS RX9 28 yX9_fill wsX9_fill) := goodIn_app (goodIn_of _ (by decide +kernel)) ggX9_search_X9_fill
theorem dX9_search_0 : decode cX9_search 0 = .ok (.aload_n 0, 1) := by decide +kernel
theorem dX9_search_1 : decode cX9_search 1 = .ok (.iload_n 2, 1) := by decide +kernel
theorem dX9_search_2 : decode cX9_search 2 = .ok (.putfield 19, 3) := by decide +kernel
theorem dX9_search_5 : decode cX9_search 5 = .ok (.aload_n 0, 1) := by decide +kernel
theorem dX9_search_6 : decode cX9_search 6 = .ok (.iconst 0, 1) := by decide +kernel
theorem dX9_search_7 : decode cX9_search 7 = .ok (.putfield 23, 3) := by decide +kernel
theorem dX9_search_10 : decode cX9_search 10 = .ok (.aload_n 0, 1) := by decide +kernel
theorem dX9_search_11 : decode cX9_search 11 = .ok (.ldc2_w 26, 3) := by decide +kernel
theorem dX9_search_14 : decode cX9_search 14 = .ok (.putfield 15, 3) := by decide +kernel
theorem dX9_search_17 : decode cX9_search 17 = .ok (.aload_n 0, 1) := by decide +kernel
theorem dX9_search_18 : decode cX9_search 18 = .ok (.iload_n 1, 1) := by decide +kernel
theorem dX9_search_19 : decode cX9_search 19 = .ok (.iconst 0, 1) := by decide +kernel
theorem dX9_search_20 : decode cX9_search 20 = .ok (.iload_n 1, 1) := by decide +kernel
theorem dX9_search_21 : decode cX9_search 21 = .ok (.iload_n 1, 1) := by decide +kernel
theorem dX9_search_22 : decode cX9_search 22 = .ok (.invokestatic 28, 3) := by decide +kernel
theorem dX9_search_25 : decode cX9_search 25 = .ok (.aload_n 0, 1) := by decide +kernel
theorem dX9_search_26 : decode cX9_search 26 = .ok (.getfield 23, 3) := by decide +kernel
theorem dX9_search_29 : decode cX9_search 29 = .ok (.ireturn, 1) := by decide +kernel
set_option maxRecDepth 20000 in
theorem ggX9_fill_X9_tells : GoodIn wsX9_fill wsX9_tells := goodIn_r _ [6, 1, 17, 18, 19, 20] (by decide +kernel) (by decide +kernel)
set_option maxRecDepth 20000 in
theorem gX9_fill_X9_tells : GoodIn wsX9_fill (wsV RX9 32 RX9 yX9_tells wsX9_tells) := goodIn_app (goodIn_of _ (by decide +kernel)) ggX9_fill_X9_tells
set_option maxRecDepth 20000 in
theorem ggX9_fill_X9_keep : GoodIn wsX9_fill wsX9_keep := goodIn_r _ [10, 11, 12, 13, 1, 14, 17, 18, 19, 20] (by decide +kernel) (by decide +kernel)
set_option maxRecDepth 20000 in
theorem gX9_fill_X9_keep : GoodIn wsX9_fill (wsV RX9 36 RX9 yX9_keep wsX9_keep) := goodIn_app (goodIn_of _ (by decide +kernel)) ggX9_fill_X9_keep
set_option maxRecDepth 20000 in
theorem ggX9_fill_X9_fill : GoodIn wsX9_fill wsX9_fill := goodIn_r _ [0, 1, 2, 3, 4, 5, 6, 7, 8, 9, 10, 11, 12, 13, 14, 15, 16, 17, 18, 19, 20] (by decide +kernel) (by decide +kernel)
set_option maxRecDepth 20000 in
theorem gX9_fill_X9_fill : GoodIn wsX9_fill (va_wsS RX9 28 yX9_fill wsX9_fill) := goodIn_app (goodIn_of _ (by decide +kernel)) ggX9_fill_X9_fill
theorem dX9_fill_0 : decode cX9_fill 0 = .ok (.iload_n 2, 1) := by decide +kernel
theorem dX9_fill_1 : decode cX9_fill 1 = .ok (.ifCond .lt 17, 3) := by decide +kernel
theorem dX9_fill_4 : decode cX9_fill 4 = .ok (.iload_n 2, 1) := by decide +kernel
theorem dX9_fill_5 : decode cX9_fill 5 = .ok (.iload_n 1, 1) := by decide +kernel
theorem dX9_fill_6 : decode cX9_fill 6 = .ok (.if_icmp .ge 12, 3) := by decide +kernel
theorem dX9_fill_9 : decode cX9_fill 9 = .ok (.iload_n 2, 1) := by decide +kernel
theorem dX9_fill_10 : decode cX9_fill 10 = .ok (.aload_n 0, 1) := by decide +kernel
theorem dX9_fill_11 : decode cX9_fill 11 = .ok (.getfield 9, 3) := by decide +kernel
theorem dX9_fill_14 : decode cX9_fill 14 = .ok (.arraylength, 1) := by decide +kernel
theorem dX9_fill_15 : decode cX9_fill 15 = .ok (.if_icmp .lt 17, 3) := by decide +kernel
theorem dX9_fill_18 : decode cX9_fill 18 = .ok (.aload_n 0, 1) := by decide +kernel
theorem dX9_fill_19 : decode cX9_fill 19 = .ok (.iload_n 1, 1) := by decide +kernel
theorem dX9_fill_20 : decode cX9_fill 20 = .ok (.invokevirtual 32, 3) := by decide +kernel
theorem dX9_fill_23 : decode cX9_fill 23 = .ok (.ifCond .eq 8, 3) := by decide +kernel
theorem dX9_fill_26 : decode cX9_fill 26 = .ok (.aload_n 0, 1) := by decide +kernel
theorem dX9_fill_27 : decode cX9_fill 27 = .ok (.iload_n 1, 1) := by decide +kernel
theorem dX9_fill_28 : decode cX9_fill 28 = .ok (.invokevirtual 36, 3) := by decide +kernel
theorem dX9_fill_31 : decode cX9_fill 31 = .ok (.return_, 1) := by decide +kernel
theorem dX9_fill_32 : decode cX9_fill 32 = .ok (.iconst 0, 1) := by decide +kernel
theorem dX9_fill_33 : decode cX9_fill 33 = .ok (.istore 5, 2) := by decide +kernel
theorem dX9_fill_35 : decode cX9_fill 35 = .ok (.iload 5, 2) := by decide +kernel
theorem dX9_fill_37 : decode cX9_fill 37 = .ok (.iload_n 1, 1) := by decide +kernel
theorem dX9_fill_38 : decode cX9_fill 38 = .ok (.if_icmp .ge 51, 3) := by decide +kernel
theorem dX9_fill_41 : decode cX9_fill 41 = .ok (.iload 5, 2) := by decide +kernel
theorem dX9_fill_43 : decode cX9_fill 43 = .ok (.iload_n 3, 1) := by decide +kernel
theorem dX9_fill_44 : decode cX9_fill 44 = .ok (.if_icmp .gt 45, 3) := by decide +kernel
theorem dX9_fill_47 : decode cX9_fill 47 = .ok (.iload 5, 2) := by decide +kernel
theorem dX9_fill_49 : decode cX9_fill 49 = .ok (.iload_n 2, 1) := by decide +kernel
theorem dX9_fill_50 : decode cX9_fill 50 = .ok (.imul, 1) := by decide +kernel
theorem dX9_fill_51 : decode cX9_fill 51 = .ok (.iload 4, 2) := by decide +kernel
theorem dX9_fill_53 : decode cX9_fill 53 = .ok (.if_icmp .gt 36, 3) := by decide +kernel
theorem dX9_fill_56 : decode cX9_fill 56 = .ok (.aload_n 0, 1) := by decide +kernel
theorem dX9_fill_57 : decode cX9_fill 57 = .ok (.getfield 9, 3) := by decide +kernel
theorem dX9_fill_60 : decode cX9_fill 60 = .ok (.iload_n 2, 1) := by decide +kernel
theorem dX9_fill_61 : decode cX9_fill 61 = .ok (.iload 5, 2) := by decide +kernel
theorem dX9_fill_63 : decode cX9_fill 63 = .ok (.iastore, 1) := by decide +kernel
theorem dX9_fill_64 : decode cX9_fill 64 = .ok (.aload_n 0, 1) := by decide +kernel
theorem dX9_fill_65 : decode cX9_fill 65 = .ok (.iload_n 1, 1) := by decide +kernel
theorem dX9_fill_66 : decode cX9_fill 66 = .ok (.iload_n 2, 1) := by decide +kernel
theorem dX9_fill_67 : decode cX9_fill 67 = .ok (.iconst 1, 1) := by decide +kernel
theorem dX9_fill_68 : decode cX9_fill 68 = .ok (.iadd, 1) := by decide +kernel
theorem dX9_fill_69 : decode cX9_fill 69 = .ok (.iload_n 3, 1) := by decide +kernel
theorem dX9_fill_70 : decode cX9_fill 70 = .ok (.iload 5, 2) := by decide +kernel
theorem dX9_fill_72 : decode cX9_fill 72 = .ok (.isub, 1) := by decide +kernel
theorem dX9_fill_73 : decode cX9_fill 73 = .ok (.iload 4, 2) := by decide +kernel
theorem dX9_fill_75 : decode cX9_fill 75 = .ok (.iload 5, 2) := by decide +kernel
theorem dX9_fill_77 : decode cX9_fill 77 = .ok (.iload_n 2, 1) := by decide +kernel
theorem dX9_fill_78 : decode cX9_fill 78 = .ok (.imul, 1) := by decide +kernel
theorem dX9_fill_79 : decode cX9_fill 79 = .ok (.isub, 1) := by decide +kernel
theorem dX9_fill_80 : decode cX9_fill 80 = .ok (.invokestatic 28, 3) := by decide +kernel
theorem dX9_fill_83 : decode cX9_fill 83 = .ok (.iinc 5 1, 3) := by decide +kernel
theorem dX9_fill_86 : decode cX9_fill 86 = .ok (.goto (-51), 3) := by decide +kernel
theorem dX9_fill_89 : decode cX9_fill 89 = .ok (.return_, 1) := by decide +kernel
theorem dX9_tells_0 : decode cX9_tells 0 = .ok (.iconst 0, 1) := by decide +kernel
theorem dX9_tells_1 : decode cX9_tells 1 = .ok (.istore_n 2, 1) := by decide +kernel
theorem dX9_tells_2 : decode cX9_tells 2 = .ok (.iload_n 2, 1) := by decide +kernel
theorem dX9_tells_3 : decode cX9_tells 3 = .ok (.iload_n 1, 1) := by decide +kernel
theorem dX9_tells_4 : decode cX9_tells 4 = .ok (.if_icmp .ge 71, 3) := by decide +kernel
theorem dX9_tells_7 : decode cX9_tells 7 = .ok (.iload_n 2, 1) := by decide +kernel
theorem dX9_tells_8 : decode cX9_tells 8 = .ok (.aload_n 0, 1) := by decide +kernel
theorem dX9_tells_9 : decode cX9_tells 9 = .ok (.getfield 9, 3) := by decide +kernel
theorem dX9_tells_12 : decode cX9_tells 12 = .ok (.arraylength, 1) := by decide +kernel
theorem dX9_tells_13 : decode cX9_tells 13 = .ok (.if_icmp .ge 62, 3) := by decide +kernel
theorem dX9_tells_16 : decode cX9_tells 16 = .ok (.iconst 0, 1) := by decide +kernel
theorem dX9_tells_17 : decode cX9_tells 17 = .ok (.istore_n 3, 1) := by decide +kernel
theorem dX9_tells_18 : decode cX9_tells 18 = .ok (.iconst 0, 1) := by decide +kernel
theorem dX9_tells_19 : decode cX9_tells 19 = .ok (.istore 4, 2) := by decide +kernel
theorem dX9_tells_21 : decode cX9_tells 21 = .ok (.iload 4, 2) := by decide +kernel
theorem dX9_tells_23 : decode cX9_tells 23 = .ok (.iload_n 1, 1) := by decide +kernel
theorem dX9_tells_24 : decode cX9_tells 24 = .ok (.if_icmp .ge 33, 3) := by decide +kernel
theorem dX9_tells_27 : decode cX9_tells 27 = .ok (.iload 4, 2) := by decide +kernel
theorem dX9_tells_29 : decode cX9_tells 29 = .ok (.aload_n 0, 1) := by decide +kernel
theorem dX9_tells_30 : decode cX9_tells 30 = .ok (.getfield 9, 3) := by decide +kernel
theorem dX9_tells_33 : decode cX9_tells 33 = .ok (.arraylength, 1) := by decide +kernel
theorem dX9_tells_34 : decode cX9_tells 34 = .ok (.if_icmp .ge 23, 3) := by decide +kernel
theorem dX9_tells_37 : decode cX9_tells 37 = .ok (.aload_n 0, 1) := by decide +kernel
theorem dX9_tells_38 : decode cX9_tells 38 = .ok (.getfield 9, 3) := by decide +kernel
theorem dX9_tells_41 : decode cX9_tells 41 = .ok (.iload 4, 2) := by decide +kernel
theorem dX9_tells_43 : decode cX9_tells 43 = .ok (.iaload, 1) := by decide +kernel
theorem dX9_tells_44 : decode cX9_tells 44 = .ok (.iload_n 2, 1) := by decide +kernel
theorem dX9_tells_45 : decode cX9_tells 45 = .ok (.if_icmp .ne 6, 3) := by decide +kernel
theorem dX9_tells_48 : decode cX9_tells 48 = .ok (.iinc 3 1, 3) := by decide +kernel
theorem dX9_tells_51 : decode cX9_tells 51 = .ok (.iinc 4 1, 3) := by decide +kernel
theorem dX9_tells_54 : decode cX9_tells 54 = .ok (.goto (-33), 3) := by decide +kernel
theorem dX9_tells_57 : decode cX9_tells 57 = .ok (.iload_n 3, 1) := by decide +kernel
theorem dX9_tells_58 : decode cX9_tells 58 = .ok (.aload_n 0, 1) := by decide +kernel
theorem dX9_tells_59 : decode cX9_tells 59 = .ok (.getfield 9, 3) := by decide +kernel
theorem dX9_tells_62 : decode cX9_tells 62 = .ok (.iload_n 2, 1) := by decide +kernel
theorem dX9_tells_63 : decode cX9_tells 63 = .ok (.iaload, 1) := by decide +kernel
theorem dX9_tells_64 : decode cX9_tells 64 = .ok (.if_icmp .eq 5, 3) := by decide +kernel
theorem dX9_tells_67 : decode cX9_tells 67 = .ok (.iconst 0, 1) := by decide +kernel
theorem dX9_tells_68 : decode cX9_tells 68 = .ok (.ireturn, 1) := by decide +kernel
theorem dX9_tells_69 : decode cX9_tells 69 = .ok (.iinc 2 1, 3) := by decide +kernel
theorem dX9_tells_72 : decode cX9_tells 72 = .ok (.goto (-70), 3) := by decide +kernel
theorem dX9_tells_75 : decode cX9_tells 75 = .ok (.iconst 1, 1) := by decide +kernel
theorem dX9_tells_76 : decode cX9_tells 76 = .ok (.ireturn, 1) := by decide +kernel
theorem dX9_keep_0 : decode cX9_keep 0 = .ok (.aload_n 0, 1) := by decide +kernel
theorem dX9_keep_1 : decode cX9_keep 1 = .ok (.getfield 23, 3) := by decide +kernel
theorem dX9_keep_4 : decode cX9_keep 4 = .ok (.aload_n 0, 1) := by decide +kernel
theorem dX9_keep_5 : decode cX9_keep 5 = .ok (.getfield 19, 3) := by decide +kernel
theorem dX9_keep_8 : decode cX9_keep 8 = .ok (.if_icmp .ne 50, 3) := by decide +kernel
theorem dX9_keep_11 : decode cX9_keep 11 = .ok (.aload_n 0, 1) := by decide +kernel
theorem dX9_keep_12 : decode cX9_keep 12 = .ok (.lconst 0, 1) := by decide +kernel
theorem dX9_keep_13 : decode cX9_keep 13 = .ok (.putfield 15, 3) := by decide +kernel
theorem dX9_keep_16 : decode cX9_keep 16 = .ok (.iconst 0, 1) := by decide +kernel
theorem dX9_keep_17 : decode cX9_keep 17 = .ok (.istore_n 2, 1) := by decide +kernel
theorem dX9_keep_18 : decode cX9_keep 18 = .ok (.iload_n 2, 1) := by decide +kernel
theorem dX9_keep_19 : decode cX9_keep 19 = .ok (.iload_n 1, 1) := by decide +kernel
theorem dX9_keep_20 : decode cX9_keep 20 = .ok (.if_icmp .ge 38, 3) := by decide +kernel
theorem dX9_keep_23 : decode cX9_keep 23 = .ok (.iload_n 2, 1) := by decide +kernel
theorem dX9_keep_24 : decode cX9_keep 24 = .ok (.aload_n 0, 1) := by decide +kernel
theorem dX9_keep_25 : decode cX9_keep 25 = .ok (.getfield 9, 3) := by decide +kernel
theorem dX9_keep_28 : decode cX9_keep 28 = .ok (.arraylength, 1) := by decide +kernel
theorem dX9_keep_29 : decode cX9_keep 29 = .ok (.if_icmp .ge 29, 3) := by decide +kernel
theorem dX9_keep_32 : decode cX9_keep 32 = .ok (.aload_n 0, 1) := by decide +kernel
theorem dX9_keep_33 : decode cX9_keep 33 = .ok (.ldc2_w 40, 3) := by decide +kernel
theorem dX9_keep_36 : decode cX9_keep 36 = .ok (.aload_n 0, 1) := by decide +kernel
theorem dX9_keep_37 : decode cX9_keep 37 = .ok (.getfield 15, 3) := by decide +kernel
theorem dX9_keep_40 : decode cX9_keep 40 = .ok (.lmul, 1) := by decide +kernel
theorem dX9_keep_41 : decode cX9_keep 41 = .ok (.aload_n 0, 1) := by decide +kernel
theorem dX9_keep_42 : decode cX9_keep 42 = .ok (.getfield 9, 3) := by decide +kernel
theorem dX9_keep_45 : decode cX9_keep 45 = .ok (.iload_n 2, 1) := by decide +kernel
theorem dX9_keep_46 : decode cX9_keep 46 = .ok (.iaload, 1) := by decide +kernel
theorem dX9_keep_47 : decode cX9_keep 47 = .ok (.i2l, 1) := by decide +kernel
theorem dX9_keep_48 : decode cX9_keep 48 = .ok (.ladd, 1) := by decide +kernel
theorem dX9_keep_49 : decode cX9_keep 49 = .ok (.putfield 15, 3) := by decide +kernel
theorem dX9_keep_52 : decode cX9_keep 52 = .ok (.iinc 2 1, 3) := by decide +kernel
theorem dX9_keep_55 : decode cX9_keep 55 = .ok (.goto (-37), 3) := by decide +kernel
theorem dX9_keep_58 : decode cX9_keep 58 = .ok (.aload_n 0, 1) := by decide +kernel
theorem dX9_keep_59 : decode cX9_keep 59 = .ok (.dup, 1) := by decide +kernel
theorem dX9_keep_60 : decode cX9_keep 60 = .ok (.getfield 23, 3) := by decide +kernel
theorem dX9_keep_63 : decode cX9_keep 63 = .ok (.iconst 1, 1) := by decide +kernel
theorem dX9_keep_64 : decode cX9_keep 64 = .ok (.iadd, 1) := by decide +kernel
theorem dX9_keep_65 : decode cX9_keep 65 = .ok (.putfield 23, 3) := by decide +kernel
theorem dX9_keep_68 : decode cX9_keep 68 = .ok (.return_, 1) := by decide +kernel
theorem dJx29ce0_ordinal_8abf5_0 : decode cJx29ce0_ordinal_8abf5 0 = .ok (.aload_n 0, 1) := by decide +kernel
theorem dJx29ce0_ordinal_8abf5_1 : decode cJx29ce0_ordinal_8abf5 1 = .ok (.getfield 7, 3) := by decide +kernel
theorem dJx29ce0_ordinal_8abf5_4 : decode cJx29ce0_ordinal_8abf5 4 = .ok (.ireturn, 1) := by decide +kernel
theorem dJ9_max_7cf53_0 : decode cJ9_max_7cf53 0 = .ok (.iload_n 0, 1) := by decide +kernel
theorem dJ9_max_7cf53_1 : decode cJ9_max_7cf53 1 = .ok (.iload_n 1, 1) := by decide +kernel
theorem dJ9_max_7cf53_2 : decode cJ9_max_7cf53 2 = .ok (.if_icmp .lt 7, 3) := by decide +kernel
theorem dJ9_max_7cf53_5 : decode cJ9_max_7cf53 5 = .ok (.iload_n 0, 1) := by decide +kernel
theorem dJ9_max_7cf53_6 : decode cJ9_max_7cf53 6 = .ok (.goto 4, 3) := by decide +kernel
theorem dJ9_max_7cf53_9 : decode cJ9_max_7cf53 9 = .ok (.iload_n 1, 1) := by decide +kernel
theorem dJ9_max_7cf53_10 : decode cJ9_max_7cf53 10 = .ok (.ireturn, 1) := by decide +kernel
theorem dJ9_min_7cf53_0 : decode cJ9_min_7cf53 0 = .ok (.iload_n 0, 1) := by decide +kernel
theorem dJ9_min_7cf53_1 : decode cJ9_min_7cf53 1 = .ok (.iload_n 1, 1) := by decide +kernel
theorem dJ9_min_7cf53_2 : decode cJ9_min_7cf53 2 = .ok (.if_icmp .gt 7, 3) := by decide +kernel
theorem dJ9_min_7cf53_5 : decode cJ9_min_7cf53 5 = .ok (.iload_n 0, 1) := by decide +kernel
theorem dJ9_min_7cf53_6 : decode cJ9_min_7cf53 6 = .ok (.goto 4, 3) := by decide +kernel
theorem dJ9_min_7cf53_9 : decode cJ9_min_7cf53 9 = .ok (.iload_n 1, 1) := by decide +kernel
theorem dJ9_min_7cf53_10 : decode cJ9_min_7cf53 10 = .ok (.ireturn, 1) := by decide +kernel
theorem dJ7_fill_53178_0 : decode cJ7_fill_53178 0 = .ok (.iconst 0, 1) := by decide +kernel
theorem dJ7_fill_53178_1 : decode cJ7_fill_53178 1 = .ok (.istore_n 2, 1) := by decide +kernel
theorem dJ7_fill_53178_2 : decode cJ7_fill_53178 2 = .ok (.aload_n 0, 1) := by decide +kernel
theorem dJ7_fill_53178_3 : decode cJ7_fill_53178 3 = .ok (.arraylength, 1) := by decide +kernel
theorem dJ7_fill_53178_4 : decode cJ7_fill_53178 4 = .ok (.istore_n 3, 1) := by decide +kernel
theorem dJ7_fill_53178_5 : decode cJ7_fill_53178 5 = .ok (.iload_n 2, 1) := by decide +kernel
theorem dJ7_fill_53178_6 : decode cJ7_fill_53178 6 = .ok (.iload_n 3, 1) := by decide +kernel
theorem dJ7_fill_53178_7 : decode cJ7_fill_53178 7 = .ok (.if_icmp .ge 13, 3) := by decide +kernel
theorem dJ7_fill_53178_10 : decode cJ7_fill_53178 10 = .ok (.aload_n 0, 1) := by decide +kernel
theorem dJ7_fill_53178_11 : decode cJ7_fill_53178 11 = .ok (.iload_n 2, 1) := by decide +kernel
theorem dJ7_fill_53178_12 : decode cJ7_fill_53178 12 = .ok (.iload_n 1, 1) := by decide +kernel
theorem dJ7_fill_53178_13 : decode cJ7_fill_53178 13 = .ok (.iastore, 1) := by decide +kernel
theorem dJ7_fill_53178_14 : decode cJ7_fill_53178 14 = .ok (.iinc 2 1, 3) := by decide +kernel
theorem dJ7_fill_53178_17 : decode cJ7_fill_53178 17 = .ok (.goto (-12), 3) := by decide +kernel
theorem dJ7_fill_53178_20 : decode cJ7_fill_53178 20 = .ok (.return_, 1) := by decide +kernel
