set_option maxRecDepth 20000 in
theorem ggX10_init_X3_init : GoodIn wsX10_init wsX3_init := goodIn_r _ [39, 40, 2, 3, 41, 42, 43, 109] (by decide +kernel) (by decide +kernel)
set_option maxRecDepth 20000 in
theorem gX10_init_X3_init_n17 : GoodIn wsX10_init (wsX3_init) := ggX10_init_X3_init
set_option maxRecDepth 20000 in
theorem ggX10_init_X2_init : GoodIn wsX10_init wsX2_init := goodIn_r _ [46, 47, 2, 3, 42, 48, 49, 110, 111] (by decide +kernel) (by decide +kernel)
set_option maxRecDepth 20000 in
theorem gX10_init_X2_init : GoodIn wsX10_init (wsX2_init) := ggX10_init_X2_init
set_option maxRecDepth 20000 in
theorem ggX10_init_X6_init : GoodIn wsX10_init wsX6_init := goodIn_r _ [52, 53, 2, 3, 54, 55, 56, 57, 42, 58, 112, 113] (by decide +kernel) (by decide +kernel)
set_option maxRecDepth 20000 in
theorem gX10_init_X6_init : GoodIn wsX10_init (wsX6_init) := ggX10_init_X6_init
set_option maxRecDepth 20000 in
theorem ggX10_init_X1_init : GoodIn wsX10_init wsX1_init := goodIn_r _ [60, 61, 2, 3, 62, 15, 16, 63, 64, 65, 51, 52, 53, 54, 55, 56, 57, 42, 58, 112, 113, 114, 115, 116] (by decide +kernel) (by decide +kernel)
set_option maxRecDepth 20000 in
theorem gX10_init_X1_init_n42 : GoodIn wsX10_init (wsX1_init) := ggX10_init_X1_init
set_option maxRecDepth 20000 in
theorem ggX10_init_X8_init : GoodIn wsX10_init wsX8_init := goodIn_r _ [67, 68, 2, 3, 69, 15, 16, 70, 71, 72, 51, 52, 53, 54, 55, 56, 57, 42, 58, 112, 113, 117, 118] (by decide +kernel) (by decide +kernel)
set_option maxRecDepth 20000 in
theorem gX10_init_X8_init_n55 : GoodIn wsX10_init (wsX8_init) := ggX10_init_X8_init
set_option maxRecDepth 20000 in
theorem ggX10_init_X4_init : GoodIn wsX10_init wsX4_init := goodIn_r _ [75, 76, 2, 3, 77, 78, 15, 16, 79, 51, 52, 53, 54, 55, 56, 57, 42, 58, 119, 120, 121, 112, 113] (by decide +kernel) (by decide +kernel)
set_option maxRecDepth 20000 in
theorem gX10_init_X4_init : GoodIn wsX10_init (wsX4_init) := ggX10_init_X4_init
set_option maxRecDepth 20000 in
theorem ggX10_init_X9_init : GoodIn wsX10_init wsX9_init := goodIn_r _ [81, 82, 2, 3, 42, 83, 122, 123, 124, 125] (by decide +kernel) (by decide +kernel)
set_option maxRecDepth 20000 in
theorem gX10_init_X9_init_n69 : GoodIn wsX10_init (wsX9_init) := ggX10_init_X9_init
set_option maxRecDepth 20000 in
theorem ggX10_init_X5_init : GoodIn wsX10_init wsX5_init := goodIn_r _ [86, 87, 2, 3, 88, 15, 16, 89, 42, 90, 91, 92, 93, 51, 52, 53, 54, 55, 56, 57, 58, 94, 95, 96, 97, 98, 112, 113, 126, 127, 128, 129, 130] (by decide +kernel) (by decide +kernel)
set_option maxRecDepth 20000 in
theorem gX10_init_X5_init : GoodIn wsX10_init (wsX5_init) := ggX10_init_X5_init
theorem dX10_init_0 : decode cX10_init 0 = .ok (.aload_n 0, 1) := by decide +kernel
theorem dX10_init_1 : decode cX10_init 1 = .ok (.invokespecial 1, 3) := by decide +kernel
theorem dX10_init_4 : decode cX10_init 4 = .ok (.aload_n 0, 1) := by decide +kernel
theorem dX10_init_5 : decode cX10_init 5 = .ok (.iconst 4, 1) := by decide +kernel
theorem dX10_init_6 : decode cX10_init 6 = .ok (.anewarray 9, 3) := by decide +kernel
theorem dX10_init_9 : decode cX10_init 9 = .ok (.putfield 11, 3) := by decide +kernel
theorem dX10_init_12 : decode cX10_init 12 = .ok (.aload_n 0, 1) := by decide +kernel
theorem dX10_init_13 : decode cX10_init 13 = .ok (.new 15, 3) := by decide +kernel
theorem dX10_init_16 : decode cX10_init 16 = .ok (.dup, 1) := by decide +kernel
theorem dX10_init_17 : decode cX10_init 17 = .ok (.invokespecial 17, 3) := by decide +kernel
theorem dX10_init_20 : decode cX10_init 20 = .ok (.putfield 18, 3) := by decide +kernel
theorem dX10_init_23 : decode cX10_init 23 = .ok (.aload_n 0, 1) := by decide +kernel
theorem dX10_init_24 : decode cX10_init 24 = .ok (.new 22, 3) := by decide +kernel
theorem dX10_init_27 : decode cX10_init 27 = .ok (.dup, 1) := by decide +kernel
theorem dX10_init_28 : decode cX10_init 28 = .ok (.aload_n 0, 1) := by decide +kernel
theorem dX10_init_29 : decode cX10_init 29 = .ok (.getfield 18, 3) := by decide +kernel
theorem dX10_init_32 : decode cX10_init 32 = .ok (.invokespecial 24, 3) := by decide +kernel
theorem dX10_init_35 : decode cX10_init 35 = .ok (.putfield 27, 3) := by decide +kernel
theorem dX10_init_38 : decode cX10_init 38 = .ok (.aload_n 0, 1) := by decide +kernel
theorem dX10_init_39 : decode cX10_init 39 = .ok (.new 31, 3) := by decide +kernel
theorem dX10_init_42 : decode cX10_init 42 = .ok (.dup, 1) := by decide +kernel
theorem dX10_init_43 : decode cX10_init 43 = .ok (.bipush 120, 2) := by decide +kernel
theorem dX10_init_45 : decode cX10_init 45 = .ok (.invokespecial 33, 3) := by decide +kernel
theorem dX10_init_48 : decode cX10_init 48 = .ok (.putfield 36, 3) := by decide +kernel
theorem dX10_init_51 : decode cX10_init 51 = .ok (.aload_n 0, 1) := by decide +kernel
theorem dX10_init_52 : decode cX10_init 52 = .ok (.new 40, 3) := by decide +kernel
theorem dX10_init_55 : decode cX10_init 55 = .ok (.dup, 1) := by decide +kernel
theorem dX10_init_56 : decode cX10_init 56 = .ok (.invokespecial 42, 3) := by decide +kernel
theorem dX10_init_59 : decode cX10_init 59 = .ok (.putfield 43, 3) := by decide +kernel
theorem dX10_init_62 : decode cX10_init 62 = .ok (.aload_n 0, 1) := by decide +kernel
theorem dX10_init_63 : decode cX10_init 63 = .ok (.new 31, 3) := by decide +kernel
theorem dX10_init_66 : decode cX10_init 66 = .ok (.dup, 1) := by decide +kernel
theorem dX10_init_67 : decode cX10_init 67 = .ok (.bipush 40, 2) := by decide +kernel
theorem dX10_init_69 : decode cX10_init 69 = .ok (.invokespecial 33, 3) := by decide +kernel
theorem dX10_init_72 : decode cX10_init 72 = .ok (.putfield 47, 3) := by decide +kernel
theorem dX10_init_75 : decode cX10_init 75 = .ok (.aload_n 0, 1) := by decide +kernel
theorem dX10_init_76 : decode cX10_init 76 = .ok (.new 31, 3) := by decide +kernel
theorem dX10_init_79 : decode cX10_init 79 = .ok (.dup, 1) := by decide +kernel
theorem dX10_init_80 : decode cX10_init 80 = .ok (.bipush 40, 2) := by decide +kernel
theorem dX10_init_82 : decode cX10_init 82 = .ok (.invokespecial 33, 3) := by decide +kernel
theorem dX10_init_85 : decode cX10_init 85 = .ok (.putfield 50, 3) := by decide +kernel
theorem dX10_init_88 : decode cX10_init 88 = .ok (.aload_n 0, 1) := by decide +kernel
theorem dX10_init_89 : decode cX10_init 89 = .ok (.new 53, 3) := by decide +kernel
theorem dX10_init_92 : decode cX10_init 92 = .ok (.dup, 1) := by decide +kernel
theorem dX10_init_93 : decode cX10_init 93 = .ok (.invokespecial 55, 3) := by decide +kernel
theorem dX10_init_96 : decode cX10_init 96 = .ok (.putfield 56, 3) := by decide +kernel
theorem dX10_init_99 : decode cX10_init 99 = .ok (.aload_n 0, 1) := by decide +kernel
theorem dX10_init_100 : decode cX10_init 100 = .ok (.new 60, 3) := by decide +kernel
theorem dX10_init_103 : decode cX10_init 103 = .ok (.dup, 1) := by decide +kernel
theorem dX10_init_104 : decode cX10_init 104 = .ok (.invokespecial 62, 3) := by decide +kernel
theorem dX10_init_107 : decode cX10_init 107 = .ok (.putfield 63, 3) := by decide +kernel
theorem dX10_init_110 : decode cX10_init 110 = .ok (.aload_n 0, 1) := by decide +kernel
theorem dX10_init_111 : decode cX10_init 111 = .ok (.new 67, 3) := by decide +kernel
theorem dX10_init_114 : decode cX10_init 114 = .ok (.dup, 1) := by decide +kernel
theorem dX10_init_115 : decode cX10_init 115 = .ok (.invokespecial 69, 3) := by decide +kernel
theorem dX10_init_118 : decode cX10_init 118 = .ok (.putfield 70, 3) := by decide +kernel
theorem dX10_init_121 : decode cX10_init 121 = .ok (.iconst 0, 1) := by decide +kernel
theorem dX10_init_122 : decode cX10_init 122 = .ok (.istore_n 1, 1) := by decide +kernel
theorem dX10_init_123 : decode cX10_init 123 = .ok (.iload_n 1, 1) := by decide +kernel
theorem dX10_init_124 : decode cX10_init 124 = .ok (.iconst 4, 1) := by decide +kernel
theorem dX10_init_125 : decode cX10_init 125 = .ok (.if_icmp .ge 22, 3) := by decide +kernel
theorem dX10_init_128 : decode cX10_init 128 = .ok (.aload_n 0, 1) := by decide +kernel
theorem dX10_init_129 : decode cX10_init 129 = .ok (.getfield 11, 3) := by decide +kernel
theorem dX10_init_132 : decode cX10_init 132 = .ok (.iload_n 1, 1) := by decide +kernel
theorem dX10_init_133 : decode cX10_init 133 = .ok (.new 9, 3) := by decide +kernel
theorem dX10_init_136 : decode cX10_init 136 = .ok (.dup, 1) := by decide +kernel
theorem dX10_init_137 : decode cX10_init 137 = .ok (.invokespecial 74, 3) := by decide +kernel
theorem dX10_init_140 : decode cX10_init 140 = .ok (.aastore, 1) := by decide +kernel
theorem dX10_init_141 : decode cX10_init 141 = .ok (.iinc 1 1, 3) := by decide +kernel
theorem dX10_init_144 : decode cX10_init 144 = .ok (.goto (-21), 3) := by decide +kernel
theorem dX10_init_147 : decode cX10_init 147 = .ok (.return_, 1) := by decide +kernel
set_option maxRecDepth 20000 in
theorem ggX10_write_X6_size : GoodIn wsX10_write wsX6_size := goodIn_r _ [6, 7, 23, 24] (by decide +kernel) (by decide +kernel)
set_option maxRecDepth 20000 in
theorem gX10_write_X6_size : GoodIn wsX10_write (wsV RX10 75 RX6 yX6_size wsX6_size) := goodIn_app (goodIn_of _ (by decide +kernel)) ggX10_write_X6_size
set_option maxRecDepth 20000 in
theorem ggX10_write_X6_add : GoodIn wsX10_write wsX6_add := goodIn_r _ [11, 7, 12, 23, 24] (by decide +kernel) (by decide +kernel)
set_option maxRecDepth 20000 in
theorem gX10_write_X6_add : GoodIn wsX10_write (wsV RX10 79 RX6 yX6_add wsX6_add) := goodIn_app (goodIn_of _ (by decide +kernel)) ggX10_write_X6_add
theorem dX10_write_0 : decode cX10_write 0 = .ok (.iload_n 1, 1) := by decide +kernel
theorem dX10_write_1 : decode cX10_write 1 = .ok (.iconst 1, 1) := by decide +kernel
theorem dX10_write_2 : decode cX10_write 2 = .ok (.if_icmp .lt 9, 3) := by decide +kernel
theorem dX10_write_5 : decode cX10_write 5 = .ok (.iload_n 1, 1) := by decide +kernel
theorem dX10_write_6 : decode cX10_write 6 = .ok (.bipush 8, 2) := by decide +kernel
theorem dX10_write_8 : decode cX10_write 8 = .ok (.if_icmp .le 5, 3) := by decide +kernel
theorem dX10_write_11 : decode cX10_write 11 = .ok (.iconst (-1), 1) := by decide +kernel
theorem dX10_write_12 : decode cX10_write 12 = .ok (.ireturn, 1) := by decide +kernel
theorem dX10_write_13 : decode cX10_write 13 = .ok (.aload_n 0, 1) := by decide +kernel
theorem dX10_write_14 : decode cX10_write 14 = .ok (.getfield 36, 3) := by decide +kernel
theorem dX10_write_17 : decode cX10_write 17 = .ok (.invokevirtual 75, 3) := by decide +kernel
theorem dX10_write_20 : decode cX10_write 20 = .ok (.iload_n 1, 1) := by decide +kernel
theorem dX10_write_21 : decode cX10_write 21 = .ok (.iadd, 1) := by decide +kernel
theorem dX10_write_22 : decode cX10_write 22 = .ok (.bipush 120, 2) := by decide +kernel
theorem dX10_write_24 : decode cX10_write 24 = .ok (.if_icmp .le 6, 3) := by decide +kernel
theorem dX10_write_27 : decode cX10_write 27 = .ok (.bipush (-3), 2) := by decide +kernel
theorem dX10_write_29 : decode cX10_write 29 = .ok (.ireturn, 1) := by decide +kernel
theorem dX10_write_30 : decode cX10_write 30 = .ok (.iload_n 1, 1) := by decide +kernel
theorem dX10_write_31 : decode cX10_write 31 = .ok (.iconst 1, 1) := by decide +kernel
theorem dX10_write_32 : decode cX10_write 32 = .ok (.isub, 1) := by decide +kernel
theorem dX10_write_33 : decode cX10_write 33 = .ok (.istore 4, 2) := by decide +kernel
theorem dX10_write_35 : decode cX10_write 35 = .ok (.iload 4, 2) := by decide +kernel
theorem dX10_write_37 : decode cX10_write 37 = .ok (.ifCond .lt 29, 3) := by decide +kernel
theorem dX10_write_40 : decode cX10_write 40 = .ok (.aload_n 0, 1) := by decide +kernel
theorem dX10_write_41 : decode cX10_write 41 = .ok (.getfield 36, 3) := by decide +kernel
theorem dX10_write_44 : decode cX10_write 44 = .ok (.lload_n 2, 1) := by decide +kernel
theorem dX10_write_45 : decode cX10_write 45 = .ok (.bipush 8, 2) := by decide +kernel
theorem dX10_write_47 : decode cX10_write 47 = .ok (.iload 4, 2) := by decide +kernel
theorem dX10_write_49 : decode cX10_write 49 = .ok (.imul, 1) := by decide +kernel
theorem dX10_write_50 : decode cX10_write 50 = .ok (.lushr, 1) := by decide +kernel
theorem dX10_write_51 : decode cX10_write 51 = .ok (.l2i, 1) := by decide +kernel
theorem dX10_write_52 : decode cX10_write 52 = .ok (.sipush 255, 3) := by decide +kernel
theorem dX10_write_55 : decode cX10_write 55 = .ok (.iand, 1) := by decide +kernel
theorem dX10_write_56 : decode cX10_write 56 = .ok (.invokevirtual 79, 3) := by decide +kernel
theorem dX10_write_59 : decode cX10_write 59 = .ok (.pop, 1) := by decide +kernel
theorem dX10_write_60 : decode cX10_write 60 = .ok (.iinc 4 (-1), 3) := by decide +kernel
theorem dX10_write_63 : decode cX10_write 63 = .ok (.goto (-28), 3) := by decide +kernel
theorem dX10_write_66 : decode cX10_write 66 = .ok (.aload_n 0, 1) := by decide +kernel
theorem dX10_write_67 : decode cX10_write 67 = .ok (.getfield 36, 3) := by decide +kernel
theorem dX10_write_70 : decode cX10_write 70 = .ok (.invokevirtual 75, 3) := by decide +kernel
theorem dX10_write_73 : decode cX10_write 73 = .ok (.ireturn, 1) := by decide +kernel
set_option maxRecDepth 20000 in
theorem ggX10_wipe_X6_clear : GoodIn wsX10_wipe wsX6_clear := goodIn_r _ [6, 7, 18, 19] (by decide +kernel) (by decide +kernel)
set_option maxRecDepth 20000 in
theorem gX10_wipe_X6_clear : GoodIn wsX10_wipe (wsV RX10 83 RX6 yX6_clear wsX6_clear) := goodIn_app (goodIn_of _ (by decide +kernel)) ggX10_wipe_X6_clear
theorem dX10_wipe_0 : decode cX10_wipe 0 = .ok (.aload_n 0, 1) := by decide +kernel
theorem dX10_wipe_1 : decode cX10_wipe 1 = .ok (.getfield 36, 3) := by decide +kernel
theorem dX10_wipe_4 : decode cX10_wipe 4 = .ok (.invokevirtual 83, 3) := by decide +kernel
theorem dX10_wipe_7 : decode cX10_wipe 7 = .ok (.ireturn, 1) := by decide +kernel
set_option maxRecDepth 20000 in
theorem ggX10_fault_X6_size : GoodIn wsX10_fault wsX6_size := goodIn_r _ [7, 8, 69, 70] (by decide +kernel) (by decide +kernel)
set_option maxRecDepth 20000 in
theorem gX10_fault_X6_size : GoodIn wsX10_fault (wsV RX10 75 RX6 yX6_size wsX6_size) := goodIn_app (goodIn_of _ (by decide +kernel)) ggX10_fault_X6_size
set_option maxRecDepth 20000 in
theorem ggX10_fault_X1_standsAt : GoodIn wsX10_fault wsX1_standsAt := goodIn_r _ [13, 14, 15, 16, 17, 18, 12, 19, 20, 21, 22, 23, 6, 24, 8, 25, 26, 27, 28, 29, 30, 4, 5, 7, 31, 32, 33, 34, 35, 36, 37, 38, 39, 40, 41, 42, 43, 44, 45, 46, 47, 48, 49, 50, 51, 52, 53, 54, 71, 72, 73, 69, 70] (by decide +kernel) (by decide +kernel)
set_option maxRecDepth 20000 in
theorem gX10_fault_X1_standsAt : GoodIn wsX10_fault (wsV RX10 86 RX1 yX1_standsAt wsX1_standsAt) := goodIn_app (goodIn_of _ (by decide +kernel)) ggX10_fault_X1_standsAt
set_option maxRecDepth 20000 in
theorem ggX10_fault_X1_end : GoodIn wsX10_fault wsX1_end := goodIn_r _ [58, 20, 71, 72, 73] (by decide +kernel) (by decide +kernel)
set_option maxRecDepth 20000 in
theorem gX10_fault_X1_end : GoodIn wsX10_fault (wsV RX10 90 RX1 yX1_end wsX1_end) := goodIn_app (goodIn_of _ (by decide +kernel)) ggX10_fault_X1_end
theorem dX10_fault_0 : decode cX10_fault 0 = .ok (.iconst 0, 1) := by decide +kernel
theorem dX10_fault_1 : decode cX10_fault 1 = .ok (.istore_n 1, 1) := by decide +kernel
theorem dX10_fault_2 : decode cX10_fault 2 = .ok (.iconst 0, 1) := by decide +kernel
theorem dX10_fault_3 : decode cX10_fault 3 = .ok (.istore_n 2, 1) := by decide +kernel
theorem dX10_fault_4 : decode cX10_fault 4 = .ok (.iload_n 2, 1) := by decide +kernel
theorem dX10_fault_5 : decode cX10_fault 5 = .ok (.bipush 120, 2) := by decide +kernel
theorem dX10_fault_7 : decode cX10_fault 7 = .ok (.if_icmp .ge 45, 3) := by decide +kernel
theorem dX10_fault_10 : decode cX10_fault 10 = .ok (.iload_n 1, 1) := by decide +kernel
theorem dX10_fault_11 : decode cX10_fault 11 = .ok (.aload_n 0, 1) := by decide +kernel
theorem dX10_fault_12 : decode cX10_fault 12 = .ok (.getfield 36, 3) := by decide +kernel
theorem dX10_fault_15 : decode cX10_fault 15 = .ok (.invokevirtual 75, 3) := by decide +kernel
theorem dX10_fault_18 : decode cX10_fault 18 = .ok (.if_icmp .ge 34, 3) := by decide +kernel
theorem dX10_fault_21 : decode cX10_fault 21 = .ok (.aload_n 0, 1) := by decide +kernel
theorem dX10_fault_22 : decode cX10_fault 22 = .ok (.getfield 43, 3) := by decide +kernel
theorem dX10_fault_25 : decode cX10_fault 25 = .ok (.aload_n 0, 1) := by decide +kernel
theorem dX10_fault_26 : decode cX10_fault 26 = .ok (.getfield 36, 3) := by decide +kernel
theorem dX10_fault_29 : decode cX10_fault 29 = .ok (.iload_n 1, 1) := by decide +kernel
theorem dX10_fault_30 : decode cX10_fault 30 = .ok (.invokevirtual 86, 3) := by decide +kernel
theorem dX10_fault_33 : decode cX10_fault 33 = .ok (.ifCond .ne 5, 3) := by decide +kernel
theorem dX10_fault_36 : decode cX10_fault 36 = .ok (.iload_n 1, 1) := by decide +kernel
theorem dX10_fault_37 : decode cX10_fault 37 = .ok (.ireturn, 1) := by decide +kernel
theorem dX10_fault_38 : decode cX10_fault 38 = .ok (.aload_n 0, 1) := by decide +kernel
theorem dX10_fault_39 : decode cX10_fault 39 = .ok (.getfield 43, 3) := by decide +kernel
theorem dX10_fault_42 : decode cX10_fault 42 = .ok (.invokevirtual 90, 3) := by decide +kernel
theorem dX10_fault_45 : decode cX10_fault 45 = .ok (.istore_n 1, 1) := by decide +kernel
theorem dX10_fault_46 : decode cX10_fault 46 = .ok (.iinc 2 1, 3) := by decide +kernel
theorem dX10_fault_49 : decode cX10_fault 49 = .ok (.goto (-45), 3) := by decide +kernel
theorem dX10_fault_52 : decode cX10_fault 52 = .ok (.bipush (-4), 2) := by decide +kernel
theorem dX10_fault_54 : decode cX10_fault 54 = .ok (.ireturn, 1) := by decide +kernel
set_option maxRecDepth 20000 in
theorem ggX10_lay_X10_fault : GoodIn wsX10_lay wsX10_fault := goodIn_r _ [7, 1, 2, 8, 9, 10, 11, 12, 13, 14, 15, 16, 17, 18, 19, 20, 21, 22, 23, 24, 25, 26, 27, 28, 29, 30, 31, 32, 33, 34, 35, 36, 37, 38, 39, 40, 41, 42, 43, 44, 45, 46, 47, 48, 49, 50, 51, 52, 53, 54, 55, 56, 57, 58, 59, 60, 61, 62, 63, 85, 86, 87, 88, 89, 90, 91, 92, 93, 94, 95, 96, 97, 98, 99] (by decide +kernel) (by decide +kernel)
set_option maxRecDepth 20000 in
theorem gX10_lay_X10_fault : GoodIn wsX10_lay (wsV RX10 93 RX10 yX10_fault wsX10_fault) := goodIn_app (goodIn_of _ (by decide +kernel)) ggX10_lay_X10_fault
set_option maxRecDepth 20000 in
theorem ggX10_lay_X6_size : GoodIn wsX10_lay wsX6_size := goodIn_r _ [12, 13, 95, 96] (by decide +kernel) (by decide +kernel)
set_option maxRecDepth 20000 in
theorem gX10_lay_X6_size : GoodIn wsX10_lay (wsV RX10 75 RX6 yX6_size wsX6_size) := goodIn_app (goodIn_of _ (by decide +kernel)) ggX10_lay_X6_size
set_option maxRecDepth 20000 in
theorem ggX10_lay_X1_standsAt : GoodIn wsX10_lay wsX1_standsAt := goodIn_r _ [18, 19, 20, 21, 22, 23, 17, 24, 25, 26, 27, 28, 11, 29, 13, 30, 31, 32, 33, 34, 35, 9, 10, 12, 36, 37, 38, 39, 40, 41, 42, 43, 44, 45, 46, 47, 48, 49, 50, 51, 52, 53, 54, 55, 56, 57, 58, 59, 97, 98, 99, 95, 96] (by decide +kernel) (by decide +kernel)
set_option maxRecDepth 20000 in
theorem gX10_lay_X1_standsAt : GoodIn wsX10_lay (wsV RX10 86 RX1 yX1_standsAt wsX1_standsAt) := goodIn_app (goodIn_of _ (by decide +kernel)) ggX10_lay_X1_standsAt
set_option maxRecDepth 20000 in
theorem ggX10_lay_X1_register : GoodIn wsX10_lay wsX1_register := goodIn_r _ [43, 20, 30, 31, 32, 11, 33, 13, 34, 97, 98, 99, 95, 96] (by decide +kernel) (by decide +kernel)
set_option maxRecDepth 20000 in
theorem gX10_lay_X1_register : GoodIn wsX10_lay (wsV RX10 96 RX1 yX1_register wsX1_register) := goodIn_app (goodIn_of _ (by decide +kernel)) ggX10_lay_X1_register
set_option maxRecDepth 20000 in
theorem ggX10_lay_X10_registerOf : GoodIn wsX10_lay wsX10_registerOf := goodIn_r _ [68, 69, 85, 86, 87, 88, 89, 90, 91, 92, 93, 94] (by decide +kernel) (by decide +kernel)
set_option maxRecDepth 20000 in
theorem gX10_lay_X10_registerOf : GoodIn wsX10_lay (wsV RX10 99 RX10 yX10_registerOf wsX10_registerOf) := goodIn_app (goodIn_of _ (by decide +kernel)) ggX10_lay_X10_registerOf
set_option maxRecDepth 20000 in
theorem ggX10_lay_X5_become : GoodIn wsX10_lay wsX5_become := goodIn_r _ [74, 75, 76, 77, 78, 45, 46, 17, 47, 20, 30, 31, 32, 11, 33, 13, 34, 79, 80, 81, 82, 83, 84, 37, 38, 39, 100, 101, 102, 103, 104, 97, 98, 99, 95, 96] (by decide +kernel) (by decide +kernel)
set_option maxRecDepth 20000 in
theorem gX10_lay_X5_become : GoodIn wsX10_lay (wsV RX10 103 RX5 yX5_become wsX5_become) := goodIn_app (goodIn_of _ (by decide +kernel)) ggX10_lay_X5_become
set_option maxRecDepth 20000 in
theorem ggX10_lay_X1_end : GoodIn wsX10_lay wsX1_end := goodIn_r _ [63, 25, 97, 98, 99] (by decide +kernel) (by decide +kernel)
set_option maxRecDepth 20000 in
theorem gX10_lay_X1_end : GoodIn wsX10_lay (wsV RX10 90 RX1 yX1_end wsX1_end) := goodIn_app (goodIn_of _ (by decide +kernel)) ggX10_lay_X1_end
theorem dX10_lay_0 : decode cX10_lay 0 = .ok (.aload_n 0, 1) := by decide +kernel
theorem dX10_lay_1 : decode cX10_lay 1 = .ok (.invokevirtual 93, 3) := by decide +kernel
theorem dX10_lay_4 : decode cX10_lay 4 = .ok (.bipush (-4), 2) := by decide +kernel
theorem dX10_lay_6 : decode cX10_lay 6 = .ok (.if_icmp .eq 6, 3) := by decide +kernel
theorem dX10_lay_9 : decode cX10_lay 9 = .ok (.bipush (-2), 2) := by decide +kernel
theorem dX10_lay_11 : decode cX10_lay 11 = .ok (.ireturn, 1) := by decide +kernel
theorem dX10_lay_12 : decode cX10_lay 12 = .ok (.iconst 0, 1) := by decide +kernel
theorem dX10_lay_13 : decode cX10_lay 13 = .ok (.istore_n 1, 1) := by decide +kernel
theorem dX10_lay_14 : decode cX10_lay 14 = .ok (.iconst 0, 1) := by decide +kernel
theorem dX10_lay_15 : decode cX10_lay 15 = .ok (.istore_n 2, 1) := by decide +kernel
theorem dX10_lay_16 : decode cX10_lay 16 = .ok (.iload_n 1, 1) := by decide +kernel
theorem dX10_lay_17 : decode cX10_lay 17 = .ok (.bipush 120, 2) := by decide +kernel
theorem dX10_lay_19 : decode cX10_lay 19 = .ok (.if_icmp .ge 67, 3) := by decide +kernel
theorem dX10_lay_22 : decode cX10_lay 22 = .ok (.iload_n 2, 1) := by decide +kernel
theorem dX10_lay_23 : decode cX10_lay 23 = .ok (.aload_n 0, 1) := by decide +kernel
theorem dX10_lay_24 : decode cX10_lay 24 = .ok (.getfield 36, 3) := by decide +kernel
theorem dX10_lay_27 : decode cX10_lay 27 = .ok (.invokevirtual 75, 3) := by decide +kernel
theorem dX10_lay_30 : decode cX10_lay 30 = .ok (.if_icmp .ge 56, 3) := by decide +kernel
theorem dX10_lay_33 : decode cX10_lay 33 = .ok (.aload_n 0, 1) := by decide +kernel
theorem dX10_lay_34 : decode cX10_lay 34 = .ok (.getfield 43, 3) := by decide +kernel
theorem dX10_lay_37 : decode cX10_lay 37 = .ok (.aload_n 0, 1) := by decide +kernel
theorem dX10_lay_38 : decode cX10_lay 38 = .ok (.getfield 36, 3) := by decide +kernel
theorem dX10_lay_41 : decode cX10_lay 41 = .ok (.iload_n 2, 1) := by decide +kernel
theorem dX10_lay_42 : decode cX10_lay 42 = .ok (.invokevirtual 86, 3) := by decide +kernel
theorem dX10_lay_45 : decode cX10_lay 45 = .ok (.ifCond .eq 41, 3) := by decide +kernel
theorem dX10_lay_48 : decode cX10_lay 48 = .ok (.aload_n 0, 1) := by decide +kernel
theorem dX10_lay_49 : decode cX10_lay 49 = .ok (.aload_n 0, 1) := by decide +kernel
theorem dX10_lay_50 : decode cX10_lay 50 = .ok (.getfield 43, 3) := by decide +kernel
theorem dX10_lay_53 : decode cX10_lay 53 = .ok (.invokevirtual 96, 3) := by decide +kernel
theorem dX10_lay_56 : decode cX10_lay 56 = .ok (.invokevirtual 99, 3) := by decide +kernel
theorem dX10_lay_59 : decode cX10_lay 59 = .ok (.astore_n 3, 1) := by decide +kernel
theorem dX10_lay_60 : decode cX10_lay 60 = .ok (.aload_n 3, 1) := by decide +kernel
theorem dX10_lay_61 : decode cX10_lay 61 = .ok (.ifnull 11, 3) := by decide +kernel
theorem dX10_lay_64 : decode cX10_lay 64 = .ok (.aload_n 3, 1) := by decide +kernel
theorem dX10_lay_65 : decode cX10_lay 65 = .ok (.aload_n 0, 1) := by decide +kernel
theorem dX10_lay_66 : decode cX10_lay 66 = .ok (.getfield 43, 3) := by decide +kernel
theorem dX10_lay_69 : decode cX10_lay 69 = .ok (.invokevirtual 103, 3) := by decide +kernel
theorem dX10_lay_72 : decode cX10_lay 72 = .ok (.aload_n 0, 1) := by decide +kernel
theorem dX10_lay_73 : decode cX10_lay 73 = .ok (.getfield 43, 3) := by decide +kernel
theorem dX10_lay_76 : decode cX10_lay 76 = .ok (.invokevirtual 90, 3) := by decide +kernel
theorem dX10_lay_79 : decode cX10_lay 79 = .ok (.istore_n 2, 1) := by decide +kernel
theorem dX10_lay_80 : decode cX10_lay 80 = .ok (.iinc 1 1, 3) := by decide +kernel
theorem dX10_lay_83 : decode cX10_lay 83 = .ok (.goto (-67), 3) := by decide +kernel
theorem dX10_lay_86 : decode cX10_lay 86 = .ok (.iload_n 1, 1) := by decide +kernel
theorem dX10_lay_87 : decode cX10_lay 87 = .ok (.ireturn, 1) := by decide +kernel
set_option maxRecDepth 20000 in
theorem ggX10_told_X10_registerOf : GoodIn wsX10_told wsX10_registerOf := goodIn_r _ [5, 6, 23, 24, 25, 26, 27, 28, 29, 30, 31, 32] (by decide +kernel) (by decide +kernel)
set_option maxRecDepth 20000 in
theorem gX10_told_X10_registerOf : GoodIn wsX10_told (wsV RX10 99 RX10 yX10_registerOf wsX10_registerOf) := goodIn_app (goodIn_of _ (by decide +kernel)) ggX10_told_X10_registerOf
set_option maxRecDepth 20000 in
theorem ggX10_told_X6_size : GoodIn wsX10_told wsX6_size := goodIn_r _ [11, 12, 33, 34] (by decide +kernel) (by decide +kernel)
set_option maxRecDepth 20000 in
theorem gX10_told_X6_size : GoodIn wsX10_told (wsV RX10 75 RX6 yX6_size wsX6_size) := goodIn_app (goodIn_of _ (by decide +kernel)) ggX10_told_X6_size
set_option maxRecDepth 20000 in
theorem ggX10_told_X6_get : GoodIn wsX10_told wsX6_get := goodIn_r _ [16, 12, 17, 33, 34] (by decide +kernel) (by decide +kernel)
set_option maxRecDepth 20000 in
theorem gX10_told_X6_get : GoodIn wsX10_told (wsV RX10 120 RX6 yX6_get wsX6_get) := goodIn_app (goodIn_of _ (by decide +kernel)) ggX10_told_X6_get
theorem dX10_told_0 : decode cX10_told 0 = .ok (.aload_n 0, 1) := by decide +kernel
theorem dX10_told_1 : decode cX10_told 1 = .ok (.iload_n 1, 1) := by decide +kernel
theorem dX10_told_2 : decode cX10_told 2 = .ok (.invokevirtual 99, 3) := by decide +kernel
theorem dX10_told_5 : decode cX10_told 5 = .ok (.astore_n 3, 1) := by decide +kernel
theorem dX10_told_6 : decode cX10_told 6 = .ok (.aload_n 3, 1) := by decide +kernel
theorem dX10_told_7 : decode cX10_told 7 = .ok (.ifnull 13, 3) := by decide +kernel
theorem dX10_told_10 : decode cX10_told 10 = .ok (.iload_n 2, 1) := by decide +kernel
theorem dX10_told_11 : decode cX10_told 11 = .ok (.ifCond .lt 9, 3) := by decide +kernel
theorem dX10_told_14 : decode cX10_told 14 = .ok (.iload_n 2, 1) := by decide +kernel
theorem dX10_told_15 : decode cX10_told 15 = .ok (.bipush 7, 2) := by decide +kernel
theorem dX10_told_17 : decode cX10_told 17 = .ok (.if_icmp .le 5, 3) := by decide +kernel
theorem dX10_told_20 : decode cX10_told 20 = .ok (.iconst (-1), 1) := by decide +kernel
theorem dX10_told_21 : decode cX10_told 21 = .ok (.ireturn, 1) := by decide +kernel
theorem dX10_told_22 : decode cX10_told 22 = .ok (.iload_n 2, 1) := by decide +kernel
theorem dX10_told_23 : decode cX10_told 23 = .ok (.ifCond .ne 11, 3) := by decide +kernel
theorem dX10_told_26 : decode cX10_told 26 = .ok (.aload_n 3, 1) := by decide +kernel
theorem dX10_told_27 : decode cX10_told 27 = .ok (.getfield 107, 3) := by decide +kernel
theorem dX10_told_30 : decode cX10_told 30 = .ok (.getfield 111, 3) := by decide +kernel
theorem dX10_told_33 : decode cX10_told 33 = .ok (.ireturn, 1) := by decide +kernel
theorem dX10_told_34 : decode cX10_told 34 = .ok (.iload_n 2, 1) := by decide +kernel
theorem dX10_told_35 : decode cX10_told 35 = .ok (.iconst 1, 1) := by decide +kernel
theorem dX10_told_36 : decode cX10_told 36 = .ok (.if_icmp .ne 13, 3) := by decide +kernel
theorem dX10_told_39 : decode cX10_told 39 = .ok (.aload_n 3, 1) := by decide +kernel
theorem dX10_told_40 : decode cX10_told 40 = .ok (.getfield 117, 3) := by decide +kernel
theorem dX10_told_43 : decode cX10_told 43 = .ok (.invokevirtual 75, 3) := by decide +kernel
theorem dX10_told_46 : decode cX10_told 46 = .ok (.goto 13, 3) := by decide +kernel
theorem dX10_told_49 : decode cX10_told 49 = .ok (.aload_n 3, 1) := by decide +kernel
theorem dX10_told_50 : decode cX10_told 50 = .ok (.getfield 117, 3) := by decide +kernel
theorem dX10_told_53 : decode cX10_told 53 = .ok (.iload_n 2, 1) := by decide +kernel
theorem dX10_told_54 : decode cX10_told 54 = .ok (.iconst 2, 1) := by decide +kernel
theorem dX10_told_55 : decode cX10_told 55 = .ok (.isub, 1) := by decide +kernel
theorem dX10_told_56 : decode cX10_told 56 = .ok (.invokevirtual 120, 3) := by decide +kernel
theorem dX10_told_59 : decode cX10_told 59 = .ok (.ireturn, 1) := by decide +kernel
set_option maxRecDepth 20000 in
theorem ggX10_at_X10_madeRow : GoodIn wsX10_at wsX10_madeRow := goodIn_r _ [5, 6, 7, 8, 9, 4, 10, 11, 12, 13, 14, 15, 16, 17, 18, 19, 20, 21, 22, 23, 24, 25, 26, 27, 28, 29, 30, 31, 32, 33, 34, 35, 36, 37, 38, 39, 40, 41, 42, 43, 44, 45, 46, 47, 48, 49, 50, 51, 52, 53, 54, 55, 56, 57, 58, 59, 60, 61, 62, 63, 64, 65, 66, 67, 68, 69, 70, 71, 72, 73, 74, 75, 76, 77, 78, 79, 80, 81, 82, 83, 84, 85, 86, 87, 88, 89, 90, 91, 92, 93, 94, 95, 96, 97, 98, 99, 100, 108, 109, 110, 111, 112, 113, 114, 115, 116, 117, 118, 119, 120, 121, 122, 123, 124, 125, 126, 127] (by decide +kernel) (by decide +kernel)
set_option maxRecDepth 20000 in
theorem gX10_at_X10_madeRow : GoodIn wsX10_at (wsV RX10 124 RX10 yX10_madeRow wsX10_madeRow) := goodIn_app (goodIn_of _ (by decide +kernel)) ggX10_at_X10_madeRow
set_option maxRecDepth 20000 in
theorem ggX10_at_X5_numberAt : GoodIn wsX10_at wsX5_numberAt := goodIn_r _ [105, 106, 107, 108, 109, 110, 111, 112] (by decide +kernel) (by decide +kernel)
set_option maxRecDepth 20000 in
theorem gX10_at_X5_numberAt : GoodIn wsX10_at (wsV RX10 127 RX5 yX5_numberAt wsX5_numberAt) := goodIn_app (goodIn_of _ (by decide +kernel)) ggX10_at_X5_numberAt
theorem dX10_at_0 : decode cX10_at 0 = .ok (.aload_n 0, 1) := by decide +kernel
theorem dX10_at_1 : decode cX10_at 1 = .ok (.iload_n 1, 1) := by decide +kernel
theorem dX10_at_2 : decode cX10_at 2 = .ok (.invokevirtual 124, 3) := by decide +kernel
theorem dX10_at_5 : decode cX10_at 5 = .ok (.astore_n 3, 1) := by decide +kernel
theorem dX10_at_6 : decode cX10_at 6 = .ok (.aload_n 3, 1) := by decide +kernel
theorem dX10_at_7 : decode cX10_at 7 = .ok (.ifnull 14, 3) := by decide +kernel
theorem dX10_at_10 : decode cX10_at 10 = .ok (.iload_n 2, 1) := by decide +kernel
theorem dX10_at_11 : decode cX10_at 11 = .ok (.ifCond .lt 10, 3) := by decide +kernel
theorem dX10_at_14 : decode cX10_at 14 = .ok (.iload_n 2, 1) := by decide +kernel
theorem dX10_at_15 : decode cX10_at 15 = .ok (.sipush 2000, 3) := by decide +kernel
theorem dX10_at_18 : decode cX10_at 18 = .ok (.if_icmp .lt 5, 3) := by decide +kernel
theorem dX10_at_21 : decode cX10_at 21 = .ok (.iconst (-1), 1) := by decide +kernel
theorem dX10_at_22 : decode cX10_at 22 = .ok (.ireturn, 1) := by decide +kernel
theorem dX10_at_23 : decode cX10_at 23 = .ok (.aload_n 3, 1) := by decide +kernel
theorem dX10_at_24 : decode cX10_at 24 = .ok (.iload_n 2, 1) := by decide +kernel
theorem dX10_at_25 : decode cX10_at 25 = .ok (.invokevirtual 127, 3) := by decide +kernel
theorem dX10_at_28 : decode cX10_at 28 = .ok (.ireturn, 1) := by decide +kernel
set_option maxRecDepth 20000 in
theorem ggX10_first_X10_madeRow : GoodIn wsX10_first wsX10_madeRow := goodIn_r _ [5, 6, 7, 8, 9, 4, 10, 11, 12, 13, 14, 15, 16, 17, 18, 19, 20, 21, 22, 23, 24, 25, 26, 27, 28, 29, 30, 31, 32, 33, 34, 35, 36, 37, 38, 39, 40, 41, 42, 43, 44, 45, 46, 47, 48, 49, 50, 51, 52, 53, 54, 55, 56, 57, 58, 59, 60, 61, 62, 63, 64, 65, 66, 67, 68, 69, 70, 71, 72, 73, 74, 75, 76, 77, 78, 79, 80, 81, 82, 83, 84, 85, 86, 87, 88, 89, 90, 91, 92, 93, 94, 95, 96, 97, 98, 99, 100, 113, 114, 115, 116, 117, 118, 119, 120, 121, 122, 123, 124, 125, 126, 127, 128, 129, 130, 131, 132] (by decide +kernel) (by decide +kernel)
set_option maxRecDepth 20000 in
theorem gX10_first_X10_madeRow : GoodIn wsX10_first (wsV RX10 124 RX10 yX10_madeRow wsX10_madeRow) := goodIn_app (goodIn_of _ (by decide +kernel)) ggX10_first_X10_madeRow
set_option maxRecDepth 20000 in
theorem ggX10_first_X10_isNumber : GoodIn wsX10_first wsX10_isNumber := goodIn_r _ [99, 100] (by decide +kernel) (by decide +kernel)
set_option maxRecDepth 20000 in
theorem gX10_first_X10_isNumber : GoodIn wsX10_first (va_wsS RX10 130 yX10_isNumber wsX10_isNumber) := goodIn_app (goodIn_of _ (by decide +kernel)) ggX10_first_X10_isNumber
set_option maxRecDepth 20000 in
theorem ggX10_first_X5_placeOf : GoodIn wsX10_first wsX5_placeOf := goodIn_r _ [106, 107, 108, 109, 110, 105, 111, 112, 113, 114, 115, 116, 117] (by decide +kernel) (by decide +kernel)
set_option maxRecDepth 20000 in
theorem gX10_first_X5_placeOf : GoodIn wsX10_first (wsV RX10 133 RX5 yX5_placeOf wsX5_placeOf) := goodIn_app (goodIn_of _ (by decide +kernel)) ggX10_first_X5_placeOf
theorem dX10_first_0 : decode cX10_first 0 = .ok (.aload_n 0, 1) := by decide +kernel
theorem dX10_first_1 : decode cX10_first 1 = .ok (.iload_n 1, 1) := by decide +kernel
theorem dX10_first_2 : decode cX10_first 2 = .ok (.invokevirtual 124, 3) := by decide +kernel
theorem dX10_first_5 : decode cX10_first 5 = .ok (.astore_n 3, 1) := by decide +kernel
theorem dX10_first_6 : decode cX10_first 6 = .ok (.aload_n 3, 1) := by decide +kernel
theorem dX10_first_7 : decode cX10_first 7 = .ok (.ifnull 10, 3) := by decide +kernel
theorem dX10_first_10 : decode cX10_first 10 = .ok (.iload_n 2, 1) := by decide +kernel
theorem dX10_first_11 : decode cX10_first 11 = .ok (.invokestatic 130, 3) := by decide +kernel
theorem dX10_first_14 : decode cX10_first 14 = .ok (.ifCond .ne 5, 3) := by decide +kernel
theorem dX10_first_17 : decode cX10_first 17 = .ok (.iconst (-1), 1) := by decide +kernel
theorem dX10_first_18 : decode cX10_first 18 = .ok (.ireturn, 1) := by decide +kernel
theorem dX10_first_19 : decode cX10_first 19 = .ok (.aload_n 3, 1) := by decide +kernel
theorem dX10_first_20 : decode cX10_first 20 = .ok (.iload_n 2, 1) := by decide +kernel
theorem dX10_first_21 : decode cX10_first 21 = .ok (.invokevirtual 133, 3) := by decide +kernel
theorem dX10_first_24 : decode cX10_first 24 = .ok (.ireturn, 1) := by decide +kernel
set_option maxRecDepth 20000 in
theorem ggX10_often_X10_madeRow : GoodIn wsX10_often wsX10_madeRow := goodIn_r _ [5, 6, 7, 8, 9, 4, 10, 11, 12, 13, 14, 15, 16, 17, 18, 19, 20, 21, 22, 23, 24, 25, 26, 27, 28, 29, 30, 31, 32, 33, 34, 35, 36, 37, 38, 39, 40, 41, 42, 43, 44, 45, 46, 47, 48, 49, 50, 51, 52, 53, 54, 55, 56, 57, 58, 59, 60, 61, 62, 63, 64, 65, 66, 67, 68, 69, 70, 71, 72, 73, 74, 75, 76, 77, 78, 79, 80, 81, 82, 83, 84, 85, 86, 87, 88, 89, 90, 91, 92, 93, 94, 95, 96, 97, 98, 99, 100, 113, 114, 115, 116, 117, 118, 119, 120, 121, 122, 123, 124, 125, 126, 127, 128, 129, 130, 131, 132] (by decide +kernel) (by decide +kernel)
set_option maxRecDepth 20000 in
theorem gX10_often_X10_madeRow : GoodIn wsX10_often (wsV RX10 124 RX10 yX10_madeRow wsX10_madeRow) := goodIn_app (goodIn_of _ (by decide +kernel)) ggX10_often_X10_madeRow
set_option maxRecDepth 20000 in
theorem ggX10_often_X10_isNumber : GoodIn wsX10_often wsX10_isNumber := goodIn_r _ [99, 100] (by decide +kernel) (by decide +kernel)
set_option maxRecDepth 20000 in
theorem gX10_often_X10_isNumber : GoodIn wsX10_often (va_wsS RX10 130 yX10_isNumber wsX10_isNumber) := goodIn_app (goodIn_of _ (by decide +kernel)) ggX10_often_X10_isNumber
set_option maxRecDepth 20000 in
theorem ggX10_often_X5_countOf : GoodIn wsX10_often wsX5_countOf := goodIn_r _ [106, 107, 108, 109, 110, 105, 111, 112, 113, 114, 115, 116, 117] (by decide +kernel) (by decide +kernel)
set_option maxRecDepth 20000 in
theorem gX10_often_X5_countOf : GoodIn wsX10_often (wsV RX10 136 RX5 yX5_countOf wsX5_countOf) := goodIn_app (goodIn_of _ (by decide +kernel)) ggX10_often_X5_countOf
theorem dX10_often_0 : decode cX10_often 0 = .ok (.aload_n 0, 1) := by decide +kernel
theorem dX10_often_1 : decode cX10_often 1 = .ok (.iload_n 1, 1) := by decide +kernel
theorem dX10_often_2 : decode cX10_often 2 = .ok (.invokevirtual 124, 3) := by decide +kernel
theorem dX10_often_5 : decode cX10_often 5 = .ok (.astore 4, 2) := by decide +kernel
theorem dX10_often_7 : decode cX10_often 7 = .ok (.aload 4, 2) := by decide +kernel
theorem dX10_often_9 : decode cX10_often 9 = .ok (.ifnull 21, 3) := by decide +kernel
theorem dX10_often_12 : decode cX10_often 12 = .ok (.iload_n 2, 1) := by decide +kernel
theorem dX10_often_13 : decode cX10_often 13 = .ok (.invokestatic 130, 3) := by decide +kernel
theorem dX10_often_16 : decode cX10_often 16 = .ok (.ifCond .eq 14, 3) := by decide +kernel
theorem dX10_often_19 : decode cX10_often 19 = .ok (.iload_n 3, 1) := by decide +kernel
theorem dX10_often_20 : decode cX10_often 20 = .ok (.ifCond .lt 10, 3) := by decide +kernel
theorem dX10_often_23 : decode cX10_often 23 = .ok (.iload_n 3, 1) := by decide +kernel
theorem dX10_often_24 : decode cX10_often 24 = .ok (.sipush 2000, 3) := by decide +kernel
theorem dX10_often_27 : decode cX10_often 27 = .ok (.if_icmp .le 5, 3) := by decide +kernel
theorem dX10_often_30 : decode cX10_often 30 = .ok (.iconst (-1), 1) := by decide +kernel
theorem dX10_often_31 : decode cX10_often 31 = .ok (.ireturn, 1) := by decide +kernel
theorem dX10_often_32 : decode cX10_often 32 = .ok (.aload 4, 2) := by decide +kernel
theorem dX10_often_34 : decode cX10_often 34 = .ok (.iload_n 2, 1) := by decide +kernel
theorem dX10_often_35 : decode cX10_often 35 = .ok (.iload_n 3, 1) := by decide +kernel
theorem dX10_often_36 : decode cX10_often 36 = .ok (.invokevirtual 136, 3) := by decide +kernel
theorem dX10_often_39 : decode cX10_often 39 = .ok (.ireturn, 1) := by decide +kernel
set_option maxRecDepth 20000 in
theorem ggX10_run_X10_madeRow : GoodIn wsX10_run wsX10_madeRow := goodIn_r _ [5, 6, 7, 8, 9, 4, 10, 11, 12, 13, 14, 15, 16, 17, 18, 19, 20, 21, 22, 23, 24, 25, 26, 27, 28, 29, 30, 31, 32, 33, 34, 35, 36, 37, 38, 39, 40, 41, 42, 43, 44, 45, 46, 47, 48, 49, 50, 51, 52, 53, 54, 55, 56, 57, 58, 59, 60, 61, 62, 63, 64, 65, 66, 67, 68, 69, 70, 71, 72, 73, 74, 75, 76, 77, 78, 79, 80, 81, 82, 83, 84, 85, 86, 87, 88, 89, 90, 91, 92, 93, 94, 95, 96, 97, 98, 99, 100, 118, 119, 120, 121, 122, 123, 124, 125, 126, 127, 128, 129, 130, 131, 132, 133, 134, 135, 136, 137] (by decide +kernel) (by decide +kernel)
set_option maxRecDepth 20000 in
theorem gX10_run_X10_madeRow : GoodIn wsX10_run (wsV RX10 124 RX10 yX10_madeRow wsX10_madeRow) := goodIn_app (goodIn_of _ (by decide +kernel)) ggX10_run_X10_madeRow
set_option maxRecDepth 20000 in
theorem ggX10_run_X5_runStart : GoodIn wsX10_run wsX5_runStart := goodIn_r _ [105, 106, 107, 108, 109, 104, 110, 111, 112, 113, 114, 115, 118, 119, 120, 121, 122] (by decide +kernel) (by decide +kernel)
set_option maxRecDepth 20000 in
theorem gX10_run_X5_runStart : GoodIn wsX10_run (wsV RX10 140 RX5 yX5_runStart wsX5_runStart) := goodIn_app (goodIn_of _ (by decide +kernel)) ggX10_run_X5_runStart
set_option maxRecDepth 20000 in
theorem ggX10_run_X5_numberAt : GoodIn wsX10_run wsX5_numberAt := goodIn_r _ [114, 106, 115, 118, 119, 120, 121, 122] (by decide +kernel) (by decide +kernel)
set_option maxRecDepth 20000 in
theorem gX10_run_X5_numberAt : GoodIn wsX10_run (wsV RX10 127 RX5 yX5_numberAt wsX5_numberAt) := goodIn_app (goodIn_of _ (by decide +kernel)) ggX10_run_X5_numberAt
set_option maxRecDepth 20000 in
theorem ggX10_run_X5_runEnd : GoodIn wsX10_run wsX5_runEnd := goodIn_r _ [110, 111, 112, 113, 104, 114, 106, 115, 118, 119, 120, 121, 122] (by decide +kernel) (by decide +kernel)
set_option maxRecDepth 20000 in
theorem gX10_run_X5_runEnd : GoodIn wsX10_run (wsV RX10 146 RX5 yX5_runEnd wsX5_runEnd) := goodIn_app (goodIn_of _ (by decide +kernel)) ggX10_run_X5_runEnd
theorem dX10_run_0 : decode cX10_run 0 = .ok (.aload_n 0, 1) := by decide +kernel
theorem dX10_run_1 : decode cX10_run 1 = .ok (.iload_n 1, 1) := by decide +kernel
theorem dX10_run_2 : decode cX10_run 2 = .ok (.invokevirtual 124, 3) := by decide +kernel
theorem dX10_run_5 : decode cX10_run 5 = .ok (.astore 4, 2) := by decide +kernel
theorem dX10_run_7 : decode cX10_run 7 = .ok (.aload 4, 2) := by decide +kernel
theorem dX10_run_9 : decode cX10_run 9 = .ok (.ifnull 16, 3) := by decide +kernel
theorem dX10_run_12 : decode cX10_run 12 = .ok (.iload_n 2, 1) := by decide +kernel
theorem dX10_run_13 : decode cX10_run 13 = .ok (.ifCond .lt 12, 3) := by decide +kernel
theorem dX10_run_16 : decode cX10_run 16 = .ok (.iload_n 3, 1) := by decide +kernel
theorem dX10_run_17 : decode cX10_run 17 = .ok (.ifCond .lt 8, 3) := by decide +kernel
theorem dX10_run_20 : decode cX10_run 20 = .ok (.iload_n 3, 1) := by decide +kernel
theorem dX10_run_21 : decode cX10_run 21 = .ok (.iconst 2, 1) := by decide +kernel
theorem dX10_run_22 : decode cX10_run 22 = .ok (.if_icmp .le 5, 3) := by decide +kernel
theorem dX10_run_25 : decode cX10_run 25 = .ok (.iconst (-1), 1) := by decide +kernel
theorem dX10_run_26 : decode cX10_run 26 = .ok (.ireturn, 1) := by decide +kernel
theorem dX10_run_27 : decode cX10_run 27 = .ok (.aload 4, 2) := by decide +kernel
theorem dX10_run_29 : decode cX10_run 29 = .ok (.iload_n 2, 1) := by decide +kernel
theorem dX10_run_30 : decode cX10_run 30 = .ok (.invokevirtual 140, 3) := by decide +kernel
theorem dX10_run_33 : decode cX10_run 33 = .ok (.istore 5, 2) := by decide +kernel
theorem dX10_run_35 : decode cX10_run 35 = .ok (.iload 5, 2) := by decide +kernel
theorem dX10_run_37 : decode cX10_run 37 = .ok (.bipush (-4), 2) := by decide +kernel
theorem dX10_run_39 : decode cX10_run 39 = .ok (.if_icmp .eq 8, 3) := by decide +kernel
theorem dX10_run_42 : decode cX10_run 42 = .ok (.iload_n 3, 1) := by decide +kernel
theorem dX10_run_43 : decode cX10_run 43 = .ok (.iconst 2, 1) := by decide +kernel
theorem dX10_run_44 : decode cX10_run 44 = .ok (.if_icmp .ne 6, 3) := by decide +kernel
theorem dX10_run_47 : decode cX10_run 47 = .ok (.iload 5, 2) := by decide +kernel
theorem dX10_run_49 : decode cX10_run 49 = .ok (.ireturn, 1) := by decide +kernel
theorem dX10_run_50 : decode cX10_run 50 = .ok (.iload_n 3, 1) := by decide +kernel
theorem dX10_run_51 : decode cX10_run 51 = .ok (.ifCond .ne 13, 3) := by decide +kernel
theorem dX10_run_54 : decode cX10_run 54 = .ok (.aload 4, 2) := by decide +kernel
theorem dX10_run_56 : decode cX10_run 56 = .ok (.iload 5, 2) := by decide +kernel
theorem dX10_run_58 : decode cX10_run 58 = .ok (.invokevirtual 127, 3) := by decide +kernel
theorem dX10_run_61 : decode cX10_run 61 = .ok (.goto 18, 3) := by decide +kernel
theorem dX10_run_64 : decode cX10_run 64 = .ok (.aload 4, 2) := by decide +kernel
theorem dX10_run_66 : decode cX10_run 66 = .ok (.iload 5, 2) := by decide +kernel
theorem dX10_run_68 : decode cX10_run 68 = .ok (.aload 4, 2) := by decide +kernel
theorem dX10_run_70 : decode cX10_run 70 = .ok (.getfield 143, 3) := by decide +kernel
theorem dX10_run_73 : decode cX10_run 73 = .ok (.invokevirtual 146, 3) := by decide +kernel
theorem dX10_run_76 : decode cX10_run 76 = .ok (.iload 5, 2) := by decide +kernel
theorem dX10_run_78 : decode cX10_run 78 = .ok (.isub, 1) := by decide +kernel
theorem dX10_run_79 : decode cX10_run 79 = .ok (.ireturn, 1) := by decide +kernel
set_option maxRecDepth 20000 in
theorem ggX10_most_X10_madeRow : GoodIn wsX10_most wsX10_madeRow := goodIn_r _ [6, 7, 8, 9, 10, 5, 11, 12, 13, 14, 15, 16, 17, 18, 19, 20, 21, 22, 23, 24, 25, 26, 27, 28, 29, 30, 31, 32, 33, 34, 35, 36, 37, 38, 39, 40, 41, 42, 43, 44, 45, 46, 47, 48, 49, 50, 51, 52, 53, 54, 55, 56, 57, 58, 59, 60, 61, 62, 63, 64, 65, 66, 67, 68, 69, 70, 71, 72, 73, 74, 75, 76, 77, 78, 79, 80, 81, 82, 83, 84, 85, 86, 87, 88, 89, 90, 91, 92, 93, 94, 95, 96, 97, 98, 99, 100, 101, 146, 147, 148, 149, 150, 136, 137, 138, 139, 140, 141, 142, 143, 144, 145, 151, 152, 153, 154, 155] (by decide +kernel) (by decide +kernel)
set_option maxRecDepth 20000 in
theorem gX10_most_X10_madeRow : GoodIn wsX10_most (wsV RX10 124 RX10 yX10_madeRow wsX10_madeRow) := goodIn_app (goodIn_of _ (by decide +kernel)) ggX10_most_X10_madeRow
set_option maxRecDepth 20000 in
theorem ggX10_most_X5_longestRun : GoodIn wsX10_most wsX5_longestRun := goodIn_r _ [106, 107, 108, 109, 69, 110, 111, 68, 70, 112, 113, 114, 105, 115, 116, 117, 118, 119, 120, 146, 147, 148, 149, 150] (by decide +kernel) (by decide +kernel)
set_option maxRecDepth 20000 in
theorem gX10_most_X5_longestRun : GoodIn wsX10_most (wsV RX10 149 RX5 yX5_longestRun wsX5_longestRun) := goodIn_app (goodIn_of _ (by decide +kernel)) ggX10_most_X5_longestRun
set_option maxRecDepth 20000 in
theorem ggX10_most_X5_unlike : GoodIn wsX10_most wsX5_unlike := goodIn_r _ [124, 107, 125, 21, 22, 23, 24, 25, 26, 27, 28, 29, 116, 117, 118, 105, 119, 120, 126, 56, 57, 58, 127, 60, 61, 62, 146, 147, 148, 149, 150, 153] (by decide +kernel) (by decide +kernel)
set_option maxRecDepth 20000 in
theorem gX10_most_X5_unlike : GoodIn wsX10_most (wsV RX10 152 RX5 yX5_unlike wsX5_unlike) := goodIn_app (goodIn_of _ (by decide +kernel)) ggX10_most_X5_unlike
set_option maxRecDepth 20000 in
theorem ggX10_most_X5_greatest : GoodIn wsX10_most wsX5_greatest := goodIn_r _ [131, 107, 111, 68, 69, 70, 116, 117, 118, 105, 119, 120, 146, 147, 148, 149, 150] (by decide +kernel) (by decide +kernel)
set_option maxRecDepth 20000 in
theorem gX10_most_X5_greatest : GoodIn wsX10_most (wsV RX10 156 RX5 yX5_greatest wsX5_greatest) := goodIn_app (goodIn_of _ (by decide +kernel)) ggX10_most_X5_greatest
set_option maxRecDepth 20000 in
theorem ggX10_most_X5_placeOf : GoodIn wsX10_most wsX5_placeOf := goodIn_r _ [135, 107, 116, 117, 118, 105, 119, 120, 146, 147, 148, 149, 150] (by decide +kernel) (by decide +kernel)
set_option maxRecDepth 20000 in
theorem gX10_most_X5_placeOf : GoodIn wsX10_most (wsV RX10 133 RX5 yX5_placeOf wsX5_placeOf) := goodIn_app (goodIn_of _ (by decide +kernel)) ggX10_most_X5_placeOf
theorem dX10_most_0 : decode cX10_most 0 = .ok (.aload_n 0, 1) := by decide +kernel
theorem dX10_most_1 : decode cX10_most 1 = .ok (.iload_n 1, 1) := by decide +kernel
theorem dX10_most_2 : decode cX10_most 2 = .ok (.invokevirtual 124, 3) := by decide +kernel
theorem dX10_most_5 : decode cX10_most 5 = .ok (.astore 4, 2) := by decide +kernel
theorem dX10_most_7 : decode cX10_most 7 = .ok (.aload 4, 2) := by decide +kernel
theorem dX10_most_9 : decode cX10_most 9 = .ok (.ifnull 24, 3) := by decide +kernel
theorem dX10_most_12 : decode cX10_most 12 = .ok (.iload_n 2, 1) := by decide +kernel
theorem dX10_most_13 : decode cX10_most 13 = .ok (.iconst 1, 1) := by decide +kernel
theorem dX10_most_14 : decode cX10_most 14 = .ok (.if_icmp .lt 19, 3) := by decide +kernel
theorem dX10_most_17 : decode cX10_most 17 = .ok (.iload_n 2, 1) := by decide +kernel
theorem dX10_most_18 : decode cX10_most 18 = .ok (.sipush 2000, 3) := by decide +kernel
theorem dX10_most_21 : decode cX10_most 21 = .ok (.if_icmp .gt 12, 3) := by decide +kernel
theorem dX10_most_24 : decode cX10_most 24 = .ok (.iload_n 3, 1) := by decide +kernel
theorem dX10_most_25 : decode cX10_most 25 = .ok (.ifCond .lt 8, 3) := by decide +kernel
theorem dX10_most_28 : decode cX10_most 28 = .ok (.iload_n 3, 1) := by decide +kernel
theorem dX10_most_29 : decode cX10_most 29 = .ok (.iconst 3, 1) := by decide +kernel
theorem dX10_most_30 : decode cX10_most 30 = .ok (.if_icmp .le 5, 3) := by decide +kernel
theorem dX10_most_33 : decode cX10_most 33 = .ok (.iconst (-1), 1) := by decide +kernel
theorem dX10_most_34 : decode cX10_most 34 = .ok (.ireturn, 1) := by decide +kernel
theorem dX10_most_35 : decode cX10_most 35 = .ok (.iload_n 3, 1) := by decide +kernel
theorem dX10_most_36 : decode cX10_most 36 = .ok (.iconst 2, 1) := by decide +kernel
theorem dX10_most_37 : decode cX10_most 37 = .ok (.if_icmp .ne 10, 3) := by decide +kernel
theorem dX10_most_40 : decode cX10_most 40 = .ok (.aload 4, 2) := by decide +kernel
theorem dX10_most_42 : decode cX10_most 42 = .ok (.iload_n 2, 1) := by decide +kernel
theorem dX10_most_43 : decode cX10_most 43 = .ok (.invokevirtual 149, 3) := by decide +kernel
theorem dX10_most_46 : decode cX10_most 46 = .ok (.ireturn, 1) := by decide +kernel
theorem dX10_most_47 : decode cX10_most 47 = .ok (.iload_n 3, 1) := by decide +kernel
theorem dX10_most_48 : decode cX10_most 48 = .ok (.iconst 3, 1) := by decide +kernel
theorem dX10_most_49 : decode cX10_most 49 = .ok (.if_icmp .ne 14, 3) := by decide +kernel
theorem dX10_most_52 : decode cX10_most 52 = .ok (.aload 4, 2) := by decide +kernel
theorem dX10_most_54 : decode cX10_most 54 = .ok (.iload_n 2, 1) := by decide +kernel
theorem dX10_most_55 : decode cX10_most 55 = .ok (.aload_n 0, 1) := by decide +kernel
theorem dX10_most_56 : decode cX10_most 56 = .ok (.getfield 18, 3) := by decide +kernel
theorem dX10_most_59 : decode cX10_most 59 = .ok (.invokevirtual 152, 3) := by decide +kernel
theorem dX10_most_62 : decode cX10_most 62 = .ok (.ireturn, 1) := by decide +kernel
theorem dX10_most_63 : decode cX10_most 63 = .ok (.aload 4, 2) := by decide +kernel
theorem dX10_most_65 : decode cX10_most 65 = .ok (.iload_n 2, 1) := by decide +kernel
theorem dX10_most_66 : decode cX10_most 66 = .ok (.invokevirtual 156, 3) := by decide +kernel
theorem dX10_most_69 : decode cX10_most 69 = .ok (.istore 5, 2) := by decide +kernel
theorem dX10_most_71 : decode cX10_most 71 = .ok (.iload_n 3, 1) := by decide +kernel
theorem dX10_most_72 : decode cX10_most 72 = .ok (.ifCond .ne 8, 3) := by decide +kernel
theorem dX10_most_75 : decode cX10_most 75 = .ok (.iload 5, 2) := by decide +kernel
theorem dX10_most_77 : decode cX10_most 77 = .ok (.goto 10, 3) := by decide +kernel
theorem dX10_most_80 : decode cX10_most 80 = .ok (.aload 4, 2) := by decide +kernel
theorem dX10_most_82 : decode cX10_most 82 = .ok (.iload 5, 2) := by decide +kernel
theorem dX10_most_84 : decode cX10_most 84 = .ok (.invokevirtual 133, 3) := by decide +kernel
theorem dX10_most_87 : decode cX10_most 87 = .ok (.ireturn, 1) := by decide +kernel
set_option maxRecDepth 20000 in
theorem ggX10_around_X10_madeRow : GoodIn wsX10_around wsX10_madeRow := goodIn_r _ [5, 6, 7, 8, 9, 4, 10, 11, 12, 13, 14, 15, 16, 17, 18, 19, 20, 21, 22, 23, 24, 25, 26, 27, 28, 29, 30, 31, 32, 33, 34, 35, 36, 37, 38, 39, 40, 41, 42, 43, 44, 45, 46, 47, 48, 49, 50, 51, 52, 53, 54, 55, 56, 57, 58, 59, 60, 61, 62, 63, 64, 65, 66, 67, 68, 69, 70, 71, 72, 73, 74, 75, 76, 77, 78, 79, 80, 81, 82, 83, 84, 85, 86, 87, 88, 89, 90, 91, 92, 93, 94, 95, 96, 97, 98, 99, 100, 118, 119, 120, 121, 122, 123, 124, 125, 126, 127, 128, 129, 130, 131, 132, 133, 134, 135, 136, 137] (by decide +kernel) (by decide +kernel)
set_option maxRecDepth 20000 in
theorem gX10_around_X10_madeRow : GoodIn wsX10_around (wsV RX10 124 RX10 yX10_madeRow wsX10_madeRow) := goodIn_app (goodIn_of _ (by decide +kernel)) ggX10_around_X10_madeRow
set_option maxRecDepth 20000 in
theorem ggX10_around_X5_period : GoodIn wsX10_around wsX5_period := goodIn_r _ [105, 106, 107, 108, 109, 104, 110, 111, 67, 68, 69, 112, 113, 114, 115, 116, 118, 119, 120, 121, 122] (by decide +kernel) (by decide +kernel)
set_option maxRecDepth 20000 in
theorem gX10_around_X5_period : GoodIn wsX10_around (wsV RX10 159 RX5 yX5_period wsX5_period) := goodIn_app (goodIn_of _ (by decide +kernel)) ggX10_around_X5_period
set_option maxRecDepth 20000 in
theorem ggX10_around_X5_tail : GoodIn wsX10_around wsX5_tail := goodIn_r _ [110, 106, 111, 67, 68, 69, 112, 113, 114, 104, 115, 116, 118, 119, 120, 121, 122] (by decide +kernel) (by decide +kernel)
set_option maxRecDepth 20000 in
theorem gX10_around_X5_tail : GoodIn wsX10_around (wsV RX10 162 RX5 yX5_tail wsX5_tail) := goodIn_app (goodIn_of _ (by decide +kernel)) ggX10_around_X5_tail
theorem dX10_around_0 : decode cX10_around 0 = .ok (.aload_n 0, 1) := by decide +kernel
theorem dX10_around_1 : decode cX10_around 1 = .ok (.iload_n 1, 1) := by decide +kernel
theorem dX10_around_2 : decode cX10_around 2 = .ok (.invokevirtual 124, 3) := by decide +kernel
theorem dX10_around_5 : decode cX10_around 5 = .ok (.astore_n 3, 1) := by decide +kernel
theorem dX10_around_6 : decode cX10_around 6 = .ok (.aload_n 3, 1) := by decide +kernel
theorem dX10_around_7 : decode cX10_around 7 = .ok (.ifnull 12, 3) := by decide +kernel
theorem dX10_around_10 : decode cX10_around 10 = .ok (.iload_n 2, 1) := by decide +kernel
theorem dX10_around_11 : decode cX10_around 11 = .ok (.ifCond .lt 8, 3) := by decide +kernel
theorem dX10_around_14 : decode cX10_around 14 = .ok (.iload_n 2, 1) := by decide +kernel
theorem dX10_around_15 : decode cX10_around 15 = .ok (.iconst 1, 1) := by decide +kernel
theorem dX10_around_16 : decode cX10_around 16 = .ok (.if_icmp .le 5, 3) := by decide +kernel
theorem dX10_around_19 : decode cX10_around 19 = .ok (.iconst (-1), 1) := by decide +kernel
theorem dX10_around_20 : decode cX10_around 20 = .ok (.ireturn, 1) := by decide +kernel
theorem dX10_around_21 : decode cX10_around 21 = .ok (.aload_n 3, 1) := by decide +kernel
theorem dX10_around_22 : decode cX10_around 22 = .ok (.invokevirtual 159, 3) := by decide +kernel
theorem dX10_around_25 : decode cX10_around 25 = .ok (.istore 4, 2) := by decide +kernel
theorem dX10_around_27 : decode cX10_around 27 = .ok (.iload 4, 2) := by decide +kernel
theorem dX10_around_29 : decode cX10_around 29 = .ok (.bipush (-4), 2) := by decide +kernel
theorem dX10_around_31 : decode cX10_around 31 = .ok (.if_icmp .eq 7, 3) := by decide +kernel
theorem dX10_around_34 : decode cX10_around 34 = .ok (.iload_n 2, 1) := by decide +kernel
theorem dX10_around_35 : decode cX10_around 35 = .ok (.ifCond .ne 8, 3) := by decide +kernel
theorem dX10_around_38 : decode cX10_around 38 = .ok (.iload 4, 2) := by decide +kernel
theorem dX10_around_40 : decode cX10_around 40 = .ok (.goto 9, 3) := by decide +kernel
theorem dX10_around_43 : decode cX10_around 43 = .ok (.aload_n 3, 1) := by decide +kernel
theorem dX10_around_44 : decode cX10_around 44 = .ok (.iload 4, 2) := by decide +kernel
theorem dX10_around_46 : decode cX10_around 46 = .ok (.invokevirtual 162, 3) := by decide +kernel
theorem dX10_around_49 : decode cX10_around 49 = .ok (.ireturn, 1) := by decide +kernel
set_option maxRecDepth 20000 in
theorem ggX10_number_X10_isNumber : GoodIn wsX10_number wsX10_isNumber := goodIn_r _ [5, 6] (by decide +kernel) (by decide +kernel)
set_option maxRecDepth 20000 in
theorem gX10_number_X10_isNumber : GoodIn wsX10_number (va_wsS RX10 130 yX10_isNumber wsX10_isNumber) := goodIn_app (goodIn_of _ (by decide +kernel)) ggX10_number_X10_isNumber
set_option maxRecDepth 20000 in
theorem ggX10_number_X6_add : GoodIn wsX10_number wsX6_add := goodIn_r _ [11, 12, 13, 28, 29] (by decide +kernel) (by decide +kernel)
set_option maxRecDepth 20000 in
theorem gX10_number_X6_add : GoodIn wsX10_number (wsV RX10 79 RX6 yX6_add wsX6_add) := goodIn_app (goodIn_of _ (by decide +kernel)) ggX10_number_X6_add
set_option maxRecDepth 20000 in
theorem ggX10_number_X6_size : GoodIn wsX10_number wsX6_size := goodIn_r _ [17, 12, 28, 29] (by decide +kernel) (by decide +kernel)
set_option maxRecDepth 20000 in
theorem gX10_number_X6_size : GoodIn wsX10_number (wsV RX10 75 RX6 yX6_size wsX6_size) := goodIn_app (goodIn_of _ (by decide +kernel)) ggX10_number_X6_size
theorem dX10_number_0 : decode cX10_number 0 = .ok (.iload_n 1, 1) := by decide +kernel
theorem dX10_number_1 : decode cX10_number 1 = .ok (.invokestatic 130, 3) := by decide +kernel
theorem dX10_number_4 : decode cX10_number 4 = .ok (.ifCond .ne 5, 3) := by decide +kernel
theorem dX10_number_7 : decode cX10_number 7 = .ok (.iconst (-1), 1) := by decide +kernel
theorem dX10_number_8 : decode cX10_number 8 = .ok (.ireturn, 1) := by decide +kernel
theorem dX10_number_9 : decode cX10_number 9 = .ok (.aload_n 0, 1) := by decide +kernel
theorem dX10_number_10 : decode cX10_number 10 = .ok (.getfield 47, 3) := by decide +kernel
theorem dX10_number_13 : decode cX10_number 13 = .ok (.iload_n 1, 1) := by decide +kernel
theorem dX10_number_14 : decode cX10_number 14 = .ok (.invokevirtual 79, 3) := by decide +kernel
theorem dX10_number_17 : decode cX10_number 17 = .ok (.ifCond .eq 13, 3) := by decide +kernel
theorem dX10_number_20 : decode cX10_number 20 = .ok (.aload_n 0, 1) := by decide +kernel
theorem dX10_number_21 : decode cX10_number 21 = .ok (.getfield 47, 3) := by decide +kernel
theorem dX10_number_24 : decode cX10_number 24 = .ok (.invokevirtual 75, 3) := by decide +kernel
theorem dX10_number_27 : decode cX10_number 27 = .ok (.goto 5, 3) := by decide +kernel
theorem dX10_number_30 : decode cX10_number 30 = .ok (.bipush (-3), 2) := by decide +kernel
theorem dX10_number_32 : decode cX10_number 32 = .ok (.ireturn, 1) := by decide +kernel
set_option maxRecDepth 20000 in
theorem ggX10_noNumbers_X6_clear : GoodIn wsX10_noNumbers wsX6_clear := goodIn_r _ [6, 7, 18, 19] (by decide +kernel) (by decide +kernel)
set_option maxRecDepth 20000 in
theorem gX10_noNumbers_X6_clear : GoodIn wsX10_noNumbers (wsV RX10 83 RX6 yX6_clear wsX6_clear) := goodIn_app (goodIn_of _ (by decide +kernel)) ggX10_noNumbers_X6_clear
theorem dX10_noNumbers_0 : decode cX10_noNumbers 0 = .ok (.aload_n 0, 1) := by decide +kernel
theorem dX10_noNumbers_1 : decode cX10_noNumbers 1 = .ok (.getfield 47, 3) := by decide +kernel
theorem dX10_noNumbers_4 : decode cX10_noNumbers 4 = .ok (.invokevirtual 83, 3) := by decide +kernel
theorem dX10_noNumbers_7 : decode cX10_noNumbers 7 = .ok (.ireturn, 1) := by decide +kernel
set_option maxRecDepth 20000 in
theorem ggX10_breaks_X10_madeRow : GoodIn wsX10_breaks wsX10_madeRow := goodIn_r _ [6, 7, 8, 9, 10, 5, 11, 12, 13, 14, 15, 16, 17, 18, 19, 20, 21, 22, 23, 24, 25, 26, 27, 28, 29, 30, 31, 32, 33, 34, 35, 36, 37, 38, 39, 40, 41, 42, 43, 44, 45, 46, 47, 48, 49, 50, 51, 52, 53, 54, 55, 56, 57, 58, 59, 60, 61, 62, 63, 64, 65, 66, 67, 68, 69, 70, 71, 72, 73, 74, 75, 76, 77, 78, 79, 80, 81, 82, 83, 84, 85, 86, 87, 88, 89, 90, 91, 92, 93, 94, 95, 96, 97, 98, 99, 100, 101, 121, 122, 123, 124, 125, 111, 112, 113, 114, 115, 116, 117, 118, 119, 120, 126, 127, 128, 129, 130] (by decide +kernel) (by decide +kernel)
set_option maxRecDepth 20000 in
theorem gX10_breaks_X10_madeRow : GoodIn wsX10_breaks (wsV RX10 124 RX10 yX10_madeRow wsX10_madeRow) := goodIn_app (goodIn_of _ (by decide +kernel)) ggX10_breaks_X10_madeRow
set_option maxRecDepth 20000 in
theorem ggX10_breaks_X6_size : GoodIn wsX10_breaks wsX6_size := goodIn_r _ [92, 93, 129, 130] (by decide +kernel) (by decide +kernel)
set_option maxRecDepth 20000 in
theorem gX10_breaks_X6_size : GoodIn wsX10_breaks (wsV RX10 75 RX6 yX6_size wsX6_size) := goodIn_app (goodIn_of _ (by decide +kernel)) ggX10_breaks_X6_size
set_option maxRecDepth 20000 in
theorem ggX10_breaks_X5_numberAt : GoodIn wsX10_breaks wsX5_numberAt := goodIn_r _ [107, 108, 109, 121, 122, 123, 124, 125] (by decide +kernel) (by decide +kernel)
set_option maxRecDepth 20000 in
theorem gX10_breaks_X5_numberAt : GoodIn wsX10_breaks (wsV RX10 127 RX5 yX5_numberAt wsX5_numberAt) := goodIn_app (goodIn_of _ (by decide +kernel)) ggX10_breaks_X5_numberAt
set_option maxRecDepth 20000 in
theorem ggX10_breaks_X6_get : GoodIn wsX10_breaks wsX6_get := goodIn_r _ [97, 93, 98, 129, 130] (by decide +kernel) (by decide +kernel)
set_option maxRecDepth 20000 in
theorem gX10_breaks_X6_get : GoodIn wsX10_breaks (wsV RX10 120 RX6 yX6_get wsX6_get) := goodIn_app (goodIn_of _ (by decide +kernel)) ggX10_breaks_X6_get
theorem dX10_breaks_0 : decode cX10_breaks 0 = .ok (.aload_n 0, 1) := by decide +kernel
theorem dX10_breaks_1 : decode cX10_breaks 1 = .ok (.iload_n 1, 1) := by decide +kernel
theorem dX10_breaks_2 : decode cX10_breaks 2 = .ok (.invokevirtual 124, 3) := by decide +kernel
theorem dX10_breaks_5 : decode cX10_breaks 5 = .ok (.astore_n 2, 1) := by decide +kernel
theorem dX10_breaks_6 : decode cX10_breaks 6 = .ok (.aload_n 2, 1) := by decide +kernel
theorem dX10_breaks_7 : decode cX10_breaks 7 = .ok (.ifnonnull 5, 3) := by decide +kernel
theorem dX10_breaks_10 : decode cX10_breaks 10 = .ok (.iconst (-1), 1) := by decide +kernel
theorem dX10_breaks_11 : decode cX10_breaks 11 = .ok (.ireturn, 1) := by decide +kernel
theorem dX10_breaks_12 : decode cX10_breaks 12 = .ok (.iconst 0, 1) := by decide +kernel
theorem dX10_breaks_13 : decode cX10_breaks 13 = .ok (.istore_n 3, 1) := by decide +kernel
theorem dX10_breaks_14 : decode cX10_breaks 14 = .ok (.iload_n 3, 1) := by decide +kernel
theorem dX10_breaks_15 : decode cX10_breaks 15 = .ok (.aload_n 0, 1) := by decide +kernel
theorem dX10_breaks_16 : decode cX10_breaks 16 = .ok (.getfield 47, 3) := by decide +kernel
theorem dX10_breaks_19 : decode cX10_breaks 19 = .ok (.invokevirtual 75, 3) := by decide +kernel
theorem dX10_breaks_22 : decode cX10_breaks 22 = .ok (.if_icmp .ge 27, 3) := by decide +kernel
theorem dX10_breaks_25 : decode cX10_breaks 25 = .ok (.aload_n 2, 1) := by decide +kernel
theorem dX10_breaks_26 : decode cX10_breaks 26 = .ok (.iload_n 3, 1) := by decide +kernel
theorem dX10_breaks_27 : decode cX10_breaks 27 = .ok (.invokevirtual 127, 3) := by decide +kernel
theorem dX10_breaks_30 : decode cX10_breaks 30 = .ok (.aload_n 0, 1) := by decide +kernel
theorem dX10_breaks_31 : decode cX10_breaks 31 = .ok (.getfield 47, 3) := by decide +kernel
theorem dX10_breaks_34 : decode cX10_breaks 34 = .ok (.iload_n 3, 1) := by decide +kernel
theorem dX10_breaks_35 : decode cX10_breaks 35 = .ok (.invokevirtual 120, 3) := by decide +kernel
theorem dX10_breaks_38 : decode cX10_breaks 38 = .ok (.if_icmp .eq 5, 3) := by decide +kernel
theorem dX10_breaks_41 : decode cX10_breaks 41 = .ok (.iload_n 3, 1) := by decide +kernel
theorem dX10_breaks_42 : decode cX10_breaks 42 = .ok (.ireturn, 1) := by decide +kernel
theorem dX10_breaks_43 : decode cX10_breaks 43 = .ok (.iinc 3 1, 3) := by decide +kernel
theorem dX10_breaks_46 : decode cX10_breaks 46 = .ok (.goto (-32), 3) := by decide +kernel
theorem dX10_breaks_49 : decode cX10_breaks 49 = .ok (.bipush (-4), 2) := by decide +kernel
theorem dX10_breaks_51 : decode cX10_breaks 51 = .ok (.ireturn, 1) := by decide +kernel
set_option maxRecDepth 20000 in
theorem ggX10_may_X10_breaks : GoodIn wsX10_may wsX10_breaks := goodIn_r _ [5, 6, 7, 8, 9, 4, 10, 11, 12, 13, 14, 15, 16, 17, 18, 19, 20, 21, 22, 23, 24, 25, 26, 27, 28, 29, 30, 31, 32, 33, 34, 35, 36, 37, 38, 39, 40, 41, 42, 43, 44, 45, 46, 47, 48, 49, 50, 51, 52, 53, 54, 55, 56, 57, 58, 59, 60, 61, 62, 63, 64, 65, 66, 67, 68, 69, 70, 71, 72, 73, 74, 75, 76, 77, 78, 79, 80, 81, 82, 83, 84, 85, 86, 87, 88, 89, 90, 91, 92, 93, 94, 95, 96, 97, 98, 99, 100, 101, 102, 103, 104, 105, 106, 107, 108, 109, 110, 111, 112, 113, 114, 115, 116, 117, 118, 119, 120, 121, 122, 123, 124, 125, 126, 127, 128, 129, 130, 131, 132, 133, 134] (by decide +kernel) (by decide +kernel)
set_option maxRecDepth 20000 in
theorem gX10_may_X10_breaks : GoodIn wsX10_may (wsV RX10 165 RX10 yX10_breaks wsX10_breaks) := goodIn_app (goodIn_of _ (by decide +kernel)) ggX10_may_X10_breaks
theorem dX10_may_0 : decode cX10_may 0 = .ok (.iconst 0, 1) := by decide +kernel
theorem dX10_may_1 : decode cX10_may 1 = .ok (.istore_n 1, 1) := by decide +kernel
theorem dX10_may_2 : decode cX10_may 2 = .ok (.iconst 0, 1) := by decide +kernel
theorem dX10_may_3 : decode cX10_may 3 = .ok (.istore_n 2, 1) := by decide +kernel
theorem dX10_may_4 : decode cX10_may 4 = .ok (.iload_n 2, 1) := by decide +kernel
theorem dX10_may_5 : decode cX10_may 5 = .ok (.iconst 4, 1) := by decide +kernel
theorem dX10_may_6 : decode cX10_may 6 = .ok (.if_icmp .ge 25, 3) := by decide +kernel
theorem dX10_may_9 : decode cX10_may 9 = .ok (.aload_n 0, 1) := by decide +kernel
theorem dX10_may_10 : decode cX10_may 10 = .ok (.iload_n 2, 1) := by decide +kernel
theorem dX10_may_11 : decode cX10_may 11 = .ok (.invokevirtual 165, 3) := by decide +kernel
theorem dX10_may_14 : decode cX10_may 14 = .ok (.bipush (-4), 2) := by decide +kernel
theorem dX10_may_16 : decode cX10_may 16 = .ok (.if_icmp .ne 9, 3) := by decide +kernel
theorem dX10_may_19 : decode cX10_may 19 = .ok (.iload_n 1, 1) := by decide +kernel
theorem dX10_may_20 : decode cX10_may 20 = .ok (.iconst 1, 1) := by decide +kernel
theorem dX10_may_21 : decode cX10_may 21 = .ok (.iload_n 2, 1) := by decide +kernel
theorem dX10_may_22 : decode cX10_may 22 = .ok (.ishl, 1) := by decide +kernel
theorem dX10_may_23 : decode cX10_may 23 = .ok (.ior, 1) := by decide +kernel
theorem dX10_may_24 : decode cX10_may 24 = .ok (.istore_n 1, 1) := by decide +kernel
theorem dX10_may_25 : decode cX10_may 25 = .ok (.iinc 2 1, 3) := by decide +kernel
theorem dX10_may_28 : decode cX10_may 28 = .ok (.goto (-24), 3) := by decide +kernel
theorem dX10_may_31 : decode cX10_may 31 = .ok (.iload_n 1, 1) := by decide +kernel
theorem dX10_may_32 : decode cX10_may 32 = .ok (.ireturn, 1) := by decide +kernel
set_option maxRecDepth 20000 in
theorem ggX10_figure_X6_add : GoodIn wsX10_figure wsX6_add := goodIn_r _ [6, 7, 8, 23, 24] (by decide +kernel) (by decide +kernel)
set_option maxRecDepth 20000 in
theorem gX10_figure_X6_add : GoodIn wsX10_figure (wsV RX10 79 RX6 yX6_add wsX6_add) := goodIn_app (goodIn_of _ (by decide +kernel)) ggX10_figure_X6_add
set_option maxRecDepth 20000 in
theorem ggX10_figure_X6_size : GoodIn wsX10_figure wsX6_size := goodIn_r _ [12, 7, 23, 24] (by decide +kernel) (by decide +kernel)
set_option maxRecDepth 20000 in
theorem gX10_figure_X6_size : GoodIn wsX10_figure (wsV RX10 75 RX6 yX6_size wsX6_size) := goodIn_app (goodIn_of _ (by decide +kernel)) ggX10_figure_X6_size
theorem dX10_figure_0 : decode cX10_figure 0 = .ok (.iload_n 1, 1) := by decide +kernel
theorem dX10_figure_1 : decode cX10_figure 1 = .ok (.iconst 1, 1) := by decide +kernel
theorem dX10_figure_2 : decode cX10_figure 2 = .ok (.if_icmp .lt 9, 3) := by decide +kernel
theorem dX10_figure_5 : decode cX10_figure 5 = .ok (.iload_n 1, 1) := by decide +kernel
theorem dX10_figure_6 : decode cX10_figure 6 = .ok (.bipush 9, 2) := by decide +kernel
theorem dX10_figure_8 : decode cX10_figure 8 = .ok (.if_icmp .le 5, 3) := by decide +kernel
theorem dX10_figure_11 : decode cX10_figure 11 = .ok (.iconst (-1), 1) := by decide +kernel
theorem dX10_figure_12 : decode cX10_figure 12 = .ok (.ireturn, 1) := by decide +kernel
theorem dX10_figure_13 : decode cX10_figure 13 = .ok (.aload_n 0, 1) := by decide +kernel
theorem dX10_figure_14 : decode cX10_figure 14 = .ok (.getfield 50, 3) := by decide +kernel
theorem dX10_figure_17 : decode cX10_figure 17 = .ok (.iload_n 1, 1) := by decide +kernel
theorem dX10_figure_18 : decode cX10_figure 18 = .ok (.invokevirtual 79, 3) := by decide +kernel
theorem dX10_figure_21 : decode cX10_figure 21 = .ok (.ifCond .eq 13, 3) := by decide +kernel
theorem dX10_figure_24 : decode cX10_figure 24 = .ok (.aload_n 0, 1) := by decide +kernel
theorem dX10_figure_25 : decode cX10_figure 25 = .ok (.getfield 50, 3) := by decide +kernel
theorem dX10_figure_28 : decode cX10_figure 28 = .ok (.invokevirtual 75, 3) := by decide +kernel
theorem dX10_figure_31 : decode cX10_figure 31 = .ok (.goto 5, 3) := by decide +kernel
theorem dX10_figure_34 : decode cX10_figure 34 = .ok (.bipush (-3), 2) := by decide +kernel
theorem dX10_figure_36 : decode cX10_figure 36 = .ok (.ireturn, 1) := by decide +kernel
set_option maxRecDepth 20000 in
theorem ggX10_noFigures_X6_clear : GoodIn wsX10_noFigures wsX6_clear := goodIn_r _ [6, 7, 18, 19] (by decide +kernel) (by decide +kernel)
set_option maxRecDepth 20000 in
theorem gX10_noFigures_X6_clear : GoodIn wsX10_noFigures (wsV RX10 83 RX6 yX6_clear wsX6_clear) := goodIn_app (goodIn_of _ (by decide +kernel)) ggX10_noFigures_X6_clear
theorem dX10_noFigures_0 : decode cX10_noFigures 0 = .ok (.aload_n 0, 1) := by decide +kernel
theorem dX10_noFigures_1 : decode cX10_noFigures 1 = .ok (.getfield 50, 3) := by decide +kernel
theorem dX10_noFigures_4 : decode cX10_noFigures 4 = .ok (.invokevirtual 83, 3) := by decide +kernel
theorem dX10_noFigures_7 : decode cX10_noFigures 7 = .ok (.ireturn, 1) := by decide +kernel
set_option maxRecDepth 20000 in
theorem ggX10_said_X8_speak : GoodIn wsX10_said wsX8_speak := goodIn_r _ [7, 8, 9, 10, 11, 12, 13, 14, 15, 16, 17, 18, 19, 20, 21, 22, 23, 24, 25, 26, 6, 27, 28, 29, 30, 31, 32, 33, 34, 35, 36, 37, 38, 39, 40, 57, 58, 59, 60] (by decide +kernel) (by decide +kernel)
set_option maxRecDepth 20000 in
theorem gX10_said_X8_speak : GoodIn wsX10_said (wsV RX10 168 RX8 yX8_speak wsX8_speak) := goodIn_app (goodIn_of _ (by decide +kernel)) ggX10_said_X8_speak
set_option maxRecDepth 20000 in
theorem ggX10_said_X10_part : GoodIn wsX10_said wsX10_part := goodIn_r _ [44, 45, 33, 34, 13, 35, 15, 46, 17, 18, 19, 20, 59, 60] (by decide +kernel) (by decide +kernel)
set_option maxRecDepth 20000 in
theorem gX10_said_X10_part : GoodIn wsX10_said (va_wsS RX10 172 yX10_part wsX10_part) := goodIn_app (goodIn_of _ (by decide +kernel)) ggX10_said_X10_part
theorem dX10_said_0 : decode cX10_said 0 = .ok (.iload_n 2, 1) := by decide +kernel
theorem dX10_said_1 : decode cX10_said 1 = .ok (.ifCond .lt 14, 3) := by decide +kernel
theorem dX10_said_4 : decode cX10_said 4 = .ok (.iload_n 2, 1) := by decide +kernel
theorem dX10_said_5 : decode cX10_said 5 = .ok (.bipush 12, 2) := by decide +kernel
theorem dX10_said_7 : decode cX10_said 7 = .ok (.if_icmp .gt 8, 3) := by decide +kernel
theorem dX10_said_10 : decode cX10_said 10 = .ok (.iload_n 3, 1) := by decide +kernel
theorem dX10_said_11 : decode cX10_said 11 = .ok (.iconst (-1), 1) := by decide +kernel
theorem dX10_said_12 : decode cX10_said 12 = .ok (.if_icmp .ge 5, 3) := by decide +kernel
theorem dX10_said_15 : decode cX10_said 15 = .ok (.iconst (-1), 1) := by decide +kernel
theorem dX10_said_16 : decode cX10_said 16 = .ok (.ireturn, 1) := by decide +kernel
theorem dX10_said_17 : decode cX10_said 17 = .ok (.aload_n 0, 1) := by decide +kernel
theorem dX10_said_18 : decode cX10_said 18 = .ok (.getfield 56, 3) := by decide +kernel
theorem dX10_said_21 : decode cX10_said 21 = .ok (.aload_n 0, 1) := by decide +kernel
theorem dX10_said_22 : decode cX10_said 22 = .ok (.getfield 50, 3) := by decide +kernel
theorem dX10_said_25 : decode cX10_said 25 = .ok (.iload_n 1, 1) := by decide +kernel
theorem dX10_said_26 : decode cX10_said 26 = .ok (.iload_n 2, 1) := by decide +kernel
theorem dX10_said_27 : decode cX10_said 27 = .ok (.invokevirtual 168, 3) := by decide +kernel
theorem dX10_said_30 : decode cX10_said 30 = .ok (.iload_n 3, 1) := by decide +kernel
theorem dX10_said_31 : decode cX10_said 31 = .ok (.invokestatic 172, 3) := by decide +kernel
theorem dX10_said_34 : decode cX10_said 34 = .ok (.ireturn, 1) := by decide +kernel
set_option maxRecDepth 20000 in
theorem ggX10_unsaid_X8_takeBack : GoodIn wsX10_unsaid wsX8_takeBack := goodIn_r _ [7, 8, 9, 10, 6, 11, 12, 13, 14, 15, 16, 17, 18, 19, 20, 21, 22, 23, 24, 25, 26, 27, 28, 29, 30, 47, 48, 49, 50] (by decide +kernel) (by decide +kernel)
set_option maxRecDepth 20000 in
theorem gX10_unsaid_X8_takeBack : GoodIn wsX10_unsaid (wsV RX10 176 RX8 yX8_takeBack wsX8_takeBack) := goodIn_app (goodIn_of _ (by decide +kernel)) ggX10_unsaid_X8_takeBack
set_option maxRecDepth 20000 in
theorem ggX10_unsaid_X10_part : GoodIn wsX10_unsaid wsX10_part := goodIn_r _ [34, 35, 19, 20, 15, 21, 17, 36, 23, 24, 25, 26, 49, 50] (by decide +kernel) (by decide +kernel)
set_option maxRecDepth 20000 in
theorem gX10_unsaid_X10_part : GoodIn wsX10_unsaid (va_wsS RX10 172 yX10_part wsX10_part) := goodIn_app (goodIn_of _ (by decide +kernel)) ggX10_unsaid_X10_part
theorem dX10_unsaid_0 : decode cX10_unsaid 0 = .ok (.iload_n 1, 1) := by decide +kernel
theorem dX10_unsaid_1 : decode cX10_unsaid 1 = .ok (.iconst (-1), 1) := by decide +kernel
theorem dX10_unsaid_2 : decode cX10_unsaid 2 = .ok (.if_icmp .ge 5, 3) := by decide +kernel
theorem dX10_unsaid_5 : decode cX10_unsaid 5 = .ok (.iconst (-1), 1) := by decide +kernel
theorem dX10_unsaid_6 : decode cX10_unsaid 6 = .ok (.ireturn, 1) := by decide +kernel
theorem dX10_unsaid_7 : decode cX10_unsaid 7 = .ok (.aload_n 0, 1) := by decide +kernel
theorem dX10_unsaid_8 : decode cX10_unsaid 8 = .ok (.getfield 56, 3) := by decide +kernel
theorem dX10_unsaid_11 : decode cX10_unsaid 11 = .ok (.aload_n 0, 1) := by decide +kernel
theorem dX10_unsaid_12 : decode cX10_unsaid 12 = .ok (.getfield 50, 3) := by decide +kernel
theorem dX10_unsaid_15 : decode cX10_unsaid 15 = .ok (.invokevirtual 176, 3) := by decide +kernel
theorem dX10_unsaid_18 : decode cX10_unsaid 18 = .ok (.iload_n 1, 1) := by decide +kernel
theorem dX10_unsaid_19 : decode cX10_unsaid 19 = .ok (.invokestatic 172, 3) := by decide +kernel
theorem dX10_unsaid_22 : decode cX10_unsaid 22 = .ok (.ireturn, 1) := by decide +kernel
set_option maxRecDepth 20000 in
theorem ggX10_backs_X8_mostBacks : GoodIn wsX10_backs wsX8_mostBacks := goodIn_r _ [7, 8, 9, 10, 11, 12, 13, 14, 15, 16, 17, 18, 19, 20, 21, 22, 23, 24, 25, 26, 6, 27, 28, 29, 30, 31, 32, 33, 34, 35, 36, 37, 48, 49, 50, 51] (by decide +kernel) (by decide +kernel)
set_option maxRecDepth 20000 in
theorem gX10_backs_X8_mostBacks : GoodIn wsX10_backs (wsV RX10 180 RX8 yX8_mostBacks wsX8_mostBacks) := goodIn_app (goodIn_of _ (by decide +kernel)) ggX10_backs_X8_mostBacks
theorem dX10_backs_0 : decode cX10_backs 0 = .ok (.aload_n 0, 1) := by decide +kernel
theorem dX10_backs_1 : decode cX10_backs 1 = .ok (.getfield 56, 3) := by decide +kernel
theorem dX10_backs_4 : decode cX10_backs 4 = .ok (.aload_n 0, 1) := by decide +kernel
theorem dX10_backs_5 : decode cX10_backs 5 = .ok (.getfield 50, 3) := by decide +kernel
theorem dX10_backs_8 : decode cX10_backs 8 = .ok (.invokevirtual 180, 3) := by decide +kernel
theorem dX10_backs_11 : decode cX10_backs 11 = .ok (.ireturn, 1) := by decide +kernel
set_option maxRecDepth 20000 in
theorem ggX10_round_X4_find : GoodIn wsX10_round wsX4_find := goodIn_r _ [7, 8, 9, 10, 11, 12, 13, 14, 15, 16, 17, 18, 19, 20, 21, 22, 23, 24, 25, 26, 27, 28, 29, 30, 31, 32, 33, 34, 35, 36, 37, 38, 39, 40, 41, 42, 43, 62, 63, 64, 65, 66] (by decide +kernel) (by decide +kernel)
set_option maxRecDepth 20000 in
theorem gX10_round_X4_find : GoodIn wsX10_round (wsV RX10 184 RX4 yX4_find wsX4_find) := goodIn_app (goodIn_of _ (by decide +kernel)) ggX10_round_X4_find
set_option maxRecDepth 20000 in
theorem ggX10_round_X4_tail : GoodIn wsX10_round wsX4_tail := goodIn_r _ [47, 9, 62, 63, 64] (by decide +kernel) (by decide +kernel)
set_option maxRecDepth 20000 in
theorem gX10_round_X4_tail : GoodIn wsX10_round (wsV RX10 188 RX4 yX4_tail wsX4_tail) := goodIn_app (goodIn_of _ (by decide +kernel)) ggX10_round_X4_tail
set_option maxRecDepth 20000 in
theorem ggX10_round_X4_length : GoodIn wsX10_round wsX4_length := goodIn_r _ [51, 10, 62, 63, 64] (by decide +kernel) (by decide +kernel)
set_option maxRecDepth 20000 in
theorem gX10_round_X4_length : GoodIn wsX10_round (wsV RX10 190 RX4 yX4_length wsX4_length) := goodIn_app (goodIn_of _ (by decide +kernel)) ggX10_round_X4_length
theorem dX10_round_0 : decode cX10_round 0 = .ok (.iload_n 1, 1) := by decide +kernel
theorem dX10_round_1 : decode cX10_round 1 = .ok (.ifCond .lt 8, 3) := by decide +kernel
theorem dX10_round_4 : decode cX10_round 4 = .ok (.iload_n 1, 1) := by decide +kernel
theorem dX10_round_5 : decode cX10_round 5 = .ok (.iconst 1, 1) := by decide +kernel
theorem dX10_round_6 : decode cX10_round 6 = .ok (.if_icmp .le 5, 3) := by decide +kernel
theorem dX10_round_9 : decode cX10_round 9 = .ok (.iconst (-1), 1) := by decide +kernel
theorem dX10_round_10 : decode cX10_round 10 = .ok (.ireturn, 1) := by decide +kernel
theorem dX10_round_11 : decode cX10_round 11 = .ok (.aload_n 0, 1) := by decide +kernel
theorem dX10_round_12 : decode cX10_round 12 = .ok (.getfield 63, 3) := by decide +kernel
theorem dX10_round_15 : decode cX10_round 15 = .ok (.aload_n 0, 1) := by decide +kernel
theorem dX10_round_16 : decode cX10_round 16 = .ok (.getfield 50, 3) := by decide +kernel
theorem dX10_round_19 : decode cX10_round 19 = .ok (.invokevirtual 184, 3) := by decide +kernel
theorem dX10_round_22 : decode cX10_round 22 = .ok (.ifCond .ne 6, 3) := by decide +kernel
theorem dX10_round_25 : decode cX10_round 25 = .ok (.bipush (-2), 2) := by decide +kernel
theorem dX10_round_27 : decode cX10_round 27 = .ok (.ireturn, 1) := by decide +kernel
theorem dX10_round_28 : decode cX10_round 28 = .ok (.iload_n 1, 1) := by decide +kernel
theorem dX10_round_29 : decode cX10_round 29 = .ok (.ifCond .ne 13, 3) := by decide +kernel
theorem dX10_round_32 : decode cX10_round 32 = .ok (.aload_n 0, 1) := by decide +kernel
theorem dX10_round_33 : decode cX10_round 33 = .ok (.getfield 63, 3) := by decide +kernel
theorem dX10_round_36 : decode cX10_round 36 = .ok (.invokevirtual 188, 3) := by decide +kernel
theorem dX10_round_39 : decode cX10_round 39 = .ok (.goto 10, 3) := by decide +kernel
theorem dX10_round_42 : decode cX10_round 42 = .ok (.aload_n 0, 1) := by decide +kernel
theorem dX10_round_43 : decode cX10_round 43 = .ok (.getfield 63, 3) := by decide +kernel
theorem dX10_round_46 : decode cX10_round 46 = .ok (.invokevirtual 190, 3) := by decide +kernel
theorem dX10_round_49 : decode cX10_round 49 = .ok (.ireturn, 1) := by decide +kernel
set_option maxRecDepth 20000 in
theorem ggX10_tellers_X9_search : GoodIn wsX10_tellers wsX9_search := goodIn_r _ [7, 8, 9, 10, 11, 12, 13, 6, 14, 15, 16, 17, 18, 19, 20, 21, 22, 23, 24, 39, 40, 41, 42] (by decide +kernel) (by decide +kernel)
set_option maxRecDepth 20000 in
theorem gX10_tellers_X9_search : GoodIn wsX10_tellers (wsV RX10 194 RX9 yX9_search wsX9_search) := goodIn_app (goodIn_of _ (by decide +kernel)) ggX10_tellers_X9_search
set_option maxRecDepth 20000 in
theorem ggX10_tellers_X9_answer : GoodIn wsX10_tellers wsX9_answer := goodIn_r _ [28, 11, 39, 40, 41, 42] (by decide +kernel) (by decide +kernel)
set_option maxRecDepth 20000 in
theorem gX10_tellers_X9_answer : GoodIn wsX10_tellers (wsV RX10 197 RX9 yX9_answer wsX9_answer) := goodIn_app (goodIn_of _ (by decide +kernel)) ggX10_tellers_X9_answer
theorem dX10_tellers_0 : decode cX10_tellers 0 = .ok (.iload_n 1, 1) := by decide +kernel
theorem dX10_tellers_1 : decode cX10_tellers 1 = .ok (.iconst 2, 1) := by decide +kernel
theorem dX10_tellers_2 : decode cX10_tellers 2 = .ok (.if_icmp .lt 14, 3) := by decide +kernel
theorem dX10_tellers_5 : decode cX10_tellers 5 = .ok (.iload_n 1, 1) := by decide +kernel
theorem dX10_tellers_6 : decode cX10_tellers 6 = .ok (.bipush 10, 2) := by decide +kernel
theorem dX10_tellers_8 : decode cX10_tellers 8 = .ok (.if_icmp .gt 8, 3) := by decide +kernel
theorem dX10_tellers_11 : decode cX10_tellers 11 = .ok (.iload_n 2, 1) := by decide +kernel
theorem dX10_tellers_12 : decode cX10_tellers 12 = .ok (.iconst (-1), 1) := by decide +kernel
theorem dX10_tellers_13 : decode cX10_tellers 13 = .ok (.if_icmp .ge 7, 3) := by decide +kernel
theorem dX10_tellers_16 : decode cX10_tellers 16 = .ok (.ldc2_w 192, 3) := by decide +kernel
theorem dX10_tellers_19 : decode cX10_tellers 19 = .ok (.lreturn, 1) := by decide +kernel
theorem dX10_tellers_20 : decode cX10_tellers 20 = .ok (.aload_n 0, 1) := by decide +kernel
theorem dX10_tellers_21 : decode cX10_tellers 21 = .ok (.getfield 70, 3) := by decide +kernel
theorem dX10_tellers_24 : decode cX10_tellers 24 = .ok (.iload_n 1, 1) := by decide +kernel
theorem dX10_tellers_25 : decode cX10_tellers 25 = .ok (.iload_n 2, 1) := by decide +kernel
theorem dX10_tellers_26 : decode cX10_tellers 26 = .ok (.invokevirtual 194, 3) := by decide +kernel
theorem dX10_tellers_29 : decode cX10_tellers 29 = .ok (.istore_n 3, 1) := by decide +kernel
theorem dX10_tellers_30 : decode cX10_tellers 30 = .ok (.iload_n 2, 1) := by decide +kernel
theorem dX10_tellers_31 : decode cX10_tellers 31 = .ok (.iconst (-1), 1) := by decide +kernel
theorem dX10_tellers_32 : decode cX10_tellers 32 = .ok (.if_icmp .ne 8, 3) := by decide +kernel
theorem dX10_tellers_35 : decode cX10_tellers 35 = .ok (.iload_n 3, 1) := by decide +kernel
theorem dX10_tellers_36 : decode cX10_tellers 36 = .ok (.i2l, 1) := by decide +kernel
theorem dX10_tellers_37 : decode cX10_tellers 37 = .ok (.goto 10, 3) := by decide +kernel
theorem dX10_tellers_40 : decode cX10_tellers 40 = .ok (.aload_n 0, 1) := by decide +kernel
theorem dX10_tellers_41 : decode cX10_tellers 41 = .ok (.getfield 70, 3) := by decide +kernel
theorem dX10_tellers_44 : decode cX10_tellers 44 = .ok (.invokevirtual 197, 3) := by decide +kernel
theorem dX10_tellers_47 : decode cX10_tellers 47 = .ok (.lreturn, 1) := by decide +kernel
set_option maxRecDepth 20000 in
theorem ggX10_count_X6_size : GoodIn wsX10_count wsX6_size := goodIn_r _ [8, 9, 20, 21] (by decide +kernel) (by decide +kernel)
set_option maxRecDepth 20000 in
theorem gX10_count_X6_size : GoodIn wsX10_count (wsV RX10 75 RX6 yX6_size wsX6_size) := goodIn_app (goodIn_of _ (by decide +kernel)) ggX10_count_X6_size
theorem dX10_count_0 : decode cX10_count 0 = .ok (.iload_n 1, 1) := by decide +kernel
theorem dX10_count_1 : decode cX10_count 1 = .ok (.tableswitch 51 0 2 #[27, 35, 43], 27) := by decide +kernel
theorem dX10_count_28 : decode cX10_count 28 = .ok (.aload_n 0, 1) := by decide +kernel
theorem dX10_count_29 : decode cX10_count 29 = .ok (.getfield 36, 3) := by decide +kernel
theorem dX10_count_32 : decode cX10_count 32 = .ok (.invokevirtual 75, 3) := by decide +kernel
theorem dX10_count_35 : decode cX10_count 35 = .ok (.ireturn, 1) := by decide +kernel
theorem dX10_count_36 : decode cX10_count 36 = .ok (.aload_n 0, 1) := by decide +kernel
theorem dX10_count_37 : decode cX10_count 37 = .ok (.getfield 47, 3) := by decide +kernel
theorem dX10_count_40 : decode cX10_count 40 = .ok (.invokevirtual 75, 3) := by decide +kernel
theorem dX10_count_43 : decode cX10_count 43 = .ok (.ireturn, 1) := by decide +kernel
theorem dX10_count_44 : decode cX10_count 44 = .ok (.aload_n 0, 1) := by decide +kernel
theorem dX10_count_45 : decode cX10_count 45 = .ok (.getfield 50, 3) := by decide +kernel
theorem dX10_count_48 : decode cX10_count 48 = .ok (.invokevirtual 75, 3) := by decide +kernel
theorem dX10_count_51 : decode cX10_count 51 = .ok (.ireturn, 1) := by decide +kernel
theorem dX10_count_52 : decode cX10_count 52 = .ok (.iconst (-1), 1) := by decide +kernel
theorem dX10_count_53 : decode cX10_count 53 = .ok (.ireturn, 1) := by decide +kernel
theorem dX10_isNumber_0 : decode cX10_isNumber 0 = .ok (.iload_n 0, 1) := by decide +kernel
theorem dX10_isNumber_1 : decode cX10_isNumber 1 = .ok (.ifCond .lt 13, 3) := by decide +kernel
theorem dX10_isNumber_4 : decode cX10_isNumber 4 = .ok (.iload_n 0, 1) := by decide +kernel
theorem dX10_isNumber_5 : decode cX10_isNumber 5 = .ok (.ldc 201, 2) := by decide +kernel
theorem dX10_isNumber_7 : decode cX10_isNumber 7 = .ok (.if_icmp .gt 7, 3) := by decide +kernel
theorem dX10_isNumber_10 : decode cX10_isNumber 10 = .ok (.iconst 1, 1) := by decide +kernel
theorem dX10_isNumber_11 : decode cX10_isNumber 11 = .ok (.goto 4, 3) := by decide +kernel
theorem dX10_isNumber_14 : decode cX10_isNumber 14 = .ok (.iconst 0, 1) := by decide +kernel
theorem dX10_isNumber_15 : decode cX10_isNumber 15 = .ok (.ireturn, 1) := by decide +kernel
theorem dX10_registerOf_0 : decode cX10_registerOf 0 = .ok (.iload_n 1, 1) := by decide +kernel
theorem dX10_registerOf_1 : decode cX10_registerOf 1 = .ok (.ifCond .lt 17, 3) := by decide +kernel
theorem dX10_registerOf_4 : decode cX10_registerOf 4 = .ok (.iload_n 1, 1) := by decide +kernel
theorem dX10_registerOf_5 : decode cX10_registerOf 5 = .ok (.iconst 4, 1) := by decide +kernel
theorem dX10_registerOf_6 : decode cX10_registerOf 6 = .ok (.if_icmp .ge 12, 3) := by decide +kernel
theorem dX10_registerOf_9 : decode cX10_registerOf 9 = .ok (.aload_n 0, 1) := by decide +kernel
theorem dX10_registerOf_10 : decode cX10_registerOf 10 = .ok (.getfield 11, 3) := by decide +kernel
theorem dX10_registerOf_13 : decode cX10_registerOf 13 = .ok (.iload_n 1, 1) := by decide +kernel
theorem dX10_registerOf_14 : decode cX10_registerOf 14 = .ok (.aaload, 1) := by decide +kernel
theorem dX10_registerOf_15 : decode cX10_registerOf 15 = .ok (.goto 4, 3) := by decide +kernel
theorem dX10_registerOf_18 : decode cX10_registerOf 18 = .ok (.aconst_null, 1) := by decide +kernel
theorem dX10_registerOf_19 : decode cX10_registerOf 19 = .ok (.areturn, 1) := by decide +kernel
set_option maxRecDepth 20000 in
theorem ggX10_madeRow_X10_registerOf : GoodIn wsX10_madeRow wsX10_registerOf := goodIn_r _ [6, 7, 102, 103, 104, 105, 106, 107, 108, 109, 110, 111] (by decide +kernel) (by decide +kernel)
set_option maxRecDepth 20000 in
theorem gX10_madeRow_X10_registerOf : GoodIn wsX10_madeRow (wsV RX10 99 RX10 yX10_registerOf wsX10_registerOf) := goodIn_app (goodIn_of _ (by decide +kernel)) ggX10_madeRow_X10_registerOf
set_option maxRecDepth 20000 in
theorem ggX10_madeRow_X2_make : GoodIn wsX10_madeRow wsX2_make := goodIn_r _ [12, 13, 14, 15, 16, 17, 18, 19, 20, 21, 22, 23, 24, 25, 26, 27, 28, 11, 29, 30, 31, 32, 33, 34, 35, 36, 37, 38, 39, 40, 41, 42, 43, 44, 45, 46, 47, 48, 49, 50, 51, 52, 53, 54, 55, 56, 57, 58, 59, 60, 61, 62, 63, 64, 65, 66, 67, 68, 69, 70, 71, 72, 73, 74, 75, 76, 77, 78, 79, 80, 81, 82, 83, 84, 85, 86, 87, 88, 89, 90, 91, 92, 93, 94, 5, 95, 96, 112, 113, 97, 98, 99, 100, 101, 114, 115, 116] (by decide +kernel) (by decide +kernel)
set_option maxRecDepth 20000 in
theorem gX10_madeRow_X2_make : GoodIn wsX10_madeRow (wsV RX10 206 RX2 yX2_make wsX2_make) := goodIn_app (goodIn_of _ (by decide +kernel)) ggX10_madeRow_X2_make
theorem dX10_madeRow_0 : decode cX10_madeRow 0 = .ok (.aload_n 0, 1) := by decide +kernel
theorem dX10_madeRow_1 : decode cX10_madeRow 1 = .ok (.iload_n 1, 1) := by decide +kernel
theorem dX10_madeRow_2 : decode cX10_madeRow 2 = .ok (.invokevirtual 99, 3) := by decide +kernel
theorem dX10_madeRow_5 : decode cX10_madeRow 5 = .ok (.astore_n 2, 1) := by decide +kernel
theorem dX10_madeRow_6 : decode cX10_madeRow 6 = .ok (.aload_n 2, 1) := by decide +kernel
theorem dX10_madeRow_7 : decode cX10_madeRow 7 = .ok (.ifnull 18, 3) := by decide +kernel
theorem dX10_madeRow_10 : decode cX10_madeRow 10 = .ok (.aload_n 2, 1) := by decide +kernel
theorem dX10_madeRow_11 : decode cX10_madeRow 11 = .ok (.getfield 202, 3) := by decide +kernel
theorem dX10_madeRow_14 : decode cX10_madeRow 14 = .ok (.ifCond .ne 11, 3) := by decide +kernel
theorem dX10_madeRow_17 : decode cX10_madeRow 17 = .ok (.aload_n 0, 1) := by decide +kernel
theorem dX10_madeRow_18 : decode cX10_madeRow 18 = .ok (.getfield 27, 3) := by decide +kernel
theorem dX10_madeRow_21 : decode cX10_madeRow 21 = .ok (.aload_n 2, 1) := by decide +kernel
theorem dX10_madeRow_22 : decode cX10_madeRow 22 = .ok (.invokevirtual 206, 3) := by decide +kernel
theorem dX10_madeRow_25 : decode cX10_madeRow 25 = .ok (.aload_n 2, 1) := by decide +kernel
theorem dX10_madeRow_26 : decode cX10_madeRow 26 = .ok (.areturn, 1) := by decide +kernel
set_option maxRecDepth 20000 in
theorem ggX10_part_X6_size : GoodIn wsX10_part wsX6_size := goodIn_r _ [5, 6, 12, 13] (by decide +kernel) (by decide +kernel)
set_option maxRecDepth 20000 in
theorem gX10_part_X6_size : GoodIn wsX10_part (wsV RX10 75 RX6 yX6_size wsX6_size) := goodIn_app (goodIn_of _ (by decide +kernel)) ggX10_part_X6_size
set_option maxRecDepth 20000 in
theorem ggX10_part_X6_get : GoodIn wsX10_part wsX6_get := goodIn_r _ [10, 6, 11, 12, 13] (by decide +kernel) (by decide +kernel)
set_option maxRecDepth 20000 in
theorem gX10_part_X6_get : GoodIn wsX10_part (wsV RX10 120 RX6 yX6_get wsX6_get) := goodIn_app (goodIn_of _ (by decide +kernel)) ggX10_part_X6_get
theorem dX10_part_0 : decode cX10_part 0 = .ok (.aload_n 0, 1) := by decide +kernel
theorem dX10_part_1 : decode cX10_part 1 = .ok (.ifnonnull 6, 3) := by decide +kernel
theorem dX10_part_4 : decode cX10_part 4 = .ok (.bipush (-2), 2) := by decide +kernel
theorem dX10_part_6 : decode cX10_part 6 = .ok (.ireturn, 1) := by decide +kernel
theorem dX10_part_7 : decode cX10_part 7 = .ok (.iload_n 1, 1) := by decide +kernel
theorem dX10_part_8 : decode cX10_part 8 = .ok (.iconst (-1), 1) := by decide +kernel
theorem dX10_part_9 : decode cX10_part 9 = .ok (.if_icmp .ne 10, 3) := by decide +kernel
theorem dX10_part_12 : decode cX10_part 12 = .ok (.aload_n 0, 1) := by decide +kernel
theorem dX10_part_13 : decode cX10_part 13 = .ok (.invokevirtual 75, 3) := by decide +kernel
theorem dX10_part_16 : decode cX10_part 16 = .ok (.goto 8, 3) := by decide +kernel
theorem dX10_part_19 : decode cX10_part 19 = .ok (.aload_n 0, 1) := by decide +kernel
theorem dX10_part_20 : decode cX10_part 20 = .ok (.iload_n 1, 1) := by decide +kernel
theorem dX10_part_21 : decode cX10_part 21 = .ok (.invokevirtual 120, 3) := by decide +kernel
theorem dX10_part_24 : decode cX10_part 24 = .ok (.ireturn, 1) := by decide +kernel
