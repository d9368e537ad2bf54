theorem dX11_init_0 : decode cX11_init 0 = .ok (.aload_n 0, 1) := by decide +kernel
theorem dX11_init_1 : decode cX11_init 1 = .ok (.invokespecial 1, 3) := by decide +kernel
theorem dX11_init_4 : decode cX11_init 4 = .ok (.aload_n 0, 1) := by decide +kernel
theorem dX11_init_5 : decode cX11_init 5 = .ok (.bipush 120, 2) := by decide +kernel
theorem dX11_init_7 : decode cX11_init 7 = .ok (.newarray .byte, 2) := by decide +kernel
theorem dX11_init_9 : decode cX11_init 9 = .ok (.putfield 7, 3) := by decide +kernel
theorem dX11_init_12 : decode cX11_init 12 = .ok (.aload_n 0, 1) := by decide +kernel
theorem dX11_init_13 : decode cX11_init 13 = .ok (.bipush 32, 2) := by decide +kernel
theorem dX11_init_15 : decode cX11_init 15 = .ok (.newarray .int, 2) := by decide +kernel
theorem dX11_init_17 : decode cX11_init 17 = .ok (.putfield 13, 3) := by decide +kernel
theorem dX11_init_20 : decode cX11_init 20 = .ok (.aload_n 0, 1) := by decide +kernel
theorem dX11_init_21 : decode cX11_init 21 = .ok (.bipush 32, 2) := by decide +kernel
theorem dX11_init_23 : decode cX11_init 23 = .ok (.newarray .int, 2) := by decide +kernel
theorem dX11_init_25 : decode cX11_init 25 = .ok (.putfield 17, 3) := by decide +kernel
theorem dX11_init_28 : decode cX11_init 28 = .ok (.aload_n 0, 1) := by decide +kernel
theorem dX11_init_29 : decode cX11_init 29 = .ok (.iconst (-1), 1) := by decide +kernel
theorem dX11_init_30 : decode cX11_init 30 = .ok (.putfield 20, 3) := by decide +kernel
theorem dX11_init_33 : decode cX11_init 33 = .ok (.aload_n 0, 1) := by decide +kernel
theorem dX11_init_34 : decode cX11_init 34 = .ok (.sipush 2000, 3) := by decide +kernel
theorem dX11_init_37 : decode cX11_init 37 = .ok (.newarray .int, 2) := by decide +kernel
theorem dX11_init_39 : decode cX11_init 39 = .ok (.putfield 24, 3) := by decide +kernel
theorem dX11_init_42 : decode cX11_init 42 = .ok (.aload_n 0, 1) := by decide +kernel
theorem dX11_init_43 : decode cX11_init 43 = .ok (.ldc 27, 2) := by decide +kernel
theorem dX11_init_45 : decode cX11_init 45 = .ok (.newarray .int, 2) := by decide +kernel
theorem dX11_init_47 : decode cX11_init 47 = .ok (.putfield 28, 3) := by decide +kernel
theorem dX11_init_50 : decode cX11_init 50 = .ok (.aload_n 0, 1) := by decide +kernel
theorem dX11_init_51 : decode cX11_init 51 = .ok (.bipush 40, 2) := by decide +kernel
theorem dX11_init_53 : decode cX11_init 53 = .ok (.newarray .int, 2) := by decide +kernel
theorem dX11_init_55 : decode cX11_init 55 = .ok (.putfield 31, 3) := by decide +kernel
theorem dX11_init_58 : decode cX11_init 58 = .ok (.aload_n 0, 1) := by decide +kernel
theorem dX11_init_59 : decode cX11_init 59 = .ok (.bipush 40, 2) := by decide +kernel
theorem dX11_init_61 : decode cX11_init 61 = .ok (.newarray .int, 2) := by decide +kernel
theorem dX11_init_63 : decode cX11_init 63 = .ok (.putfield 34, 3) := by decide +kernel
theorem dX11_init_66 : decode cX11_init 66 = .ok (.aload_n 0, 1) := by decide +kernel
theorem dX11_init_67 : decode cX11_init 67 = .ok (.sipush 5000, 3) := by decide +kernel
theorem dX11_init_70 : decode cX11_init 70 = .ok (.newarray .int, 2) := by decide +kernel
theorem dX11_init_72 : decode cX11_init 72 = .ok (.putfield 37, 3) := by decide +kernel
theorem dX11_init_75 : decode cX11_init 75 = .ok (.aload_n 0, 1) := by decide +kernel
theorem dX11_init_76 : decode cX11_init 76 = .ok (.sipush 5000, 3) := by decide +kernel
theorem dX11_init_79 : decode cX11_init 79 = .ok (.newarray .int, 2) := by decide +kernel
theorem dX11_init_81 : decode cX11_init 81 = .ok (.putfield 40, 3) := by decide +kernel
theorem dX11_init_84 : decode cX11_init 84 = .ok (.aload_n 0, 1) := by decide +kernel
theorem dX11_init_85 : decode cX11_init 85 = .ok (.bipush 62, 2) := by decide +kernel
theorem dX11_init_87 : decode cX11_init 87 = .ok (.newarray .int, 2) := by decide +kernel
theorem dX11_init_89 : decode cX11_init 89 = .ok (.putfield 43, 3) := by decide +kernel
theorem dX11_init_92 : decode cX11_init 92 = .ok (.aload_n 0, 1) := by decide +kernel
theorem dX11_init_93 : decode cX11_init 93 = .ok (.sipush 2480, 3) := by decide +kernel
theorem dX11_init_96 : decode cX11_init 96 = .ok (.newarray .int, 2) := by decide +kernel
theorem dX11_init_98 : decode cX11_init 98 = .ok (.putfield 46, 3) := by decide +kernel
theorem dX11_init_101 : decode cX11_init 101 = .ok (.aload_n 0, 1) := by decide +kernel
theorem dX11_init_102 : decode cX11_init 102 = .ok (.bipush 11, 2) := by decide +kernel
theorem dX11_init_104 : decode cX11_init 104 = .ok (.newarray .int, 2) := by decide +kernel
theorem dX11_init_106 : decode cX11_init 106 = .ok (.putfield 49, 3) := by decide +kernel
theorem dX11_init_109 : decode cX11_init 109 = .ok (.aload_n 0, 1) := by decide +kernel
theorem dX11_init_110 : decode cX11_init 110 = .ok (.iconst 4, 1) := by decide +kernel
theorem dX11_init_111 : decode cX11_init 111 = .ok (.newarray .boolean, 2) := by decide +kernel
theorem dX11_init_113 : decode cX11_init 113 = .ok (.putfield 52, 3) := by decide +kernel
theorem dX11_init_116 : decode cX11_init 116 = .ok (.iconst 0, 1) := by decide +kernel
theorem dX11_init_117 : decode cX11_init 117 = .ok (.istore_n 1, 1) := by decide +kernel
theorem dX11_init_118 : decode cX11_init 118 = .ok (.iload_n 1, 1) := by decide +kernel
theorem dX11_init_119 : decode cX11_init 119 = .ok (.iconst 4, 1) := by decide +kernel
theorem dX11_init_120 : decode cX11_init 120 = .ok (.if_icmp .ge 45, 3) := by decide +kernel
theorem dX11_init_123 : decode cX11_init 123 = .ok (.aload_n 0, 1) := by decide +kernel
theorem dX11_init_124 : decode cX11_init 124 = .ok (.getfield 13, 3) := by decide +kernel
theorem dX11_init_127 : decode cX11_init 127 = .ok (.bipush 8, 2) := by decide +kernel
theorem dX11_init_129 : decode cX11_init 129 = .ok (.iload_n 1, 1) := by decide +kernel
theorem dX11_init_130 : decode cX11_init 130 = .ok (.imul, 1) := by decide +kernel
theorem dX11_init_131 : decode cX11_init 131 = .ok (.iconst 1, 1) := by decide +kernel
theorem dX11_init_132 : decode cX11_init 132 = .ok (.iadd, 1) := by decide +kernel
theorem dX11_init_133 : decode cX11_init 133 = .ok (.iconst 2, 1) := by decide +kernel
theorem dX11_init_134 : decode cX11_init 134 = .ok (.iastore, 1) := by decide +kernel
theorem dX11_init_135 : decode cX11_init 135 = .ok (.aload_n 0, 1) := by decide +kernel
theorem dX11_init_136 : decode cX11_init 136 = .ok (.getfield 13, 3) := by decide +kernel
theorem dX11_init_139 : decode cX11_init 139 = .ok (.bipush 8, 2) := by decide +kernel
theorem dX11_init_141 : decode cX11_init 141 = .ok (.iload_n 1, 1) := by decide +kernel
theorem dX11_init_142 : decode cX11_init 142 = .ok (.imul, 1) := by decide +kernel
theorem dX11_init_143 : decode cX11_init 143 = .ok (.iconst 2, 1) := by decide +kernel
theorem dX11_init_144 : decode cX11_init 144 = .ok (.iadd, 1) := by decide +kernel
theorem dX11_init_145 : decode cX11_init 145 = .ok (.iconst 1, 1) := by decide +kernel
theorem dX11_init_146 : decode cX11_init 146 = .ok (.iastore, 1) := by decide +kernel
theorem dX11_init_147 : decode cX11_init 147 = .ok (.aload_n 0, 1) := by decide +kernel
theorem dX11_init_148 : decode cX11_init 148 = .ok (.getfield 13, 3) := by decide +kernel
theorem dX11_init_151 : decode cX11_init 151 = .ok (.bipush 8, 2) := by decide +kernel
theorem dX11_init_153 : decode cX11_init 153 = .ok (.iload_n 1, 1) := by decide +kernel
theorem dX11_init_154 : decode cX11_init 154 = .ok (.imul, 1) := by decide +kernel
theorem dX11_init_155 : decode cX11_init 155 = .ok (.iconst 3, 1) := by decide +kernel
theorem dX11_init_156 : decode cX11_init 156 = .ok (.iadd, 1) := by decide +kernel
theorem dX11_init_157 : decode cX11_init 157 = .ok (.iconst 1, 1) := by decide +kernel
theorem dX11_init_158 : decode cX11_init 158 = .ok (.iastore, 1) := by decide +kernel
theorem dX11_init_159 : decode cX11_init 159 = .ok (.iinc 1 1, 3) := by decide +kernel
theorem dX11_init_162 : decode cX11_init 162 = .ok (.goto (-44), 3) := by decide +kernel
theorem dX11_init_165 : decode cX11_init 165 = .ok (.return_, 1) := by decide +kernel
theorem dX11_in_0 : decode cX11_in 0 = .ok (.lload_n 0, 1) := by decide +kernel
theorem dX11_in_1 : decode cX11_in 1 = .ok (.lload_n 2, 1) := by decide +kernel
theorem dX11_in_2 : decode cX11_in 2 = .ok (.lcmp, 1) := by decide +kernel
theorem dX11_in_3 : decode cX11_in 3 = .ok (.ifCond .lt 14, 3) := by decide +kernel
theorem dX11_in_6 : decode cX11_in 6 = .ok (.lload_n 0, 1) := by decide +kernel
theorem dX11_in_7 : decode cX11_in 7 = .ok (.lload 4, 2) := by decide +kernel
theorem dX11_in_9 : decode cX11_in 9 = .ok (.lcmp, 1) := by decide +kernel
theorem dX11_in_10 : decode cX11_in 10 = .ok (.ifCond .gt 7, 3) := by decide +kernel
theorem dX11_in_13 : decode cX11_in 13 = .ok (.iconst 1, 1) := by decide +kernel
theorem dX11_in_14 : decode cX11_in 14 = .ok (.goto 4, 3) := by decide +kernel
theorem dX11_in_17 : decode cX11_in 17 = .ok (.iconst 0, 1) := by decide +kernel
theorem dX11_in_18 : decode cX11_in 18 = .ok (.ireturn, 1) := by decide +kernel
set_option maxRecDepth 20000 in
theorem ggX11_write_X11_in : GoodIn wsX11_write wsX11_in := goodIn_r _ [7] (by decide +kernel) (by decide +kernel)
set_option maxRecDepth 20000 in
theorem gX11_write_X11_in : GoodIn wsX11_write (va_wsS RX11 58 yX11_in wsX11_in) := goodIn_app (goodIn_of _ (by decide +kernel)) ggX11_write_X11_in
theorem dX11_write_0 : decode cX11_write 0 = .ok (.iload_n 1, 1) := by decide +kernel
theorem dX11_write_1 : decode cX11_write 1 = .ok (.i2l, 1) := by decide +kernel
theorem dX11_write_2 : decode cX11_write 2 = .ok (.lconst 1, 1) := by decide +kernel
theorem dX11_write_3 : decode cX11_write 3 = .ok (.ldc2_w 56, 3) := by decide +kernel
theorem dX11_write_6 : decode cX11_write 6 = .ok (.invokestatic 58, 3) := by decide +kernel
theorem dX11_write_9 : decode cX11_write 9 = .ok (.ifCond .ne 5, 3) := by decide +kernel
theorem dX11_write_12 : decode cX11_write 12 = .ok (.iconst (-1), 1) := by decide +kernel
theorem dX11_write_13 : decode cX11_write 13 = .ok (.ireturn, 1) := by decide +kernel
theorem dX11_write_14 : decode cX11_write 14 = .ok (.aload_n 0, 1) := by decide +kernel
theorem dX11_write_15 : decode cX11_write 15 = .ok (.getfield 62, 3) := by decide +kernel
theorem dX11_write_18 : decode cX11_write 18 = .ok (.iload_n 1, 1) := by decide +kernel
theorem dX11_write_19 : decode cX11_write 19 = .ok (.iadd, 1) := by decide +kernel
theorem dX11_write_20 : decode cX11_write 20 = .ok (.bipush 120, 2) := by decide +kernel
theorem dX11_write_22 : decode cX11_write 22 = .ok (.if_icmp .le 6, 3) := by decide +kernel
theorem dX11_write_25 : decode cX11_write 25 = .ok (.bipush (-3), 2) := by decide +kernel
theorem dX11_write_27 : decode cX11_write 27 = .ok (.ireturn, 1) := by decide +kernel
theorem dX11_write_28 : decode cX11_write 28 = .ok (.iload_n 1, 1) := by decide +kernel
theorem dX11_write_29 : decode cX11_write 29 = .ok (.iconst 1, 1) := by decide +kernel
theorem dX11_write_30 : decode cX11_write 30 = .ok (.isub, 1) := by decide +kernel
theorem dX11_write_31 : decode cX11_write 31 = .ok (.istore 4, 2) := by decide +kernel
theorem dX11_write_33 : decode cX11_write 33 = .ok (.iload 4, 2) := by decide +kernel
theorem dX11_write_35 : decode cX11_write 35 = .ok (.ifCond .lt 37, 3) := by decide +kernel
theorem dX11_write_38 : decode cX11_write 38 = .ok (.aload_n 0, 1) := by decide +kernel
theorem dX11_write_39 : decode cX11_write 39 = .ok (.getfield 7, 3) := by decide +kernel
theorem dX11_write_42 : decode cX11_write 42 = .ok (.aload_n 0, 1) := by decide +kernel
theorem dX11_write_43 : decode cX11_write 43 = .ok (.getfield 62, 3) := by decide +kernel
theorem dX11_write_46 : decode cX11_write 46 = .ok (.lload_n 2, 1) := by decide +kernel
theorem dX11_write_47 : decode cX11_write 47 = .ok (.bipush 8, 2) := by decide +kernel
theorem dX11_write_49 : decode cX11_write 49 = .ok (.iload 4, 2) := by decide +kernel
theorem dX11_write_51 : decode cX11_write 51 = .ok (.imul, 1) := by decide +kernel
theorem dX11_write_52 : decode cX11_write 52 = .ok (.lshr, 1) := by decide +kernel
theorem dX11_write_53 : decode cX11_write 53 = .ok (.l2i, 1) := by decide +kernel
theorem dX11_write_54 : decode cX11_write 54 = .ok (.i2b, 1) := by decide +kernel
theorem dX11_write_55 : decode cX11_write 55 = .ok (.bastore, 1) := by decide +kernel
theorem dX11_write_56 : decode cX11_write 56 = .ok (.aload_n 0, 1) := by decide +kernel
theorem dX11_write_57 : decode cX11_write 57 = .ok (.dup, 1) := by decide +kernel
theorem dX11_write_58 : decode cX11_write 58 = .ok (.getfield 62, 3) := by decide +kernel
theorem dX11_write_61 : decode cX11_write 61 = .ok (.iconst 1, 1) := by decide +kernel
theorem dX11_write_62 : decode cX11_write 62 = .ok (.iadd, 1) := by decide +kernel
theorem dX11_write_63 : decode cX11_write 63 = .ok (.putfield 62, 3) := by decide +kernel
theorem dX11_write_66 : decode cX11_write 66 = .ok (.iinc 4 (-1), 3) := by decide +kernel
theorem dX11_write_69 : decode cX11_write 69 = .ok (.goto (-36), 3) := by decide +kernel
theorem dX11_write_72 : decode cX11_write 72 = .ok (.aload_n 0, 1) := by decide +kernel
theorem dX11_write_73 : decode cX11_write 73 = .ok (.getfield 62, 3) := by decide +kernel
theorem dX11_write_76 : decode cX11_write 76 = .ok (.ireturn, 1) := by decide +kernel
theorem dX11_wipe_0 : decode cX11_wipe 0 = .ok (.aload_n 0, 1) := by decide +kernel
theorem dX11_wipe_1 : decode cX11_wipe 1 = .ok (.getfield 62, 3) := by decide +kernel
theorem dX11_wipe_4 : decode cX11_wipe 4 = .ok (.istore_n 1, 1) := by decide +kernel
theorem dX11_wipe_5 : decode cX11_wipe 5 = .ok (.aload_n 0, 1) := by decide +kernel
theorem dX11_wipe_6 : decode cX11_wipe 6 = .ok (.iconst 0, 1) := by decide +kernel
theorem dX11_wipe_7 : decode cX11_wipe 7 = .ok (.putfield 62, 3) := by decide +kernel
theorem dX11_wipe_10 : decode cX11_wipe 10 = .ok (.iload_n 1, 1) := by decide +kernel
theorem dX11_wipe_11 : decode cX11_wipe 11 = .ok (.ireturn, 1) := by decide +kernel
theorem dX11_is_0 : decode cX11_is 0 = .ok (.aload_n 0, 1) := by decide +kernel
theorem dX11_is_1 : decode cX11_is 1 = .ok (.getfield 65, 3) := by decide +kernel
theorem dX11_is_4 : decode cX11_is 4 = .ok (.aload_n 0, 1) := by decide +kernel
theorem dX11_is_5 : decode cX11_is 5 = .ok (.getfield 62, 3) := by decide +kernel
theorem dX11_is_8 : decode cX11_is 8 = .ok (.if_icmp .ge 20, 3) := by decide +kernel
theorem dX11_is_11 : decode cX11_is 11 = .ok (.aload_n 0, 1) := by decide +kernel
theorem dX11_is_12 : decode cX11_is 12 = .ok (.getfield 7, 3) := by decide +kernel
theorem dX11_is_15 : decode cX11_is 15 = .ok (.aload_n 0, 1) := by decide +kernel
theorem dX11_is_16 : decode cX11_is 16 = .ok (.getfield 65, 3) := by decide +kernel
theorem dX11_is_19 : decode cX11_is 19 = .ok (.baload, 1) := by decide +kernel
theorem dX11_is_20 : decode cX11_is 20 = .ok (.iload_n 1, 1) := by decide +kernel
theorem dX11_is_21 : decode cX11_is 21 = .ok (.if_icmp .ne 7, 3) := by decide +kernel
theorem dX11_is_24 : decode cX11_is 24 = .ok (.iconst 1, 1) := by decide +kernel
theorem dX11_is_25 : decode cX11_is 25 = .ok (.goto 4, 3) := by decide +kernel
theorem dX11_is_28 : decode cX11_is 28 = .ok (.iconst 0, 1) := by decide +kernel
theorem dX11_is_29 : decode cX11_is 29 = .ok (.ireturn, 1) := by decide +kernel
set_option maxRecDepth 20000 in
theorem ggX11_oneOrTwo_X11_in : GoodIn wsX11_oneOrTwo wsX11_in := goodIn_r _ [10] (by decide +kernel) (by decide +kernel)
set_option maxRecDepth 20000 in
theorem gX11_oneOrTwo_X11_in : GoodIn wsX11_oneOrTwo (va_wsS RX11 58 yX11_in wsX11_in) := goodIn_app (goodIn_of _ (by decide +kernel)) ggX11_oneOrTwo_X11_in
theorem dX11_oneOrTwo_0 : decode cX11_oneOrTwo 0 = .ok (.iconst 0, 1) := by decide +kernel
theorem dX11_oneOrTwo_1 : decode cX11_oneOrTwo 1 = .ok (.istore_n 1, 1) := by decide +kernel
theorem dX11_oneOrTwo_2 : decode cX11_oneOrTwo 2 = .ok (.iconst 0, 1) := by decide +kernel
theorem dX11_oneOrTwo_3 : decode cX11_oneOrTwo 3 = .ok (.istore_n 2, 1) := by decide +kernel
theorem dX11_oneOrTwo_4 : decode cX11_oneOrTwo 4 = .ok (.aload_n 0, 1) := by decide +kernel
theorem dX11_oneOrTwo_5 : decode cX11_oneOrTwo 5 = .ok (.getfield 65, 3) := by decide +kernel
theorem dX11_oneOrTwo_8 : decode cX11_oneOrTwo 8 = .ok (.aload_n 0, 1) := by decide +kernel
theorem dX11_oneOrTwo_9 : decode cX11_oneOrTwo 9 = .ok (.getfield 62, 3) := by decide +kernel
theorem dX11_oneOrTwo_12 : decode cX11_oneOrTwo 12 = .ok (.if_icmp .ge 68, 3) := by decide +kernel
theorem dX11_oneOrTwo_15 : decode cX11_oneOrTwo 15 = .ok (.aload_n 0, 1) := by decide +kernel
theorem dX11_oneOrTwo_16 : decode cX11_oneOrTwo 16 = .ok (.getfield 7, 3) := by decide +kernel
theorem dX11_oneOrTwo_19 : decode cX11_oneOrTwo 19 = .ok (.aload_n 0, 1) := by decide +kernel
theorem dX11_oneOrTwo_20 : decode cX11_oneOrTwo 20 = .ok (.getfield 65, 3) := by decide +kernel
theorem dX11_oneOrTwo_23 : decode cX11_oneOrTwo 23 = .ok (.baload, 1) := by decide +kernel
theorem dX11_oneOrTwo_24 : decode cX11_oneOrTwo 24 = .ok (.i2l, 1) := by decide +kernel
theorem dX11_oneOrTwo_25 : decode cX11_oneOrTwo 25 = .ok (.ldc2_w 68, 3) := by decide +kernel
theorem dX11_oneOrTwo_28 : decode cX11_oneOrTwo 28 = .ok (.ldc2_w 70, 3) := by decide +kernel
theorem dX11_oneOrTwo_31 : decode cX11_oneOrTwo 31 = .ok (.invokestatic 58, 3) := by decide +kernel
theorem dX11_oneOrTwo_34 : decode cX11_oneOrTwo 34 = .ok (.ifCond .eq 46, 3) := by decide +kernel
theorem dX11_oneOrTwo_37 : decode cX11_oneOrTwo 37 = .ok (.iload_n 2, 1) := by decide +kernel
theorem dX11_oneOrTwo_38 : decode cX11_oneOrTwo 38 = .ok (.iconst 2, 1) := by decide +kernel
theorem dX11_oneOrTwo_39 : decode cX11_oneOrTwo 39 = .ok (.if_icmp .ge 23, 3) := by decide +kernel
theorem dX11_oneOrTwo_42 : decode cX11_oneOrTwo 42 = .ok (.bipush 10, 2) := by decide +kernel
theorem dX11_oneOrTwo_44 : decode cX11_oneOrTwo 44 = .ok (.iload_n 1, 1) := by decide +kernel
theorem dX11_oneOrTwo_45 : decode cX11_oneOrTwo 45 = .ok (.imul, 1) := by decide +kernel
theorem dX11_oneOrTwo_46 : decode cX11_oneOrTwo 46 = .ok (.aload_n 0, 1) := by decide +kernel
theorem dX11_oneOrTwo_47 : decode cX11_oneOrTwo 47 = .ok (.getfield 7, 3) := by decide +kernel
theorem dX11_oneOrTwo_50 : decode cX11_oneOrTwo 50 = .ok (.aload_n 0, 1) := by decide +kernel
theorem dX11_oneOrTwo_51 : decode cX11_oneOrTwo 51 = .ok (.getfield 65, 3) := by decide +kernel
theorem dX11_oneOrTwo_54 : decode cX11_oneOrTwo 54 = .ok (.baload, 1) := by decide +kernel
theorem dX11_oneOrTwo_55 : decode cX11_oneOrTwo 55 = .ok (.iadd, 1) := by decide +kernel
theorem dX11_oneOrTwo_56 : decode cX11_oneOrTwo 56 = .ok (.bipush 48, 2) := by decide +kernel
theorem dX11_oneOrTwo_58 : decode cX11_oneOrTwo 58 = .ok (.isub, 1) := by decide +kernel
theorem dX11_oneOrTwo_59 : decode cX11_oneOrTwo 59 = .ok (.goto 4, 3) := by decide +kernel
theorem dX11_oneOrTwo_62 : decode cX11_oneOrTwo 62 = .ok (.iload_n 1, 1) := by decide +kernel
theorem dX11_oneOrTwo_63 : decode cX11_oneOrTwo 63 = .ok (.istore_n 1, 1) := by decide +kernel
theorem dX11_oneOrTwo_64 : decode cX11_oneOrTwo 64 = .ok (.iinc 2 1, 3) := by decide +kernel
theorem dX11_oneOrTwo_67 : decode cX11_oneOrTwo 67 = .ok (.aload_n 0, 1) := by decide +kernel
theorem dX11_oneOrTwo_68 : decode cX11_oneOrTwo 68 = .ok (.dup, 1) := by decide +kernel
theorem dX11_oneOrTwo_69 : decode cX11_oneOrTwo 69 = .ok (.getfield 65, 3) := by decide +kernel
theorem dX11_oneOrTwo_72 : decode cX11_oneOrTwo 72 = .ok (.iconst 1, 1) := by decide +kernel
theorem dX11_oneOrTwo_73 : decode cX11_oneOrTwo 73 = .ok (.iadd, 1) := by decide +kernel
theorem dX11_oneOrTwo_74 : decode cX11_oneOrTwo 74 = .ok (.putfield 65, 3) := by decide +kernel
theorem dX11_oneOrTwo_77 : decode cX11_oneOrTwo 77 = .ok (.goto (-73), 3) := by decide +kernel
theorem dX11_oneOrTwo_80 : decode cX11_oneOrTwo 80 = .ok (.iload_n 2, 1) := by decide +kernel
theorem dX11_oneOrTwo_81 : decode cX11_oneOrTwo 81 = .ok (.i2l, 1) := by decide +kernel
theorem dX11_oneOrTwo_82 : decode cX11_oneOrTwo 82 = .ok (.lconst 1, 1) := by decide +kernel
theorem dX11_oneOrTwo_83 : decode cX11_oneOrTwo 83 = .ok (.ldc2_w 72, 3) := by decide +kernel
theorem dX11_oneOrTwo_86 : decode cX11_oneOrTwo 86 = .ok (.invokestatic 58, 3) := by decide +kernel
theorem dX11_oneOrTwo_89 : decode cX11_oneOrTwo 89 = .ok (.ifCond .eq 7, 3) := by decide +kernel
theorem dX11_oneOrTwo_92 : decode cX11_oneOrTwo 92 = .ok (.iload_n 1, 1) := by decide +kernel
theorem dX11_oneOrTwo_93 : decode cX11_oneOrTwo 93 = .ok (.goto 4, 3) := by decide +kernel
theorem dX11_oneOrTwo_96 : decode cX11_oneOrTwo 96 = .ok (.iconst (-1), 1) := by decide +kernel
theorem dX11_oneOrTwo_97 : decode cX11_oneOrTwo 97 = .ok (.ireturn, 1) := by decide +kernel
set_option maxRecDepth 20000 in
theorem ggX11_isItem_X11_is : GoodIn wsX11_isItem wsX11_is := goodIn_r _ [10, 1, 11, 12, 23, 24, 25, 26, 27, 28, 29, 30, 31, 32, 33, 34, 35, 36, 37, 38, 39, 40, 41, 42, 43] (by decide +kernel) (by decide +kernel)
set_option maxRecDepth 20000 in
theorem gX11_isItem_X11_is : GoodIn wsX11_isItem (wsV RX11 74 RX11 yX11_is wsX11_is) := goodIn_app (goodIn_of _ (by decide +kernel)) ggX11_isItem_X11_is
set_option maxRecDepth 20000 in
theorem ggX11_isItem_X11_oneOrTwo : GoodIn wsX11_isItem wsX11_oneOrTwo := goodIn_r _ [16, 1, 11, 12, 17, 18, 19, 20, 21, 9, 22, 23, 24, 25, 26, 27, 28, 29, 30, 31, 32, 33, 34, 35, 36, 37, 38, 39, 40, 41, 42, 43] (by decide +kernel) (by decide +kernel)
set_option maxRecDepth 20000 in
theorem gX11_isItem_X11_oneOrTwo : GoodIn wsX11_isItem (wsV RX11 78 RX11 yX11_oneOrTwo wsX11_oneOrTwo) := goodIn_app (goodIn_of _ (by decide +kernel)) ggX11_isItem_X11_oneOrTwo
set_option maxRecDepth 20000 in
theorem ggX11_isItem_X11_in : GoodIn wsX11_isItem wsX11_in := goodIn_r _ [22] (by decide +kernel) (by decide +kernel)
set_option maxRecDepth 20000 in
theorem gX11_isItem_X11_in : GoodIn wsX11_isItem (va_wsS RX11 58 yX11_in wsX11_in) := goodIn_app (goodIn_of _ (by decide +kernel)) ggX11_isItem_X11_in
theorem dX11_isItem_0 : decode cX11_isItem 0 = .ok (.aload_n 0, 1) := by decide +kernel
theorem dX11_isItem_1 : decode cX11_isItem 1 = .ok (.bipush 114, 2) := by decide +kernel
theorem dX11_isItem_3 : decode cX11_isItem 3 = .ok (.invokevirtual 74, 3) := by decide +kernel
theorem dX11_isItem_6 : decode cX11_isItem 6 = .ok (.ifCond .ne 5, 3) := by decide +kernel
theorem dX11_isItem_9 : decode cX11_isItem 9 = .ok (.iconst 0, 1) := by decide +kernel
theorem dX11_isItem_10 : decode cX11_isItem 10 = .ok (.ireturn, 1) := by decide +kernel
theorem dX11_isItem_11 : decode cX11_isItem 11 = .ok (.aload_n 0, 1) := by decide +kernel
theorem dX11_isItem_12 : decode cX11_isItem 12 = .ok (.dup, 1) := by decide +kernel
theorem dX11_isItem_13 : decode cX11_isItem 13 = .ok (.getfield 65, 3) := by decide +kernel
theorem dX11_isItem_16 : decode cX11_isItem 16 = .ok (.iconst 1, 1) := by decide +kernel
theorem dX11_isItem_17 : decode cX11_isItem 17 = .ok (.iadd, 1) := by decide +kernel
theorem dX11_isItem_18 : decode cX11_isItem 18 = .ok (.putfield 65, 3) := by decide +kernel
theorem dX11_isItem_21 : decode cX11_isItem 21 = .ok (.aload_n 0, 1) := by decide +kernel
theorem dX11_isItem_22 : decode cX11_isItem 22 = .ok (.invokevirtual 78, 3) := by decide +kernel
theorem dX11_isItem_25 : decode cX11_isItem 25 = .ok (.istore_n 1, 1) := by decide +kernel
theorem dX11_isItem_26 : decode cX11_isItem 26 = .ok (.iload_n 1, 1) := by decide +kernel
theorem dX11_isItem_27 : decode cX11_isItem 27 = .ok (.i2l, 1) := by decide +kernel
theorem dX11_isItem_28 : decode cX11_isItem 28 = .ok (.lconst 0, 1) := by decide +kernel
theorem dX11_isItem_29 : decode cX11_isItem 29 = .ok (.ldc2_w 82, 3) := by decide +kernel
theorem dX11_isItem_32 : decode cX11_isItem 32 = .ok (.invokestatic 58, 3) := by decide +kernel
theorem dX11_isItem_35 : decode cX11_isItem 35 = .ok (.ifCond .eq 12, 3) := by decide +kernel
theorem dX11_isItem_38 : decode cX11_isItem 38 = .ok (.aload_n 0, 1) := by decide +kernel
theorem dX11_isItem_39 : decode cX11_isItem 39 = .ok (.bipush 44, 2) := by decide +kernel
theorem dX11_isItem_41 : decode cX11_isItem 41 = .ok (.invokevirtual 74, 3) := by decide +kernel
theorem dX11_isItem_44 : decode cX11_isItem 44 = .ok (.ifCond .ne 5, 3) := by decide +kernel
theorem dX11_isItem_47 : decode cX11_isItem 47 = .ok (.iconst 0, 1) := by decide +kernel
theorem dX11_isItem_48 : decode cX11_isItem 48 = .ok (.ireturn, 1) := by decide +kernel
theorem dX11_isItem_49 : decode cX11_isItem 49 = .ok (.aload_n 0, 1) := by decide +kernel
theorem dX11_isItem_50 : decode cX11_isItem 50 = .ok (.dup, 1) := by decide +kernel
theorem dX11_isItem_51 : decode cX11_isItem 51 = .ok (.getfield 65, 3) := by decide +kernel
theorem dX11_isItem_54 : decode cX11_isItem 54 = .ok (.iconst 1, 1) := by decide +kernel
theorem dX11_isItem_55 : decode cX11_isItem 55 = .ok (.iadd, 1) := by decide +kernel
theorem dX11_isItem_56 : decode cX11_isItem 56 = .ok (.putfield 65, 3) := by decide +kernel
theorem dX11_isItem_59 : decode cX11_isItem 59 = .ok (.aload_n 0, 1) := by decide +kernel
theorem dX11_isItem_60 : decode cX11_isItem 60 = .ok (.invokevirtual 78, 3) := by decide +kernel
theorem dX11_isItem_63 : decode cX11_isItem 63 = .ok (.istore_n 2, 1) := by decide +kernel
theorem dX11_isItem_64 : decode cX11_isItem 64 = .ok (.iload_n 2, 1) := by decide +kernel
theorem dX11_isItem_65 : decode cX11_isItem 65 = .ok (.i2l, 1) := by decide +kernel
theorem dX11_isItem_66 : decode cX11_isItem 66 = .ok (.lconst 0, 1) := by decide +kernel
theorem dX11_isItem_67 : decode cX11_isItem 67 = .ok (.ldc2_w 84, 3) := by decide +kernel
theorem dX11_isItem_70 : decode cX11_isItem 70 = .ok (.invokestatic 58, 3) := by decide +kernel
theorem dX11_isItem_73 : decode cX11_isItem 73 = .ok (.ifCond .ne 5, 3) := by decide +kernel
theorem dX11_isItem_76 : decode cX11_isItem 76 = .ok (.iconst 0, 1) := by decide +kernel
theorem dX11_isItem_77 : decode cX11_isItem 77 = .ok (.ireturn, 1) := by decide +kernel
theorem dX11_isItem_78 : decode cX11_isItem 78 = .ok (.iload_n 2, 1) := by decide +kernel
theorem dX11_isItem_79 : decode cX11_isItem 79 = .ok (.iconst 2, 1) := by decide +kernel
theorem dX11_isItem_80 : decode cX11_isItem 80 = .ok (.if_icmp .eq 8, 3) := by decide +kernel
theorem dX11_isItem_83 : decode cX11_isItem 83 = .ok (.iload_n 2, 1) := by decide +kernel
theorem dX11_isItem_84 : decode cX11_isItem 84 = .ok (.iconst 4, 1) := by decide +kernel
theorem dX11_isItem_85 : decode cX11_isItem 85 = .ok (.if_icmp .le 7, 3) := by decide +kernel
theorem dX11_isItem_88 : decode cX11_isItem 88 = .ok (.iconst 0, 1) := by decide +kernel
theorem dX11_isItem_89 : decode cX11_isItem 89 = .ok (.goto 4, 3) := by decide +kernel
theorem dX11_isItem_92 : decode cX11_isItem 92 = .ok (.iconst 1, 1) := by decide +kernel
theorem dX11_isItem_93 : decode cX11_isItem 93 = .ok (.istore_n 3, 1) := by decide +kernel
theorem dX11_isItem_94 : decode cX11_isItem 94 = .ok (.iload_n 2, 1) := by decide +kernel
theorem dX11_isItem_95 : decode cX11_isItem 95 = .ok (.iconst 2, 1) := by decide +kernel
theorem dX11_isItem_96 : decode cX11_isItem 96 = .ok (.if_icmp .eq 9, 3) := by decide +kernel
theorem dX11_isItem_99 : decode cX11_isItem 99 = .ok (.iload_n 2, 1) := by decide +kernel
theorem dX11_isItem_100 : decode cX11_isItem 100 = .ok (.bipush 6, 2) := by decide +kernel
theorem dX11_isItem_102 : decode cX11_isItem 102 = .ok (.if_icmp .ne 8, 3) := by decide +kernel
theorem dX11_isItem_105 : decode cX11_isItem 105 = .ok (.bipush 99, 2) := by decide +kernel
theorem dX11_isItem_107 : decode cX11_isItem 107 = .ok (.goto 15, 3) := by decide +kernel
theorem dX11_isItem_110 : decode cX11_isItem 110 = .ok (.iload_n 2, 1) := by decide +kernel
theorem dX11_isItem_111 : decode cX11_isItem 111 = .ok (.iconst 4, 1) := by decide +kernel
theorem dX11_isItem_112 : decode cX11_isItem 112 = .ok (.if_icmp .ne 8, 3) := by decide +kernel
theorem dX11_isItem_115 : decode cX11_isItem 115 = .ok (.bipush 20, 2) := by decide +kernel
theorem dX11_isItem_117 : decode cX11_isItem 117 = .ok (.goto 5, 3) := by decide +kernel
theorem dX11_isItem_120 : decode cX11_isItem 120 = .ok (.bipush 9, 2) := by decide +kernel
theorem dX11_isItem_122 : decode cX11_isItem 122 = .ok (.istore 4, 2) := by decide +kernel
theorem dX11_isItem_124 : decode cX11_isItem 124 = .ok (.iconst 0, 1) := by decide +kernel
theorem dX11_isItem_125 : decode cX11_isItem 125 = .ok (.istore 5, 2) := by decide +kernel
theorem dX11_isItem_127 : decode cX11_isItem 127 = .ok (.aload_n 0, 1) := by decide +kernel
theorem dX11_isItem_128 : decode cX11_isItem 128 = .ok (.bipush 44, 2) := by decide +kernel
theorem dX11_isItem_130 : decode cX11_isItem 130 = .ok (.invokevirtual 74, 3) := by decide +kernel
theorem dX11_isItem_133 : decode cX11_isItem 133 = .ok (.ifCond .eq 64, 3) := by decide +kernel
theorem dX11_isItem_136 : decode cX11_isItem 136 = .ok (.aload_n 0, 1) := by decide +kernel
theorem dX11_isItem_137 : decode cX11_isItem 137 = .ok (.dup, 1) := by decide +kernel
theorem dX11_isItem_138 : decode cX11_isItem 138 = .ok (.getfield 65, 3) := by decide +kernel
theorem dX11_isItem_141 : decode cX11_isItem 141 = .ok (.iconst 1, 1) := by decide +kernel
theorem dX11_isItem_142 : decode cX11_isItem 142 = .ok (.iadd, 1) := by decide +kernel
theorem dX11_isItem_143 : decode cX11_isItem 143 = .ok (.putfield 65, 3) := by decide +kernel
theorem dX11_isItem_146 : decode cX11_isItem 146 = .ok (.aload_n 0, 1) := by decide +kernel
theorem dX11_isItem_147 : decode cX11_isItem 147 = .ok (.invokevirtual 78, 3) := by decide +kernel
theorem dX11_isItem_150 : decode cX11_isItem 150 = .ok (.istore 6, 2) := by decide +kernel
theorem dX11_isItem_152 : decode cX11_isItem 152 = .ok (.iload 5, 2) := by decide +kernel
theorem dX11_isItem_154 : decode cX11_isItem 154 = .ok (.bipush 6, 2) := by decide +kernel
theorem dX11_isItem_156 : decode cX11_isItem 156 = .ok (.if_icmp .eq 17, 3) := by decide +kernel
theorem dX11_isItem_159 : decode cX11_isItem 159 = .ok (.iload 6, 2) := by decide +kernel
theorem dX11_isItem_161 : decode cX11_isItem 161 = .ok (.i2l, 1) := by decide +kernel
theorem dX11_isItem_162 : decode cX11_isItem 162 = .ok (.iload_n 3, 1) := by decide +kernel
theorem dX11_isItem_163 : decode cX11_isItem 163 = .ok (.i2l, 1) := by decide +kernel
theorem dX11_isItem_164 : decode cX11_isItem 164 = .ok (.iload 4, 2) := by decide +kernel
theorem dX11_isItem_166 : decode cX11_isItem 166 = .ok (.i2l, 1) := by decide +kernel
theorem dX11_isItem_167 : decode cX11_isItem 167 = .ok (.invokestatic 58, 3) := by decide +kernel
theorem dX11_isItem_170 : decode cX11_isItem 170 = .ok (.ifCond .ne 5, 3) := by decide +kernel
theorem dX11_isItem_173 : decode cX11_isItem 173 = .ok (.iconst 0, 1) := by decide +kernel
theorem dX11_isItem_174 : decode cX11_isItem 174 = .ok (.ireturn, 1) := by decide +kernel
theorem dX11_isItem_175 : decode cX11_isItem 175 = .ok (.aload_n 0, 1) := by decide +kernel
theorem dX11_isItem_176 : decode cX11_isItem 176 = .ok (.getfield 17, 3) := by decide +kernel
theorem dX11_isItem_179 : decode cX11_isItem 179 = .ok (.bipush 8, 2) := by decide +kernel
theorem dX11_isItem_181 : decode cX11_isItem 181 = .ok (.iload_n 1, 1) := by decide +kernel
theorem dX11_isItem_182 : decode cX11_isItem 182 = .ok (.imul, 1) := by decide +kernel
theorem dX11_isItem_183 : decode cX11_isItem 183 = .ok (.iconst 2, 1) := by decide +kernel
theorem dX11_isItem_184 : decode cX11_isItem 184 = .ok (.iadd, 1) := by decide +kernel
theorem dX11_isItem_185 : decode cX11_isItem 185 = .ok (.iload 5, 2) := by decide +kernel
theorem dX11_isItem_187 : decode cX11_isItem 187 = .ok (.iadd, 1) := by decide +kernel
theorem dX11_isItem_188 : decode cX11_isItem 188 = .ok (.iload 6, 2) := by decide +kernel
theorem dX11_isItem_190 : decode cX11_isItem 190 = .ok (.iastore, 1) := by decide +kernel
theorem dX11_isItem_191 : decode cX11_isItem 191 = .ok (.iinc 5 1, 3) := by decide +kernel
theorem dX11_isItem_194 : decode cX11_isItem 194 = .ok (.goto (-67), 3) := by decide +kernel
theorem dX11_isItem_197 : decode cX11_isItem 197 = .ok (.iload_n 2, 1) := by decide +kernel
theorem dX11_isItem_198 : decode cX11_isItem 198 = .ok (.iconst 2, 1) := by decide +kernel
theorem dX11_isItem_199 : decode cX11_isItem 199 = .ok (.if_icmp .ge 17, 3) := by decide +kernel
theorem dX11_isItem_202 : decode cX11_isItem 202 = .ok (.iload 5, 2) := by decide +kernel
theorem dX11_isItem_204 : decode cX11_isItem 204 = .ok (.iconst 1, 1) := by decide +kernel
theorem dX11_isItem_205 : decode cX11_isItem 205 = .ok (.if_icmp .le 7, 3) := by decide +kernel
theorem dX11_isItem_208 : decode cX11_isItem 208 = .ok (.iconst 1, 1) := by decide +kernel
theorem dX11_isItem_209 : decode cX11_isItem 209 = .ok (.goto 67, 3) := by decide +kernel
theorem dX11_isItem_212 : decode cX11_isItem 212 = .ok (.iconst 0, 1) := by decide +kernel
theorem dX11_isItem_213 : decode cX11_isItem 213 = .ok (.goto 63, 3) := by decide +kernel
theorem dX11_isItem_216 : decode cX11_isItem 216 = .ok (.iload_n 2, 1) := by decide +kernel
theorem dX11_isItem_217 : decode cX11_isItem 217 = .ok (.iconst 4, 1) := by decide +kernel
theorem dX11_isItem_218 : decode cX11_isItem 218 = .ok (.if_icmp .ne 42, 3) := by decide +kernel
theorem dX11_isItem_221 : decode cX11_isItem 221 = .ok (.iload 5, 2) := by decide +kernel
theorem dX11_isItem_223 : decode cX11_isItem 223 = .ok (.iconst 2, 1) := by decide +kernel
theorem dX11_isItem_224 : decode cX11_isItem 224 = .ok (.if_icmp .ne 32, 3) := by decide +kernel
theorem dX11_isItem_227 : decode cX11_isItem 227 = .ok (.aload_n 0, 1) := by decide +kernel
theorem dX11_isItem_228 : decode cX11_isItem 228 = .ok (.getfield 17, 3) := by decide +kernel
theorem dX11_isItem_231 : decode cX11_isItem 231 = .ok (.bipush 8, 2) := by decide +kernel
theorem dX11_isItem_233 : decode cX11_isItem 233 = .ok (.iload_n 1, 1) := by decide +kernel
theorem dX11_isItem_234 : decode cX11_isItem 234 = .ok (.imul, 1) := by decide +kernel
theorem dX11_isItem_235 : decode cX11_isItem 235 = .ok (.iconst 3, 1) := by decide +kernel
theorem dX11_isItem_236 : decode cX11_isItem 236 = .ok (.iadd, 1) := by decide +kernel
theorem dX11_isItem_237 : decode cX11_isItem 237 = .ok (.iaload, 1) := by decide +kernel
theorem dX11_isItem_238 : decode cX11_isItem 238 = .ok (.aload_n 0, 1) := by decide +kernel
theorem dX11_isItem_239 : decode cX11_isItem 239 = .ok (.getfield 17, 3) := by decide +kernel
theorem dX11_isItem_242 : decode cX11_isItem 242 = .ok (.bipush 8, 2) := by decide +kernel
theorem dX11_isItem_244 : decode cX11_isItem 244 = .ok (.iload_n 1, 1) := by decide +kernel
theorem dX11_isItem_245 : decode cX11_isItem 245 = .ok (.imul, 1) := by decide +kernel
theorem dX11_isItem_246 : decode cX11_isItem 246 = .ok (.iconst 2, 1) := by decide +kernel
theorem dX11_isItem_247 : decode cX11_isItem 247 = .ok (.iadd, 1) := by decide +kernel
theorem dX11_isItem_248 : decode cX11_isItem 248 = .ok (.iaload, 1) := by decide +kernel
theorem dX11_isItem_249 : decode cX11_isItem 249 = .ok (.if_icmp .le 7, 3) := by decide +kernel
theorem dX11_isItem_252 : decode cX11_isItem 252 = .ok (.iconst 1, 1) := by decide +kernel
theorem dX11_isItem_253 : decode cX11_isItem 253 = .ok (.goto 23, 3) := by decide +kernel
theorem dX11_isItem_256 : decode cX11_isItem 256 = .ok (.iconst 0, 1) := by decide +kernel
theorem dX11_isItem_257 : decode cX11_isItem 257 = .ok (.goto 19, 3) := by decide +kernel
theorem dX11_isItem_260 : decode cX11_isItem 260 = .ok (.iload_n 2, 1) := by decide +kernel
theorem dX11_isItem_261 : decode cX11_isItem 261 = .ok (.bipush 6, 2) := by decide +kernel
theorem dX11_isItem_263 : decode cX11_isItem 263 = .ok (.if_icmp .eq 8, 3) := by decide +kernel
theorem dX11_isItem_266 : decode cX11_isItem 266 = .ok (.iload 5, 2) := by decide +kernel
theorem dX11_isItem_268 : decode cX11_isItem 268 = .ok (.ifCond .le 7, 3) := by decide +kernel
theorem dX11_isItem_271 : decode cX11_isItem 271 = .ok (.iconst 1, 1) := by decide +kernel
theorem dX11_isItem_272 : decode cX11_isItem 272 = .ok (.goto 4, 3) := by decide +kernel
theorem dX11_isItem_275 : decode cX11_isItem 275 = .ok (.iconst 0, 1) := by decide +kernel
theorem dX11_isItem_276 : decode cX11_isItem 276 = .ok (.istore 6, 2) := by decide +kernel
theorem dX11_isItem_278 : decode cX11_isItem 278 = .ok (.iload 6, 2) := by decide +kernel
theorem dX11_isItem_280 : decode cX11_isItem 280 = .ok (.ifCond .eq 12, 3) := by decide +kernel
theorem dX11_isItem_283 : decode cX11_isItem 283 = .ok (.aload_n 0, 1) := by decide +kernel
theorem dX11_isItem_284 : decode cX11_isItem 284 = .ok (.bipush 59, 2) := by decide +kernel
theorem dX11_isItem_286 : decode cX11_isItem 286 = .ok (.invokevirtual 74, 3) := by decide +kernel
theorem dX11_isItem_289 : decode cX11_isItem 289 = .ok (.ifCond .ne 5, 3) := by decide +kernel
theorem dX11_isItem_292 : decode cX11_isItem 292 = .ok (.iconst 0, 1) := by decide +kernel
theorem dX11_isItem_293 : decode cX11_isItem 293 = .ok (.ireturn, 1) := by decide +kernel
theorem dX11_isItem_294 : decode cX11_isItem 294 = .ok (.aload_n 0, 1) := by decide +kernel
theorem dX11_isItem_295 : decode cX11_isItem 295 = .ok (.dup, 1) := by decide +kernel
theorem dX11_isItem_296 : decode cX11_isItem 296 = .ok (.getfield 65, 3) := by decide +kernel
theorem dX11_isItem_299 : decode cX11_isItem 299 = .ok (.iconst 1, 1) := by decide +kernel
theorem dX11_isItem_300 : decode cX11_isItem 300 = .ok (.iadd, 1) := by decide +kernel
theorem dX11_isItem_301 : decode cX11_isItem 301 = .ok (.putfield 65, 3) := by decide +kernel
theorem dX11_isItem_304 : decode cX11_isItem 304 = .ok (.aload_n 0, 1) := by decide +kernel
theorem dX11_isItem_305 : decode cX11_isItem 305 = .ok (.getfield 17, 3) := by decide +kernel
theorem dX11_isItem_308 : decode cX11_isItem 308 = .ok (.bipush 8, 2) := by decide +kernel
theorem dX11_isItem_310 : decode cX11_isItem 310 = .ok (.iload_n 1, 1) := by decide +kernel
theorem dX11_isItem_311 : decode cX11_isItem 311 = .ok (.imul, 1) := by decide +kernel
theorem dX11_isItem_312 : decode cX11_isItem 312 = .ok (.iload_n 2, 1) := by decide +kernel
theorem dX11_isItem_313 : decode cX11_isItem 313 = .ok (.iastore, 1) := by decide +kernel
theorem dX11_isItem_314 : decode cX11_isItem 314 = .ok (.aload_n 0, 1) := by decide +kernel
theorem dX11_isItem_315 : decode cX11_isItem 315 = .ok (.getfield 17, 3) := by decide +kernel
theorem dX11_isItem_318 : decode cX11_isItem 318 = .ok (.bipush 8, 2) := by decide +kernel
theorem dX11_isItem_320 : decode cX11_isItem 320 = .ok (.iload_n 1, 1) := by decide +kernel
theorem dX11_isItem_321 : decode cX11_isItem 321 = .ok (.imul, 1) := by decide +kernel
theorem dX11_isItem_322 : decode cX11_isItem 322 = .ok (.iconst 1, 1) := by decide +kernel
theorem dX11_isItem_323 : decode cX11_isItem 323 = .ok (.iadd, 1) := by decide +kernel
theorem dX11_isItem_324 : decode cX11_isItem 324 = .ok (.iload 5, 2) := by decide +kernel
theorem dX11_isItem_326 : decode cX11_isItem 326 = .ok (.iastore, 1) := by decide +kernel
theorem dX11_isItem_327 : decode cX11_isItem 327 = .ok (.aload_n 0, 1) := by decide +kernel
theorem dX11_isItem_328 : decode cX11_isItem 328 = .ok (.dup, 1) := by decide +kernel
theorem dX11_isItem_329 : decode cX11_isItem 329 = .ok (.getfield 86, 3) := by decide +kernel
theorem dX11_isItem_332 : decode cX11_isItem 332 = .ok (.iconst 1, 1) := by decide +kernel
theorem dX11_isItem_333 : decode cX11_isItem 333 = .ok (.iadd, 1) := by decide +kernel
theorem dX11_isItem_334 : decode cX11_isItem 334 = .ok (.putfield 86, 3) := by decide +kernel
theorem dX11_isItem_337 : decode cX11_isItem 337 = .ok (.iconst 1, 1) := by decide +kernel
theorem dX11_isItem_338 : decode cX11_isItem 338 = .ok (.ireturn, 1) := by decide +kernel
set_option maxRecDepth 20000 in
theorem ggX11_fault_X11_isItem : GoodIn wsX11_fault wsX11_isItem := goodIn_r _ [10, 1, 11, 12, 3, 2, 13, 14, 15, 9, 16, 5, 17, 18, 19, 20, 21, 22, 23, 24, 25, 26, 27, 28, 29, 30, 31, 32, 33, 34, 35, 36, 37, 38, 39, 40, 41, 42, 43, 44, 45, 46, 47, 48] (by decide +kernel) (by decide +kernel)
set_option maxRecDepth 20000 in
theorem gX11_fault_X11_isItem : GoodIn wsX11_fault (wsV RX11 89 RX11 yX11_isItem wsX11_isItem) := goodIn_app (goodIn_of _ (by decide +kernel)) ggX11_fault_X11_isItem
theorem dX11_fault_0 : decode cX11_fault 0 = .ok (.aload_n 0, 1) := by decide +kernel
theorem dX11_fault_1 : decode cX11_fault 1 = .ok (.iconst 0, 1) := by decide +kernel
theorem dX11_fault_2 : decode cX11_fault 2 = .ok (.putfield 65, 3) := by decide +kernel
theorem dX11_fault_5 : decode cX11_fault 5 = .ok (.aload_n 0, 1) := by decide +kernel
theorem dX11_fault_6 : decode cX11_fault 6 = .ok (.iconst 0, 1) := by decide +kernel
theorem dX11_fault_7 : decode cX11_fault 7 = .ok (.putfield 86, 3) := by decide +kernel
theorem dX11_fault_10 : decode cX11_fault 10 = .ok (.iconst 0, 1) := by decide +kernel
theorem dX11_fault_11 : decode cX11_fault 11 = .ok (.istore_n 1, 1) := by decide +kernel
theorem dX11_fault_12 : decode cX11_fault 12 = .ok (.iload_n 1, 1) := by decide +kernel
theorem dX11_fault_13 : decode cX11_fault 13 = .ok (.bipush 32, 2) := by decide +kernel
theorem dX11_fault_15 : decode cX11_fault 15 = .ok (.if_icmp .ge 21, 3) := by decide +kernel
theorem dX11_fault_18 : decode cX11_fault 18 = .ok (.aload_n 0, 1) := by decide +kernel
theorem dX11_fault_19 : decode cX11_fault 19 = .ok (.getfield 17, 3) := by decide +kernel
theorem dX11_fault_22 : decode cX11_fault 22 = .ok (.iload_n 1, 1) := by decide +kernel
theorem dX11_fault_23 : decode cX11_fault 23 = .ok (.aload_n 0, 1) := by decide +kernel
theorem dX11_fault_24 : decode cX11_fault 24 = .ok (.getfield 13, 3) := by decide +kernel
theorem dX11_fault_27 : decode cX11_fault 27 = .ok (.iload_n 1, 1) := by decide +kernel
theorem dX11_fault_28 : decode cX11_fault 28 = .ok (.iaload, 1) := by decide +kernel
theorem dX11_fault_29 : decode cX11_fault 29 = .ok (.iastore, 1) := by decide +kernel
theorem dX11_fault_30 : decode cX11_fault 30 = .ok (.iinc 1 1, 3) := by decide +kernel
theorem dX11_fault_33 : decode cX11_fault 33 = .ok (.goto (-21), 3) := by decide +kernel
theorem dX11_fault_36 : decode cX11_fault 36 = .ok (.aload_n 0, 1) := by decide +kernel
theorem dX11_fault_37 : decode cX11_fault 37 = .ok (.getfield 65, 3) := by decide +kernel
theorem dX11_fault_40 : decode cX11_fault 40 = .ok (.aload_n 0, 1) := by decide +kernel
theorem dX11_fault_41 : decode cX11_fault 41 = .ok (.getfield 62, 3) := by decide +kernel
theorem dX11_fault_44 : decode cX11_fault 44 = .ok (.if_icmp .ge 20, 3) := by decide +kernel
theorem dX11_fault_47 : decode cX11_fault 47 = .ok (.aload_n 0, 1) := by decide +kernel
theorem dX11_fault_48 : decode cX11_fault 48 = .ok (.getfield 65, 3) := by decide +kernel
theorem dX11_fault_51 : decode cX11_fault 51 = .ok (.istore_n 1, 1) := by decide +kernel
theorem dX11_fault_52 : decode cX11_fault 52 = .ok (.aload_n 0, 1) := by decide +kernel
theorem dX11_fault_53 : decode cX11_fault 53 = .ok (.invokevirtual 89, 3) := by decide +kernel
theorem dX11_fault_56 : decode cX11_fault 56 = .ok (.ifCond .ne 5, 3) := by decide +kernel
theorem dX11_fault_59 : decode cX11_fault 59 = .ok (.iload_n 1, 1) := by decide +kernel
theorem dX11_fault_60 : decode cX11_fault 60 = .ok (.ireturn, 1) := by decide +kernel
theorem dX11_fault_61 : decode cX11_fault 61 = .ok (.goto (-25), 3) := by decide +kernel
theorem dX11_fault_64 : decode cX11_fault 64 = .ok (.bipush (-4), 2) := by decide +kernel
theorem dX11_fault_66 : decode cX11_fault 66 = .ok (.ireturn, 1) := by decide +kernel
set_option maxRecDepth 20000 in
theorem ggX11_lay_X11_fault : GoodIn wsX11_lay wsX11_fault := goodIn_r _ [9, 10, 4, 2, 1, 11, 12, 13, 14, 8, 15, 16, 17, 18, 19, 20, 21, 22, 23, 24, 25, 26, 27, 28, 29, 30, 31, 32, 33, 34, 35, 36, 37, 38, 39, 40, 41, 42, 43, 44, 45, 46, 47, 48, 49, 50, 51, 52, 53] (by decide +kernel) (by decide +kernel)
set_option maxRecDepth 20000 in
theorem gX11_lay_X11_fault : GoodIn wsX11_lay (wsV RX11 93 RX11 yX11_fault wsX11_fault) := goodIn_app (goodIn_of _ (by decide +kernel)) ggX11_lay_X11_fault
theorem dX11_lay_0 : decode cX11_lay 0 = .ok (.aload_n 0, 1) := by decide +kernel
theorem dX11_lay_1 : decode cX11_lay 1 = .ok (.invokevirtual 93, 3) := by decide +kernel
theorem dX11_lay_4 : decode cX11_lay 4 = .ok (.bipush (-4), 2) := by decide +kernel
theorem dX11_lay_6 : decode cX11_lay 6 = .ok (.if_icmp .eq 6, 3) := by decide +kernel
theorem dX11_lay_9 : decode cX11_lay 9 = .ok (.bipush (-2), 2) := by decide +kernel
theorem dX11_lay_11 : decode cX11_lay 11 = .ok (.ireturn, 1) := by decide +kernel
theorem dX11_lay_12 : decode cX11_lay 12 = .ok (.iconst 0, 1) := by decide +kernel
theorem dX11_lay_13 : decode cX11_lay 13 = .ok (.istore_n 1, 1) := by decide +kernel
theorem dX11_lay_14 : decode cX11_lay 14 = .ok (.iload_n 1, 1) := by decide +kernel
theorem dX11_lay_15 : decode cX11_lay 15 = .ok (.bipush 32, 2) := by decide +kernel
theorem dX11_lay_17 : decode cX11_lay 17 = .ok (.if_icmp .ge 21, 3) := by decide +kernel
theorem dX11_lay_20 : decode cX11_lay 20 = .ok (.aload_n 0, 1) := by decide +kernel
theorem dX11_lay_21 : decode cX11_lay 21 = .ok (.getfield 13, 3) := by decide +kernel
theorem dX11_lay_24 : decode cX11_lay 24 = .ok (.iload_n 1, 1) := by decide +kernel
theorem dX11_lay_25 : decode cX11_lay 25 = .ok (.aload_n 0, 1) := by decide +kernel
theorem dX11_lay_26 : decode cX11_lay 26 = .ok (.getfield 17, 3) := by decide +kernel
theorem dX11_lay_29 : decode cX11_lay 29 = .ok (.iload_n 1, 1) := by decide +kernel
theorem dX11_lay_30 : decode cX11_lay 30 = .ok (.iaload, 1) := by decide +kernel
theorem dX11_lay_31 : decode cX11_lay 31 = .ok (.iastore, 1) := by decide +kernel
theorem dX11_lay_32 : decode cX11_lay 32 = .ok (.iinc 1 1, 3) := by decide +kernel
theorem dX11_lay_35 : decode cX11_lay 35 = .ok (.goto (-21), 3) := by decide +kernel
theorem dX11_lay_38 : decode cX11_lay 38 = .ok (.aload_n 0, 1) := by decide +kernel
theorem dX11_lay_39 : decode cX11_lay 39 = .ok (.iconst (-1), 1) := by decide +kernel
theorem dX11_lay_40 : decode cX11_lay 40 = .ok (.putfield 20, 3) := by decide +kernel
theorem dX11_lay_43 : decode cX11_lay 43 = .ok (.aload_n 0, 1) := by decide +kernel
theorem dX11_lay_44 : decode cX11_lay 44 = .ok (.getfield 86, 3) := by decide +kernel
theorem dX11_lay_47 : decode cX11_lay 47 = .ok (.ireturn, 1) := by decide +kernel
set_option maxRecDepth 20000 in
theorem ggX11_isRegister_X11_in : GoodIn wsX11_isRegister wsX11_in := goodIn_r _ [5] (by decide +kernel) (by decide +kernel)
set_option maxRecDepth 20000 in
theorem gX11_isRegister_X11_in : GoodIn wsX11_isRegister (va_wsS RX11 58 yX11_in wsX11_in) := goodIn_app (goodIn_of _ (by decide +kernel)) ggX11_isRegister_X11_in
theorem dX11_isRegister_0 : decode cX11_isRegister 0 = .ok (.iload_n 0, 1) := by decide +kernel
theorem dX11_isRegister_1 : decode cX11_isRegister 1 = .ok (.i2l, 1) := by decide +kernel
theorem dX11_isRegister_2 : decode cX11_isRegister 2 = .ok (.lconst 0, 1) := by decide +kernel
theorem dX11_isRegister_3 : decode cX11_isRegister 3 = .ok (.ldc2_w 82, 3) := by decide +kernel
theorem dX11_isRegister_6 : decode cX11_isRegister 6 = .ok (.invokestatic 58, 3) := by decide +kernel
theorem dX11_isRegister_9 : decode cX11_isRegister 9 = .ok (.ireturn, 1) := by decide +kernel
set_option maxRecDepth 20000 in
theorem ggX11_told_X11_isRegister : GoodIn wsX11_told wsX11_isRegister := goodIn_r _ [6, 7, 8, 9, 5, 10] (by decide +kernel) (by decide +kernel)
set_option maxRecDepth 20000 in
theorem gX11_told_X11_isRegister : GoodIn wsX11_told (va_wsS RX11 96 yX11_isRegister wsX11_isRegister) := goodIn_app (goodIn_of _ (by decide +kernel)) ggX11_told_X11_isRegister
set_option maxRecDepth 20000 in
theorem ggX11_told_X11_in : GoodIn wsX11_told wsX11_in := goodIn_r _ [10] (by decide +kernel) (by decide +kernel)
set_option maxRecDepth 20000 in
theorem gX11_told_X11_in : GoodIn wsX11_told (va_wsS RX11 58 yX11_in wsX11_in) := goodIn_app (goodIn_of _ (by decide +kernel)) ggX11_told_X11_in
theorem dX11_told_0 : decode cX11_told 0 = .ok (.iload_n 1, 1) := by decide +kernel
theorem dX11_told_1 : decode cX11_told 1 = .ok (.invokestatic 96, 3) := by decide +kernel
theorem dX11_told_4 : decode cX11_told 4 = .ok (.ifCond .eq 15, 3) := by decide +kernel
theorem dX11_told_7 : decode cX11_told 7 = .ok (.iload_n 2, 1) := by decide +kernel
theorem dX11_told_8 : decode cX11_told 8 = .ok (.i2l, 1) := by decide +kernel
theorem dX11_told_9 : decode cX11_told 9 = .ok (.lconst 0, 1) := by decide +kernel
theorem dX11_told_10 : decode cX11_told 10 = .ok (.ldc2_w 99, 3) := by decide +kernel
theorem dX11_told_13 : decode cX11_told 13 = .ok (.invokestatic 58, 3) := by decide +kernel
theorem dX11_told_16 : decode cX11_told 16 = .ok (.ifCond .ne 5, 3) := by decide +kernel
theorem dX11_told_19 : decode cX11_told 19 = .ok (.iconst (-1), 1) := by decide +kernel
theorem dX11_told_20 : decode cX11_told 20 = .ok (.ireturn, 1) := by decide +kernel
theorem dX11_told_21 : decode cX11_told 21 = .ok (.iload_n 2, 1) := by decide +kernel
theorem dX11_told_22 : decode cX11_told 22 = .ok (.iconst 2, 1) := by decide +kernel
theorem dX11_told_23 : decode cX11_told 23 = .ok (.if_icmp .ge 17, 3) := by decide +kernel
theorem dX11_told_26 : decode cX11_told 26 = .ok (.aload_n 0, 1) := by decide +kernel
theorem dX11_told_27 : decode cX11_told 27 = .ok (.getfield 13, 3) := by decide +kernel
theorem dX11_told_30 : decode cX11_told 30 = .ok (.bipush 8, 2) := by decide +kernel
theorem dX11_told_32 : decode cX11_told 32 = .ok (.iload_n 1, 1) := by decide +kernel
theorem dX11_told_33 : decode cX11_told 33 = .ok (.imul, 1) := by decide +kernel
theorem dX11_told_34 : decode cX11_told 34 = .ok (.iload_n 2, 1) := by decide +kernel
theorem dX11_told_35 : decode cX11_told 35 = .ok (.iadd, 1) := by decide +kernel
theorem dX11_told_36 : decode cX11_told 36 = .ok (.iaload, 1) := by decide +kernel
theorem dX11_told_37 : decode cX11_told 37 = .ok (.goto 36, 3) := by decide +kernel
theorem dX11_told_40 : decode cX11_told 40 = .ok (.iload_n 2, 1) := by decide +kernel
theorem dX11_told_41 : decode cX11_told 41 = .ok (.iconst 2, 1) := by decide +kernel
theorem dX11_told_42 : decode cX11_told 42 = .ok (.isub, 1) := by decide +kernel
theorem dX11_told_43 : decode cX11_told 43 = .ok (.aload_n 0, 1) := by decide +kernel
theorem dX11_told_44 : decode cX11_told 44 = .ok (.getfield 13, 3) := by decide +kernel
theorem dX11_told_47 : decode cX11_told 47 = .ok (.bipush 8, 2) := by decide +kernel
theorem dX11_told_49 : decode cX11_told 49 = .ok (.iload_n 1, 1) := by decide +kernel
theorem dX11_told_50 : decode cX11_told 50 = .ok (.imul, 1) := by decide +kernel
theorem dX11_told_51 : decode cX11_told 51 = .ok (.iconst 1, 1) := by decide +kernel
theorem dX11_told_52 : decode cX11_told 52 = .ok (.iadd, 1) := by decide +kernel
theorem dX11_told_53 : decode cX11_told 53 = .ok (.iaload, 1) := by decide +kernel
theorem dX11_told_54 : decode cX11_told 54 = .ok (.if_icmp .ge 17, 3) := by decide +kernel
theorem dX11_told_57 : decode cX11_told 57 = .ok (.aload_n 0, 1) := by decide +kernel
theorem dX11_told_58 : decode cX11_told 58 = .ok (.getfield 13, 3) := by decide +kernel
theorem dX11_told_61 : decode cX11_told 61 = .ok (.bipush 8, 2) := by decide +kernel
theorem dX11_told_63 : decode cX11_told 63 = .ok (.iload_n 1, 1) := by decide +kernel
theorem dX11_told_64 : decode cX11_told 64 = .ok (.imul, 1) := by decide +kernel
theorem dX11_told_65 : decode cX11_told 65 = .ok (.iload_n 2, 1) := by decide +kernel
theorem dX11_told_66 : decode cX11_told 66 = .ok (.iadd, 1) := by decide +kernel
theorem dX11_told_67 : decode cX11_told 67 = .ok (.iaload, 1) := by decide +kernel
theorem dX11_told_68 : decode cX11_told 68 = .ok (.goto 5, 3) := by decide +kernel
theorem dX11_told_71 : decode cX11_told 71 = .ok (.bipush (-4), 2) := by decide +kernel
theorem dX11_told_73 : decode cX11_told 73 = .ok (.ireturn, 1) := by decide +kernel
set_option maxRecDepth 20000 in
theorem ggX11_lays_X11_comes : GoodIn wsX11_lays wsX11_comes := goodIn_r _ [11, 5, 6, 4, 32, 33, 34, 35, 36, 37, 38, 39, 40, 41, 42, 43, 44, 45, 46, 47, 48, 49, 50, 51, 52] (by decide +kernel) (by decide +kernel)
set_option maxRecDepth 20000 in
theorem gX11_lays_X11_comes : GoodIn wsX11_lays (wsV RX11 105 RX11 yX11_comes wsX11_comes) := goodIn_app (goodIn_of _ (by decide +kernel)) ggX11_lays_X11_comes
set_option maxRecDepth 20000 in
theorem ggX11_lays_X11_next : GoodIn wsX11_lays wsX11_next := goodIn_r _ [15, 3, 6, 5, 4, 16, 17, 18, 10, 19, 20, 21, 22, 23, 24, 25, 26, 27, 28, 29, 30, 31, 32, 33, 34, 35, 36, 37, 38, 39, 40, 41, 42, 43, 44, 45, 46, 47, 48, 49, 50, 51, 52] (by decide +kernel) (by decide +kernel)
set_option maxRecDepth 20000 in
theorem gX11_lays_X11_next : GoodIn wsX11_lays (wsV RX11 109 RX11 yX11_next wsX11_next) := goodIn_app (goodIn_of _ (by decide +kernel)) ggX11_lays_X11_next
theorem dX11_lays_0 : decode cX11_lays 0 = .ok (.aload_n 0, 1) := by decide +kernel
theorem dX11_lays_1 : decode cX11_lays 1 = .ok (.getfield 20, 3) := by decide +kernel
theorem dX11_lays_4 : decode cX11_lays 4 = .ok (.iload_n 1, 1) := by decide +kernel
theorem dX11_lays_5 : decode cX11_lays 5 = .ok (.if_icmp .ne 4, 3) := by decide +kernel
theorem dX11_lays_8 : decode cX11_lays 8 = .ok (.return_, 1) := by decide +kernel
theorem dX11_lays_9 : decode cX11_lays 9 = .ok (.aload_n 0, 1) := by decide +kernel
theorem dX11_lays_10 : decode cX11_lays 10 = .ok (.iload_n 1, 1) := by decide +kernel
theorem dX11_lays_11 : decode cX11_lays 11 = .ok (.putfield 20, 3) := by decide +kernel
theorem dX11_lays_14 : decode cX11_lays 14 = .ok (.aload_n 0, 1) := by decide +kernel
theorem dX11_lays_15 : decode cX11_lays 15 = .ok (.aload_n 0, 1) := by decide +kernel
theorem dX11_lays_16 : decode cX11_lays 16 = .ok (.getfield 13, 3) := by decide +kernel
theorem dX11_lays_19 : decode cX11_lays 19 = .ok (.bipush 8, 2) := by decide +kernel
theorem dX11_lays_21 : decode cX11_lays 21 = .ok (.iload_n 1, 1) := by decide +kernel
theorem dX11_lays_22 : decode cX11_lays 22 = .ok (.imul, 1) := by decide +kernel
theorem dX11_lays_23 : decode cX11_lays 23 = .ok (.iconst 1, 1) := by decide +kernel
theorem dX11_lays_24 : decode cX11_lays 24 = .ok (.iadd, 1) := by decide +kernel
theorem dX11_lays_25 : decode cX11_lays 25 = .ok (.iaload, 1) := by decide +kernel
theorem dX11_lays_26 : decode cX11_lays 26 = .ok (.putfield 101, 3) := by decide +kernel
theorem dX11_lays_29 : decode cX11_lays 29 = .ok (.iconst 0, 1) := by decide +kernel
theorem dX11_lays_30 : decode cX11_lays 30 = .ok (.istore_n 2, 1) := by decide +kernel
theorem dX11_lays_31 : decode cX11_lays 31 = .ok (.iload_n 2, 1) := by decide +kernel
theorem dX11_lays_32 : decode cX11_lays 32 = .ok (.ldc 104, 2) := by decide +kernel
theorem dX11_lays_34 : decode cX11_lays 34 = .ok (.if_icmp .gt 16, 3) := by decide +kernel
theorem dX11_lays_37 : decode cX11_lays 37 = .ok (.aload_n 0, 1) := by decide +kernel
theorem dX11_lays_38 : decode cX11_lays 38 = .ok (.getfield 28, 3) := by decide +kernel
theorem dX11_lays_41 : decode cX11_lays 41 = .ok (.iload_n 2, 1) := by decide +kernel
theorem dX11_lays_42 : decode cX11_lays 42 = .ok (.iconst 0, 1) := by decide +kernel
theorem dX11_lays_43 : decode cX11_lays 43 = .ok (.iastore, 1) := by decide +kernel
theorem dX11_lays_44 : decode cX11_lays 44 = .ok (.iinc 2 1, 3) := by decide +kernel
theorem dX11_lays_47 : decode cX11_lays 47 = .ok (.goto (-16), 3) := by decide +kernel
theorem dX11_lays_50 : decode cX11_lays 50 = .ok (.iconst 0, 1) := by decide +kernel
theorem dX11_lays_51 : decode cX11_lays 51 = .ok (.istore_n 2, 1) := by decide +kernel
theorem dX11_lays_52 : decode cX11_lays 52 = .ok (.iload_n 2, 1) := by decide +kernel
theorem dX11_lays_53 : decode cX11_lays 53 = .ok (.aload_n 0, 1) := by decide +kernel
theorem dX11_lays_54 : decode cX11_lays 54 = .ok (.getfield 101, 3) := by decide +kernel
theorem dX11_lays_57 : decode cX11_lays 57 = .ok (.if_icmp .ge 42, 3) := by decide +kernel
theorem dX11_lays_60 : decode cX11_lays 60 = .ok (.aload_n 0, 1) := by decide +kernel
theorem dX11_lays_61 : decode cX11_lays 61 = .ok (.getfield 24, 3) := by decide +kernel
theorem dX11_lays_64 : decode cX11_lays 64 = .ok (.iload_n 2, 1) := by decide +kernel
theorem dX11_lays_65 : decode cX11_lays 65 = .ok (.aload_n 0, 1) := by decide +kernel
theorem dX11_lays_66 : decode cX11_lays 66 = .ok (.getfield 13, 3) := by decide +kernel
theorem dX11_lays_69 : decode cX11_lays 69 = .ok (.bipush 8, 2) := by decide +kernel
theorem dX11_lays_71 : decode cX11_lays 71 = .ok (.iload_n 1, 1) := by decide +kernel
theorem dX11_lays_72 : decode cX11_lays 72 = .ok (.imul, 1) := by decide +kernel
theorem dX11_lays_73 : decode cX11_lays 73 = .ok (.iconst 2, 1) := by decide +kernel
theorem dX11_lays_74 : decode cX11_lays 74 = .ok (.iadd, 1) := by decide +kernel
theorem dX11_lays_75 : decode cX11_lays 75 = .ok (.iload_n 2, 1) := by decide +kernel
theorem dX11_lays_76 : decode cX11_lays 76 = .ok (.iadd, 1) := by decide +kernel
theorem dX11_lays_77 : decode cX11_lays 77 = .ok (.iaload, 1) := by decide +kernel
theorem dX11_lays_78 : decode cX11_lays 78 = .ok (.iastore, 1) := by decide +kernel
theorem dX11_lays_79 : decode cX11_lays 79 = .ok (.aload_n 0, 1) := by decide +kernel
theorem dX11_lays_80 : decode cX11_lays 80 = .ok (.aload_n 0, 1) := by decide +kernel
theorem dX11_lays_81 : decode cX11_lays 81 = .ok (.getfield 13, 3) := by decide +kernel
theorem dX11_lays_84 : decode cX11_lays 84 = .ok (.bipush 8, 2) := by decide +kernel
theorem dX11_lays_86 : decode cX11_lays 86 = .ok (.iload_n 1, 1) := by decide +kernel
theorem dX11_lays_87 : decode cX11_lays 87 = .ok (.imul, 1) := by decide +kernel
theorem dX11_lays_88 : decode cX11_lays 88 = .ok (.iaload, 1) := by decide +kernel
theorem dX11_lays_89 : decode cX11_lays 89 = .ok (.iload_n 2, 1) := by decide +kernel
theorem dX11_lays_90 : decode cX11_lays 90 = .ok (.invokevirtual 105, 3) := by decide +kernel
theorem dX11_lays_93 : decode cX11_lays 93 = .ok (.iinc 2 1, 3) := by decide +kernel
theorem dX11_lays_96 : decode cX11_lays 96 = .ok (.goto (-44), 3) := by decide +kernel
theorem dX11_lays_99 : decode cX11_lays 99 = .ok (.iconst 1, 1) := by decide +kernel
theorem dX11_lays_100 : decode cX11_lays 100 = .ok (.istore_n 2, 1) := by decide +kernel
theorem dX11_lays_101 : decode cX11_lays 101 = .ok (.iload_n 2, 1) := by decide +kernel
theorem dX11_lays_102 : decode cX11_lays 102 = .ok (.ifCond .eq 81, 3) := by decide +kernel
theorem dX11_lays_105 : decode cX11_lays 105 = .ok (.aload_n 0, 1) := by decide +kernel
theorem dX11_lays_106 : decode cX11_lays 106 = .ok (.getfield 101, 3) := by decide +kernel
theorem dX11_lays_109 : decode cX11_lays 109 = .ok (.sipush 2000, 3) := by decide +kernel
theorem dX11_lays_112 : decode cX11_lays 112 = .ok (.if_icmp .ge 71, 3) := by decide +kernel
theorem dX11_lays_115 : decode cX11_lays 115 = .ok (.aload_n 0, 1) := by decide +kernel
theorem dX11_lays_116 : decode cX11_lays 116 = .ok (.aload_n 0, 1) := by decide +kernel
theorem dX11_lays_117 : decode cX11_lays 117 = .ok (.getfield 13, 3) := by decide +kernel
theorem dX11_lays_120 : decode cX11_lays 120 = .ok (.bipush 8, 2) := by decide +kernel
theorem dX11_lays_122 : decode cX11_lays 122 = .ok (.iload_n 1, 1) := by decide +kernel
theorem dX11_lays_123 : decode cX11_lays 123 = .ok (.imul, 1) := by decide +kernel
theorem dX11_lays_124 : decode cX11_lays 124 = .ok (.iaload, 1) := by decide +kernel
theorem dX11_lays_125 : decode cX11_lays 125 = .ok (.invokevirtual 109, 3) := by decide +kernel
theorem dX11_lays_128 : decode cX11_lays 128 = .ok (.istore_n 3, 1) := by decide +kernel
theorem dX11_lays_129 : decode cX11_lays 129 = .ok (.iload_n 3, 1) := by decide +kernel
theorem dX11_lays_130 : decode cX11_lays 130 = .ok (.ifCond .lt 7, 3) := by decide +kernel
theorem dX11_lays_133 : decode cX11_lays 133 = .ok (.iconst 1, 1) := by decide +kernel
theorem dX11_lays_134 : decode cX11_lays 134 = .ok (.goto 4, 3) := by decide +kernel
theorem dX11_lays_137 : decode cX11_lays 137 = .ok (.iconst 0, 1) := by decide +kernel
theorem dX11_lays_138 : decode cX11_lays 138 = .ok (.istore_n 2, 1) := by decide +kernel
theorem dX11_lays_139 : decode cX11_lays 139 = .ok (.iload_n 2, 1) := by decide +kernel
theorem dX11_lays_140 : decode cX11_lays 140 = .ok (.ifCond .eq 40, 3) := by decide +kernel
theorem dX11_lays_143 : decode cX11_lays 143 = .ok (.aload_n 0, 1) := by decide +kernel
theorem dX11_lays_144 : decode cX11_lays 144 = .ok (.getfield 24, 3) := by decide +kernel
theorem dX11_lays_147 : decode cX11_lays 147 = .ok (.aload_n 0, 1) := by decide +kernel
theorem dX11_lays_148 : decode cX11_lays 148 = .ok (.getfield 101, 3) := by decide +kernel
theorem dX11_lays_151 : decode cX11_lays 151 = .ok (.iload_n 3, 1) := by decide +kernel
theorem dX11_lays_152 : decode cX11_lays 152 = .ok (.iastore, 1) := by decide +kernel
theorem dX11_lays_153 : decode cX11_lays 153 = .ok (.aload_n 0, 1) := by decide +kernel
theorem dX11_lays_154 : decode cX11_lays 154 = .ok (.aload_n 0, 1) := by decide +kernel
theorem dX11_lays_155 : decode cX11_lays 155 = .ok (.getfield 13, 3) := by decide +kernel
theorem dX11_lays_158 : decode cX11_lays 158 = .ok (.bipush 8, 2) := by decide +kernel
theorem dX11_lays_160 : decode cX11_lays 160 = .ok (.iload_n 1, 1) := by decide +kernel
theorem dX11_lays_161 : decode cX11_lays 161 = .ok (.imul, 1) := by decide +kernel
theorem dX11_lays_162 : decode cX11_lays 162 = .ok (.iaload, 1) := by decide +kernel
theorem dX11_lays_163 : decode cX11_lays 163 = .ok (.aload_n 0, 1) := by decide +kernel
theorem dX11_lays_164 : decode cX11_lays 164 = .ok (.getfield 101, 3) := by decide +kernel
theorem dX11_lays_167 : decode cX11_lays 167 = .ok (.invokevirtual 105, 3) := by decide +kernel
theorem dX11_lays_170 : decode cX11_lays 170 = .ok (.aload_n 0, 1) := by decide +kernel
theorem dX11_lays_171 : decode cX11_lays 171 = .ok (.dup, 1) := by decide +kernel
theorem dX11_lays_172 : decode cX11_lays 172 = .ok (.getfield 101, 3) := by decide +kernel
theorem dX11_lays_175 : decode cX11_lays 175 = .ok (.iconst 1, 1) := by decide +kernel
theorem dX11_lays_176 : decode cX11_lays 176 = .ok (.iadd, 1) := by decide +kernel
theorem dX11_lays_177 : decode cX11_lays 177 = .ok (.putfield 101, 3) := by decide +kernel
theorem dX11_lays_180 : decode cX11_lays 180 = .ok (.goto (-79), 3) := by decide +kernel
theorem dX11_lays_183 : decode cX11_lays 183 = .ok (.return_, 1) := by decide +kernel
theorem dX11_comes_0 : decode cX11_comes 0 = .ok (.iload_n 1, 1) := by decide +kernel
theorem dX11_comes_1 : decode cX11_comes 1 = .ok (.iconst 2, 1) := by decide +kernel
theorem dX11_comes_2 : decode cX11_comes 2 = .ok (.if_icmp .ne 24, 3) := by decide +kernel
theorem dX11_comes_5 : decode cX11_comes 5 = .ok (.iload_n 2, 1) := by decide +kernel
theorem dX11_comes_6 : decode cX11_comes 6 = .ok (.ifCond .le 20, 3) := by decide +kernel
theorem dX11_comes_9 : decode cX11_comes 9 = .ok (.aload_n 0, 1) := by decide +kernel
theorem dX11_comes_10 : decode cX11_comes 10 = .ok (.getfield 28, 3) := by decide +kernel
theorem dX11_comes_13 : decode cX11_comes 13 = .ok (.aload_n 0, 1) := by decide +kernel
theorem dX11_comes_14 : decode cX11_comes 14 = .ok (.getfield 24, 3) := by decide +kernel
theorem dX11_comes_17 : decode cX11_comes 17 = .ok (.iload_n 2, 1) := by decide +kernel
theorem dX11_comes_18 : decode cX11_comes 18 = .ok (.iconst 1, 1) := by decide +kernel
theorem dX11_comes_19 : decode cX11_comes 19 = .ok (.isub, 1) := by decide +kernel
theorem dX11_comes_20 : decode cX11_comes 20 = .ok (.iaload, 1) := by decide +kernel
theorem dX11_comes_21 : decode cX11_comes 21 = .ok (.iload_n 2, 1) := by decide +kernel
theorem dX11_comes_22 : decode cX11_comes 22 = .ok (.iastore, 1) := by decide +kernel
theorem dX11_comes_23 : decode cX11_comes 23 = .ok (.goto 77, 3) := by decide +kernel
theorem dX11_comes_26 : decode cX11_comes 26 = .ok (.iload_n 1, 1) := by decide +kernel
theorem dX11_comes_27 : decode cX11_comes 27 = .ok (.iconst 5, 1) := by decide +kernel
theorem dX11_comes_28 : decode cX11_comes 28 = .ok (.if_icmp .ne 21, 3) := by decide +kernel
theorem dX11_comes_31 : decode cX11_comes 31 = .ok (.aload_n 0, 1) := by decide +kernel
theorem dX11_comes_32 : decode cX11_comes 32 = .ok (.getfield 28, 3) := by decide +kernel
theorem dX11_comes_35 : decode cX11_comes 35 = .ok (.aload_n 0, 1) := by decide +kernel
theorem dX11_comes_36 : decode cX11_comes 36 = .ok (.getfield 24, 3) := by decide +kernel
theorem dX11_comes_39 : decode cX11_comes 39 = .ok (.iload_n 2, 1) := by decide +kernel
theorem dX11_comes_40 : decode cX11_comes 40 = .ok (.iaload, 1) := by decide +kernel
theorem dX11_comes_41 : decode cX11_comes 41 = .ok (.dup2, 1) := by decide +kernel
theorem dX11_comes_42 : decode cX11_comes 42 = .ok (.iaload, 1) := by decide +kernel
theorem dX11_comes_43 : decode cX11_comes 43 = .ok (.iconst 1, 1) := by decide +kernel
theorem dX11_comes_44 : decode cX11_comes 44 = .ok (.iadd, 1) := by decide +kernel
theorem dX11_comes_45 : decode cX11_comes 45 = .ok (.iastore, 1) := by decide +kernel
theorem dX11_comes_46 : decode cX11_comes 46 = .ok (.goto 54, 3) := by decide +kernel
theorem dX11_comes_49 : decode cX11_comes 49 = .ok (.iload_n 1, 1) := by decide +kernel
theorem dX11_comes_50 : decode cX11_comes 50 = .ok (.iconst 4, 1) := by decide +kernel
theorem dX11_comes_51 : decode cX11_comes 51 = .ok (.if_icmp .ne 49, 3) := by decide +kernel
theorem dX11_comes_54 : decode cX11_comes 54 = .ok (.iconst 0, 1) := by decide +kernel
theorem dX11_comes_55 : decode cX11_comes 55 = .ok (.istore_n 3, 1) := by decide +kernel
theorem dX11_comes_56 : decode cX11_comes 56 = .ok (.iload_n 3, 1) := by decide +kernel
theorem dX11_comes_57 : decode cX11_comes 57 = .ok (.iload_n 2, 1) := by decide +kernel
theorem dX11_comes_58 : decode cX11_comes 58 = .ok (.if_icmp .ge 42, 3) := by decide +kernel
theorem dX11_comes_61 : decode cX11_comes 61 = .ok (.aload_n 0, 1) := by decide +kernel
theorem dX11_comes_62 : decode cX11_comes 62 = .ok (.getfield 24, 3) := by decide +kernel
theorem dX11_comes_65 : decode cX11_comes 65 = .ok (.iload_n 3, 1) := by decide +kernel
theorem dX11_comes_66 : decode cX11_comes 66 = .ok (.iaload, 1) := by decide +kernel
theorem dX11_comes_67 : decode cX11_comes 67 = .ok (.aload_n 0, 1) := by decide +kernel
theorem dX11_comes_68 : decode cX11_comes 68 = .ok (.getfield 24, 3) := by decide +kernel
theorem dX11_comes_71 : decode cX11_comes 71 = .ok (.iload_n 2, 1) := by decide +kernel
theorem dX11_comes_72 : decode cX11_comes 72 = .ok (.iaload, 1) := by decide +kernel
theorem dX11_comes_73 : decode cX11_comes 73 = .ok (.iadd, 1) := by decide +kernel
theorem dX11_comes_74 : decode cX11_comes 74 = .ok (.istore 4, 2) := by decide +kernel
theorem dX11_comes_76 : decode cX11_comes 76 = .ok (.iload 4, 2) := by decide +kernel
theorem dX11_comes_78 : decode cX11_comes 78 = .ok (.ldc 104, 2) := by decide +kernel
theorem dX11_comes_80 : decode cX11_comes 80 = .ok (.if_icmp .gt 14, 3) := by decide +kernel
theorem dX11_comes_83 : decode cX11_comes 83 = .ok (.aload_n 0, 1) := by decide +kernel
theorem dX11_comes_84 : decode cX11_comes 84 = .ok (.getfield 28, 3) := by decide +kernel
theorem dX11_comes_87 : decode cX11_comes 87 = .ok (.iload 4, 2) := by decide +kernel
theorem dX11_comes_89 : decode cX11_comes 89 = .ok (.dup2, 1) := by decide +kernel
theorem dX11_comes_90 : decode cX11_comes 90 = .ok (.iaload, 1) := by decide +kernel
theorem dX11_comes_91 : decode cX11_comes 91 = .ok (.iconst 1, 1) := by decide +kernel
theorem dX11_comes_92 : decode cX11_comes 92 = .ok (.iadd, 1) := by decide +kernel
theorem dX11_comes_93 : decode cX11_comes 93 = .ok (.iastore, 1) := by decide +kernel
theorem dX11_comes_94 : decode cX11_comes 94 = .ok (.iinc 3 1, 3) := by decide +kernel
theorem dX11_comes_97 : decode cX11_comes 97 = .ok (.goto (-41), 3) := by decide +kernel
theorem dX11_comes_100 : decode cX11_comes 100 = .ok (.return_, 1) := by decide +kernel
set_option maxRecDepth 20000 in
theorem ggX11_next_X11_sum : GoodIn wsX11_next wsX11_sum := goodIn_r _ [9, 1, 2, 4, 10, 11, 8, 12, 22, 23, 24, 25, 26, 27, 28, 29, 30, 31, 32, 33, 34, 35, 36, 37, 38, 39, 40, 41, 42] (by decide +kernel) (by decide +kernel)
set_option maxRecDepth 20000 in
theorem gX11_next_X11_sum : GoodIn wsX11_next (wsV RX11 113 RX11 yX11_sum wsX11_sum) := goodIn_app (goodIn_of _ (by decide +kernel)) ggX11_next_X11_sum
set_option maxRecDepth 20000 in
theorem ggX11_next_X11_again : GoodIn wsX11_next wsX11_again := goodIn_r _ [16, 2, 22, 23, 24, 25, 26, 27, 28, 29, 30, 31, 32, 33, 34, 35, 36, 37, 38, 39, 40, 41, 42] (by decide +kernel) (by decide +kernel)
set_option maxRecDepth 20000 in
theorem gX11_next_X11_again : GoodIn wsX11_next (wsV RX11 117 RX11 yX11_again wsX11_again) := goodIn_app (goodIn_of _ (by decide +kernel)) ggX11_next_X11_again
set_option maxRecDepth 20000 in
theorem ggX11_next_X11_free : GoodIn wsX11_next wsX11_free := goodIn_r _ [20, 21, 2, 10, 11, 8, 12, 22, 23, 24, 25, 26, 27, 28, 29, 30, 31, 32, 33, 34, 35, 36, 37, 38, 39, 40, 41, 42] (by decide +kernel) (by decide +kernel)
set_option maxRecDepth 20000 in
theorem gX11_next_X11_free : GoodIn wsX11_next (wsV RX11 120 RX11 yX11_free wsX11_free) := goodIn_app (goodIn_of _ (by decide +kernel)) ggX11_next_X11_free
theorem dX11_next_0 : decode cX11_next 0 = .ok (.aload_n 0, 1) := by decide +kernel
theorem dX11_next_1 : decode cX11_next 1 = .ok (.getfield 101, 3) := by decide +kernel
theorem dX11_next_4 : decode cX11_next 4 = .ok (.istore_n 2, 1) := by decide +kernel
theorem dX11_next_5 : decode cX11_next 5 = .ok (.iload_n 2, 1) := by decide +kernel
theorem dX11_next_6 : decode cX11_next 6 = .ok (.ifCond .le 14, 3) := by decide +kernel
theorem dX11_next_9 : decode cX11_next 9 = .ok (.aload_n 0, 1) := by decide +kernel
theorem dX11_next_10 : decode cX11_next 10 = .ok (.getfield 24, 3) := by decide +kernel
theorem dX11_next_13 : decode cX11_next 13 = .ok (.iload_n 2, 1) := by decide +kernel
theorem dX11_next_14 : decode cX11_next 14 = .ok (.iconst 1, 1) := by decide +kernel
theorem dX11_next_15 : decode cX11_next 15 = .ok (.isub, 1) := by decide +kernel
theorem dX11_next_16 : decode cX11_next 16 = .ok (.iaload, 1) := by decide +kernel
theorem dX11_next_17 : decode cX11_next 17 = .ok (.goto 4, 3) := by decide +kernel
theorem dX11_next_20 : decode cX11_next 20 = .ok (.iconst 0, 1) := by decide +kernel
theorem dX11_next_21 : decode cX11_next 21 = .ok (.istore_n 3, 1) := by decide +kernel
theorem dX11_next_22 : decode cX11_next 22 = .ok (.iload_n 1, 1) := by decide +kernel
theorem dX11_next_23 : decode cX11_next 23 = .ok (.tableswitch 135 0 5 #[37, 55, 66, 88, 94, 128], 37) := by decide +kernel
theorem dX11_next_60 : decode cX11_next 60 = .ok (.aload_n 0, 1) := by decide +kernel
theorem dX11_next_61 : decode cX11_next 61 = .ok (.iload_n 2, 1) := by decide +kernel
theorem dX11_next_62 : decode cX11_next 62 = .ok (.iload_n 3, 1) := by decide +kernel
theorem dX11_next_63 : decode cX11_next 63 = .ok (.isub, 1) := by decide +kernel
theorem dX11_next_64 : decode cX11_next 64 = .ok (.iload_n 2, 1) := by decide +kernel
theorem dX11_next_65 : decode cX11_next 65 = .ok (.aload_n 0, 1) := by decide +kernel
theorem dX11_next_66 : decode cX11_next 66 = .ok (.getfield 24, 3) := by decide +kernel
theorem dX11_next_69 : decode cX11_next 69 = .ok (.iload_n 2, 1) := by decide +kernel
theorem dX11_next_70 : decode cX11_next 70 = .ok (.iconst 2, 1) := by decide +kernel
theorem dX11_next_71 : decode cX11_next 71 = .ok (.isub, 1) := by decide +kernel
theorem dX11_next_72 : decode cX11_next 72 = .ok (.iaload, 1) := by decide +kernel
theorem dX11_next_73 : decode cX11_next 73 = .ok (.isub, 1) := by decide +kernel
theorem dX11_next_74 : decode cX11_next 74 = .ok (.invokevirtual 113, 3) := by decide +kernel
theorem dX11_next_77 : decode cX11_next 77 = .ok (.ireturn, 1) := by decide +kernel
theorem dX11_next_78 : decode cX11_next 78 = .ok (.aload_n 0, 1) := by decide +kernel
theorem dX11_next_79 : decode cX11_next 79 = .ok (.iload_n 3, 1) := by decide +kernel
theorem dX11_next_80 : decode cX11_next 80 = .ok (.iconst 1, 1) := by decide +kernel
theorem dX11_next_81 : decode cX11_next 81 = .ok (.isub, 1) := by decide +kernel
theorem dX11_next_82 : decode cX11_next 82 = .ok (.iload_n 2, 1) := by decide +kernel
theorem dX11_next_83 : decode cX11_next 83 = .ok (.iload_n 3, 1) := by decide +kernel
theorem dX11_next_84 : decode cX11_next 84 = .ok (.isub, 1) := by decide +kernel
theorem dX11_next_85 : decode cX11_next 85 = .ok (.invokevirtual 113, 3) := by decide +kernel
theorem dX11_next_88 : decode cX11_next 88 = .ok (.ireturn, 1) := by decide +kernel
theorem dX11_next_89 : decode cX11_next 89 = .ok (.aload_n 0, 1) := by decide +kernel
theorem dX11_next_90 : decode cX11_next 90 = .ok (.getfield 28, 3) := by decide +kernel
theorem dX11_next_93 : decode cX11_next 93 = .ok (.iload_n 3, 1) := by decide +kernel
theorem dX11_next_94 : decode cX11_next 94 = .ok (.iaload, 1) := by decide +kernel
theorem dX11_next_95 : decode cX11_next 95 = .ok (.ifCond .ne 7, 3) := by decide +kernel
theorem dX11_next_98 : decode cX11_next 98 = .ok (.iconst 0, 1) := by decide +kernel
theorem dX11_next_99 : decode cX11_next 99 = .ok (.goto 11, 3) := by decide +kernel
theorem dX11_next_102 : decode cX11_next 102 = .ok (.iload_n 2, 1) := by decide +kernel
theorem dX11_next_103 : decode cX11_next 103 = .ok (.aload_n 0, 1) := by decide +kernel
theorem dX11_next_104 : decode cX11_next 104 = .ok (.getfield 28, 3) := by decide +kernel
theorem dX11_next_107 : decode cX11_next 107 = .ok (.iload_n 3, 1) := by decide +kernel
theorem dX11_next_108 : decode cX11_next 108 = .ok (.iaload, 1) := by decide +kernel
theorem dX11_next_109 : decode cX11_next 109 = .ok (.isub, 1) := by decide +kernel
theorem dX11_next_110 : decode cX11_next 110 = .ok (.ireturn, 1) := by decide +kernel
theorem dX11_next_111 : decode cX11_next 111 = .ok (.aload_n 0, 1) := by decide +kernel
theorem dX11_next_112 : decode cX11_next 112 = .ok (.iload_n 2, 1) := by decide +kernel
theorem dX11_next_113 : decode cX11_next 113 = .ok (.invokevirtual 117, 3) := by decide +kernel
theorem dX11_next_116 : decode cX11_next 116 = .ok (.ireturn, 1) := by decide +kernel
theorem dX11_next_117 : decode cX11_next 117 = .ok (.iload_n 3, 1) := by decide +kernel
theorem dX11_next_118 : decode cX11_next 118 = .ok (.iconst 1, 1) := by decide +kernel
theorem dX11_next_119 : decode cX11_next 119 = .ok (.iadd, 1) := by decide +kernel
theorem dX11_next_120 : decode cX11_next 120 = .ok (.istore 4, 2) := by decide +kernel
theorem dX11_next_122 : decode cX11_next 122 = .ok (.iload 4, 2) := by decide +kernel
theorem dX11_next_124 : decode cX11_next 124 = .ok (.ldc 104, 2) := by decide +kernel
theorem dX11_next_126 : decode cX11_next 126 = .ok (.if_icmp .gt 23, 3) := by decide +kernel
theorem dX11_next_129 : decode cX11_next 129 = .ok (.aload_n 0, 1) := by decide +kernel
theorem dX11_next_130 : decode cX11_next 130 = .ok (.getfield 28, 3) := by decide +kernel
theorem dX11_next_133 : decode cX11_next 133 = .ok (.iload 4, 2) := by decide +kernel
theorem dX11_next_135 : decode cX11_next 135 = .ok (.iaload, 1) := by decide +kernel
theorem dX11_next_136 : decode cX11_next 136 = .ok (.iconst 1, 1) := by decide +kernel
theorem dX11_next_137 : decode cX11_next 137 = .ok (.if_icmp .ne 6, 3) := by decide +kernel
theorem dX11_next_140 : decode cX11_next 140 = .ok (.iload 4, 2) := by decide +kernel
theorem dX11_next_142 : decode cX11_next 142 = .ok (.ireturn, 1) := by decide +kernel
theorem dX11_next_143 : decode cX11_next 143 = .ok (.iinc 4 1, 3) := by decide +kernel
theorem dX11_next_146 : decode cX11_next 146 = .ok (.goto (-24), 3) := by decide +kernel
theorem dX11_next_149 : decode cX11_next 149 = .ok (.iconst (-1), 1) := by decide +kernel
theorem dX11_next_150 : decode cX11_next 150 = .ok (.ireturn, 1) := by decide +kernel
theorem dX11_next_151 : decode cX11_next 151 = .ok (.aload_n 0, 1) := by decide +kernel
theorem dX11_next_152 : decode cX11_next 152 = .ok (.getfield 28, 3) := by decide +kernel
theorem dX11_next_155 : decode cX11_next 155 = .ok (.iload_n 3, 1) := by decide +kernel
theorem dX11_next_156 : decode cX11_next 156 = .ok (.iaload, 1) := by decide +kernel
theorem dX11_next_157 : decode cX11_next 157 = .ok (.ireturn, 1) := by decide +kernel
theorem dX11_next_158 : decode cX11_next 158 = .ok (.aload_n 0, 1) := by decide +kernel
theorem dX11_next_159 : decode cX11_next 159 = .ok (.iload_n 2, 1) := by decide +kernel
theorem dX11_next_160 : decode cX11_next 160 = .ok (.invokevirtual 120, 3) := by decide +kernel
theorem dX11_next_163 : decode cX11_next 163 = .ok (.ireturn, 1) := by decide +kernel
set_option maxRecDepth 20000 in
theorem ggX11_sum_X11_in : GoodIn wsX11_sum wsX11_in := goodIn_r _ [7] (by decide +kernel) (by decide +kernel)
set_option maxRecDepth 20000 in
theorem gX11_sum_X11_in : GoodIn wsX11_sum (va_wsS RX11 58 yX11_in wsX11_in) := goodIn_app (goodIn_of _ (by decide +kernel)) ggX11_sum_X11_in
theorem dX11_sum_0 : decode cX11_sum 0 = .ok (.iload_n 1, 1) := by decide +kernel
theorem dX11_sum_1 : decode cX11_sum 1 = .ok (.i2l, 1) := by decide +kernel
theorem dX11_sum_2 : decode cX11_sum 2 = .ok (.lconst 0, 1) := by decide +kernel
theorem dX11_sum_3 : decode cX11_sum 3 = .ok (.aload_n 0, 1) := by decide +kernel
theorem dX11_sum_4 : decode cX11_sum 4 = .ok (.getfield 101, 3) := by decide +kernel
theorem dX11_sum_7 : decode cX11_sum 7 = .ok (.iconst 1, 1) := by decide +kernel
theorem dX11_sum_8 : decode cX11_sum 8 = .ok (.isub, 1) := by decide +kernel
theorem dX11_sum_9 : decode cX11_sum 9 = .ok (.i2l, 1) := by decide +kernel
theorem dX11_sum_10 : decode cX11_sum 10 = .ok (.invokestatic 58, 3) := by decide +kernel
theorem dX11_sum_13 : decode cX11_sum 13 = .ok (.ifCond .eq 37, 3) := by decide +kernel
theorem dX11_sum_16 : decode cX11_sum 16 = .ok (.iload_n 2, 1) := by decide +kernel
theorem dX11_sum_17 : decode cX11_sum 17 = .ok (.i2l, 1) := by decide +kernel
theorem dX11_sum_18 : decode cX11_sum 18 = .ok (.lconst 0, 1) := by decide +kernel
theorem dX11_sum_19 : decode cX11_sum 19 = .ok (.aload_n 0, 1) := by decide +kernel
theorem dX11_sum_20 : decode cX11_sum 20 = .ok (.getfield 101, 3) := by decide +kernel
theorem dX11_sum_23 : decode cX11_sum 23 = .ok (.iconst 1, 1) := by decide +kernel
theorem dX11_sum_24 : decode cX11_sum 24 = .ok (.isub, 1) := by decide +kernel
theorem dX11_sum_25 : decode cX11_sum 25 = .ok (.i2l, 1) := by decide +kernel
theorem dX11_sum_26 : decode cX11_sum 26 = .ok (.invokestatic 58, 3) := by decide +kernel
theorem dX11_sum_29 : decode cX11_sum 29 = .ok (.ifCond .eq 21, 3) := by decide +kernel
theorem dX11_sum_32 : decode cX11_sum 32 = .ok (.aload_n 0, 1) := by decide +kernel
theorem dX11_sum_33 : decode cX11_sum 33 = .ok (.getfield 24, 3) := by decide +kernel
theorem dX11_sum_36 : decode cX11_sum 36 = .ok (.iload_n 1, 1) := by decide +kernel
theorem dX11_sum_37 : decode cX11_sum 37 = .ok (.iaload, 1) := by decide +kernel
theorem dX11_sum_38 : decode cX11_sum 38 = .ok (.aload_n 0, 1) := by decide +kernel
theorem dX11_sum_39 : decode cX11_sum 39 = .ok (.getfield 24, 3) := by decide +kernel
theorem dX11_sum_42 : decode cX11_sum 42 = .ok (.iload_n 2, 1) := by decide +kernel
theorem dX11_sum_43 : decode cX11_sum 43 = .ok (.iaload, 1) := by decide +kernel
theorem dX11_sum_44 : decode cX11_sum 44 = .ok (.iadd, 1) := by decide +kernel
theorem dX11_sum_45 : decode cX11_sum 45 = .ok (.ldc 104, 2) := by decide +kernel
theorem dX11_sum_47 : decode cX11_sum 47 = .ok (.if_icmp .le 5, 3) := by decide +kernel
theorem dX11_sum_50 : decode cX11_sum 50 = .ok (.iconst (-1), 1) := by decide +kernel
theorem dX11_sum_51 : decode cX11_sum 51 = .ok (.ireturn, 1) := by decide +kernel
theorem dX11_sum_52 : decode cX11_sum 52 = .ok (.aload_n 0, 1) := by decide +kernel
theorem dX11_sum_53 : decode cX11_sum 53 = .ok (.getfield 24, 3) := by decide +kernel
theorem dX11_sum_56 : decode cX11_sum 56 = .ok (.iload_n 1, 1) := by decide +kernel
theorem dX11_sum_57 : decode cX11_sum 57 = .ok (.iaload, 1) := by decide +kernel
theorem dX11_sum_58 : decode cX11_sum 58 = .ok (.aload_n 0, 1) := by decide +kernel
theorem dX11_sum_59 : decode cX11_sum 59 = .ok (.getfield 24, 3) := by decide +kernel
theorem dX11_sum_62 : decode cX11_sum 62 = .ok (.iload_n 2, 1) := by decide +kernel
theorem dX11_sum_63 : decode cX11_sum 63 = .ok (.iaload, 1) := by decide +kernel
theorem dX11_sum_64 : decode cX11_sum 64 = .ok (.iadd, 1) := by decide +kernel
theorem dX11_sum_65 : decode cX11_sum 65 = .ok (.ireturn, 1) := by decide +kernel
theorem dX11_again_0 : decode cX11_again 0 = .ok (.iconst 1, 1) := by decide +kernel
theorem dX11_again_1 : decode cX11_again 1 = .ok (.istore_n 2, 1) := by decide +kernel
theorem dX11_again_2 : decode cX11_again 2 = .ok (.iconst 1, 1) := by decide +kernel
theorem dX11_again_3 : decode cX11_again 3 = .ok (.istore_n 3, 1) := by decide +kernel
theorem dX11_again_4 : decode cX11_again 4 = .ok (.iload_n 2, 1) := by decide +kernel
theorem dX11_again_5 : decode cX11_again 5 = .ok (.iconst 1, 1) := by decide +kernel
theorem dX11_again_6 : decode cX11_again 6 = .ok (.iadd, 1) := by decide +kernel
theorem dX11_again_7 : decode cX11_again 7 = .ok (.iload_n 3, 1) := by decide +kernel
theorem dX11_again_8 : decode cX11_again 8 = .ok (.imul, 1) := by decide +kernel
theorem dX11_again_9 : decode cX11_again 9 = .ok (.iload_n 1, 1) := by decide +kernel
theorem dX11_again_10 : decode cX11_again 10 = .ok (.if_icmp .gt 77, 3) := by decide +kernel
theorem dX11_again_13 : decode cX11_again 13 = .ok (.iconst 0, 1) := by decide +kernel
theorem dX11_again_14 : decode cX11_again 14 = .ok (.istore 4, 2) := by decide +kernel
theorem dX11_again_16 : decode cX11_again 16 = .ok (.iload_n 1, 1) := by decide +kernel
theorem dX11_again_17 : decode cX11_again 17 = .ok (.iconst 1, 1) := by decide +kernel
theorem dX11_again_18 : decode cX11_again 18 = .ok (.isub, 1) := by decide +kernel
theorem dX11_again_19 : decode cX11_again 19 = .ok (.iload 4, 2) := by decide +kernel
theorem dX11_again_21 : decode cX11_again 21 = .ok (.isub, 1) := by decide +kernel
theorem dX11_again_22 : decode cX11_again 22 = .ok (.iload_n 3, 1) := by decide +kernel
theorem dX11_again_23 : decode cX11_again 23 = .ok (.isub, 1) := by decide +kernel
theorem dX11_again_24 : decode cX11_again 24 = .ok (.ifCond .lt 36, 3) := by decide +kernel
theorem dX11_again_27 : decode cX11_again 27 = .ok (.aload_n 0, 1) := by decide +kernel
theorem dX11_again_28 : decode cX11_again 28 = .ok (.getfield 24, 3) := by decide +kernel
theorem dX11_again_31 : decode cX11_again 31 = .ok (.iload_n 1, 1) := by decide +kernel
theorem dX11_again_32 : decode cX11_again 32 = .ok (.iconst 1, 1) := by decide +kernel
theorem dX11_again_33 : decode cX11_again 33 = .ok (.isub, 1) := by decide +kernel
theorem dX11_again_34 : decode cX11_again 34 = .ok (.iload 4, 2) := by decide +kernel
theorem dX11_again_36 : decode cX11_again 36 = .ok (.isub, 1) := by decide +kernel
theorem dX11_again_37 : decode cX11_again 37 = .ok (.iaload, 1) := by decide +kernel
theorem dX11_again_38 : decode cX11_again 38 = .ok (.aload_n 0, 1) := by decide +kernel
theorem dX11_again_39 : decode cX11_again 39 = .ok (.getfield 24, 3) := by decide +kernel
theorem dX11_again_42 : decode cX11_again 42 = .ok (.iload_n 1, 1) := by decide +kernel
theorem dX11_again_43 : decode cX11_again 43 = .ok (.iconst 1, 1) := by decide +kernel
theorem dX11_again_44 : decode cX11_again 44 = .ok (.isub, 1) := by decide +kernel
theorem dX11_again_45 : decode cX11_again 45 = .ok (.iload 4, 2) := by decide +kernel
theorem dX11_again_47 : decode cX11_again 47 = .ok (.isub, 1) := by decide +kernel
theorem dX11_again_48 : decode cX11_again 48 = .ok (.iload_n 3, 1) := by decide +kernel
theorem dX11_again_49 : decode cX11_again 49 = .ok (.isub, 1) := by decide +kernel
theorem dX11_again_50 : decode cX11_again 50 = .ok (.iaload, 1) := by decide +kernel
theorem dX11_again_51 : decode cX11_again 51 = .ok (.if_icmp .ne 9, 3) := by decide +kernel
theorem dX11_again_54 : decode cX11_again 54 = .ok (.iinc 4 1, 3) := by decide +kernel
theorem dX11_again_57 : decode cX11_again 57 = .ok (.goto (-41), 3) := by decide +kernel
theorem dX11_again_60 : decode cX11_again 60 = .ok (.iload 4, 2) := by decide +kernel
theorem dX11_again_62 : decode cX11_again 62 = .ok (.iload_n 3, 1) := by decide +kernel
theorem dX11_again_63 : decode cX11_again 63 = .ok (.idiv, 1) := by decide +kernel
theorem dX11_again_64 : decode cX11_again 64 = .ok (.iconst 1, 1) := by decide +kernel
theorem dX11_again_65 : decode cX11_again 65 = .ok (.iadd, 1) := by decide +kernel
theorem dX11_again_66 : decode cX11_again 66 = .ok (.iload_n 2, 1) := by decide +kernel
theorem dX11_again_67 : decode cX11_again 67 = .ok (.if_icmp .le 12, 3) := by decide +kernel
theorem dX11_again_70 : decode cX11_again 70 = .ok (.iload 4, 2) := by decide +kernel
theorem dX11_again_72 : decode cX11_again 72 = .ok (.iload_n 3, 1) := by decide +kernel
theorem dX11_again_73 : decode cX11_again 73 = .ok (.idiv, 1) := by decide +kernel
theorem dX11_again_74 : decode cX11_again 74 = .ok (.iconst 1, 1) := by decide +kernel
theorem dX11_again_75 : decode cX11_again 75 = .ok (.iadd, 1) := by decide +kernel
theorem dX11_again_76 : decode cX11_again 76 = .ok (.goto 4, 3) := by decide +kernel
theorem dX11_again_79 : decode cX11_again 79 = .ok (.iload_n 2, 1) := by decide +kernel
theorem dX11_again_80 : decode cX11_again 80 = .ok (.istore_n 2, 1) := by decide +kernel
theorem dX11_again_81 : decode cX11_again 81 = .ok (.iinc 3 1, 3) := by decide +kernel
theorem dX11_again_84 : decode cX11_again 84 = .ok (.goto (-80), 3) := by decide +kernel
theorem dX11_again_87 : decode cX11_again 87 = .ok (.iload_n 2, 1) := by decide +kernel
theorem dX11_again_88 : decode cX11_again 88 = .ok (.ireturn, 1) := by decide +kernel
set_option maxRecDepth 20000 in
theorem ggX11_free_X11_in : GoodIn wsX11_free wsX11_in := goodIn_r _ [6] (by decide +kernel) (by decide +kernel)
set_option maxRecDepth 20000 in
theorem gX11_free_X11_in : GoodIn wsX11_free (va_wsS RX11 58 yX11_in wsX11_in) := goodIn_app (goodIn_of _ (by decide +kernel)) ggX11_free_X11_in
theorem dX11_free_0 : decode cX11_free 0 = .ok (.iconst 0, 1) := by decide +kernel
theorem dX11_free_1 : decode cX11_free 1 = .ok (.istore_n 2, 1) := by decide +kernel
theorem dX11_free_2 : decode cX11_free 2 = .ok (.iload_n 2, 1) := by decide +kernel
theorem dX11_free_3 : decode cX11_free 3 = .ok (.iload_n 1, 1) := by decide +kernel
theorem dX11_free_4 : decode cX11_free 4 = .ok (.if_icmp .gt 16, 3) := by decide +kernel
theorem dX11_free_7 : decode cX11_free 7 = .ok (.aload_n 0, 1) := by decide +kernel
theorem dX11_free_8 : decode cX11_free 8 = .ok (.getfield 40, 3) := by decide +kernel
theorem dX11_free_11 : decode cX11_free 11 = .ok (.iload_n 2, 1) := by decide +kernel
theorem dX11_free_12 : decode cX11_free 12 = .ok (.iconst 0, 1) := by decide +kernel
theorem dX11_free_13 : decode cX11_free 13 = .ok (.iastore, 1) := by decide +kernel
theorem dX11_free_14 : decode cX11_free 14 = .ok (.iinc 2 1, 3) := by decide +kernel
theorem dX11_free_17 : decode cX11_free 17 = .ok (.goto (-15), 3) := by decide +kernel
theorem dX11_free_20 : decode cX11_free 20 = .ok (.iconst 1, 1) := by decide +kernel
theorem dX11_free_21 : decode cX11_free 21 = .ok (.istore_n 2, 1) := by decide +kernel
theorem dX11_free_22 : decode cX11_free 22 = .ok (.iconst 2, 1) := by decide +kernel
theorem dX11_free_23 : decode cX11_free 23 = .ok (.iload_n 2, 1) := by decide +kernel
theorem dX11_free_24 : decode cX11_free 24 = .ok (.imul, 1) := by decide +kernel
theorem dX11_free_25 : decode cX11_free 25 = .ok (.iload_n 1, 1) := by decide +kernel
theorem dX11_free_26 : decode cX11_free 26 = .ok (.if_icmp .gt 49, 3) := by decide +kernel
theorem dX11_free_29 : decode cX11_free 29 = .ok (.iconst 2, 1) := by decide +kernel
theorem dX11_free_30 : decode cX11_free 30 = .ok (.aload_n 0, 1) := by decide +kernel
theorem dX11_free_31 : decode cX11_free 31 = .ok (.getfield 24, 3) := by decide +kernel
theorem dX11_free_34 : decode cX11_free 34 = .ok (.iload_n 1, 1) := by decide +kernel
theorem dX11_free_35 : decode cX11_free 35 = .ok (.iload_n 2, 1) := by decide +kernel
theorem dX11_free_36 : decode cX11_free 36 = .ok (.isub, 1) := by decide +kernel
theorem dX11_free_37 : decode cX11_free 37 = .ok (.iaload, 1) := by decide +kernel
theorem dX11_free_38 : decode cX11_free 38 = .ok (.imul, 1) := by decide +kernel
theorem dX11_free_39 : decode cX11_free 39 = .ok (.aload_n 0, 1) := by decide +kernel
theorem dX11_free_40 : decode cX11_free 40 = .ok (.getfield 24, 3) := by decide +kernel
theorem dX11_free_43 : decode cX11_free 43 = .ok (.iload_n 1, 1) := by decide +kernel
theorem dX11_free_44 : decode cX11_free 44 = .ok (.iconst 2, 1) := by decide +kernel
theorem dX11_free_45 : decode cX11_free 45 = .ok (.iload_n 2, 1) := by decide +kernel
theorem dX11_free_46 : decode cX11_free 46 = .ok (.imul, 1) := by decide +kernel
theorem dX11_free_47 : decode cX11_free 47 = .ok (.isub, 1) := by decide +kernel
theorem dX11_free_48 : decode cX11_free 48 = .ok (.iaload, 1) := by decide +kernel
theorem dX11_free_49 : decode cX11_free 49 = .ok (.isub, 1) := by decide +kernel
theorem dX11_free_50 : decode cX11_free 50 = .ok (.istore_n 3, 1) := by decide +kernel
theorem dX11_free_51 : decode cX11_free 51 = .ok (.iload_n 3, 1) := by decide +kernel
theorem dX11_free_52 : decode cX11_free 52 = .ok (.i2l, 1) := by decide +kernel
theorem dX11_free_53 : decode cX11_free 53 = .ok (.lconst 0, 1) := by decide +kernel
theorem dX11_free_54 : decode cX11_free 54 = .ok (.iload_n 1, 1) := by decide +kernel
theorem dX11_free_55 : decode cX11_free 55 = .ok (.i2l, 1) := by decide +kernel
theorem dX11_free_56 : decode cX11_free 56 = .ok (.invokestatic 58, 3) := by decide +kernel
theorem dX11_free_59 : decode cX11_free 59 = .ok (.ifCond .eq 10, 3) := by decide +kernel
theorem dX11_free_62 : decode cX11_free 62 = .ok (.aload_n 0, 1) := by decide +kernel
theorem dX11_free_63 : decode cX11_free 63 = .ok (.getfield 40, 3) := by decide +kernel
theorem dX11_free_66 : decode cX11_free 66 = .ok (.iload_n 3, 1) := by decide +kernel
theorem dX11_free_67 : decode cX11_free 67 = .ok (.iconst 1, 1) := by decide +kernel
theorem dX11_free_68 : decode cX11_free 68 = .ok (.iastore, 1) := by decide +kernel
theorem dX11_free_69 : decode cX11_free 69 = .ok (.iinc 2 1, 3) := by decide +kernel
theorem dX11_free_72 : decode cX11_free 72 = .ok (.goto (-50), 3) := by decide +kernel
theorem dX11_free_75 : decode cX11_free 75 = .ok (.iconst 0, 1) := by decide +kernel
theorem dX11_free_76 : decode cX11_free 76 = .ok (.istore_n 2, 1) := by decide +kernel
theorem dX11_free_77 : decode cX11_free 77 = .ok (.aload_n 0, 1) := by decide +kernel
theorem dX11_free_78 : decode cX11_free 78 = .ok (.getfield 40, 3) := by decide +kernel
theorem dX11_free_81 : decode cX11_free 81 = .ok (.iload_n 2, 1) := by decide +kernel
theorem dX11_free_82 : decode cX11_free 82 = .ok (.iaload, 1) := by decide +kernel
theorem dX11_free_83 : decode cX11_free 83 = .ok (.iconst 1, 1) := by decide +kernel
theorem dX11_free_84 : decode cX11_free 84 = .ok (.if_icmp .ne 9, 3) := by decide +kernel
theorem dX11_free_87 : decode cX11_free 87 = .ok (.iinc 2 1, 3) := by decide +kernel
theorem dX11_free_90 : decode cX11_free 90 = .ok (.goto (-13), 3) := by decide +kernel
theorem dX11_free_93 : decode cX11_free 93 = .ok (.iload_n 2, 1) := by decide +kernel
theorem dX11_free_94 : decode cX11_free 94 = .ok (.ireturn, 1) := by decide +kernel
set_option maxRecDepth 20000 in
theorem ggX11_at_X11_isRegister : GoodIn wsX11_at wsX11_isRegister := goodIn_r _ [7, 8, 9, 10, 6, 11] (by decide +kernel) (by decide +kernel)
set_option maxRecDepth 20000 in
theorem gX11_at_X11_isRegister : GoodIn wsX11_at (va_wsS RX11 96 yX11_isRegister wsX11_isRegister) := goodIn_app (goodIn_of _ (by decide +kernel)) ggX11_at_X11_isRegister
set_option maxRecDepth 20000 in
theorem ggX11_at_X11_in : GoodIn wsX11_at wsX11_in := goodIn_r _ [11] (by decide +kernel) (by decide +kernel)
set_option maxRecDepth 20000 in
theorem gX11_at_X11_in : GoodIn wsX11_at (va_wsS RX11 58 yX11_in wsX11_in) := goodIn_app (goodIn_of _ (by decide +kernel)) ggX11_at_X11_in
set_option maxRecDepth 20000 in
theorem ggX11_at_X11_lays : GoodIn wsX11_at wsX11_lays := goodIn_r _ [15, 16, 17, 2, 18, 19, 3, 20, 21, 22, 6, 23, 24, 25, 26, 27, 28, 29, 30, 31, 9, 10, 11, 32, 33, 34, 35, 36, 37, 38, 39, 40, 41, 42, 43, 44, 45, 46, 47, 48, 49, 50, 51, 52, 53, 54, 55, 56, 57, 58, 59, 60, 61] (by decide +kernel) (by decide +kernel)
set_option maxRecDepth 20000 in
theorem gX11_at_X11_lays : GoodIn wsX11_at (wsV RX11 125 RX11 yX11_lays wsX11_lays) := goodIn_app (goodIn_of _ (by decide +kernel)) ggX11_at_X11_lays
theorem dX11_at_0 : decode cX11_at 0 = .ok (.iload_n 1, 1) := by decide +kernel
theorem dX11_at_1 : decode cX11_at 1 = .ok (.invokestatic 96, 3) := by decide +kernel
theorem dX11_at_4 : decode cX11_at 4 = .ok (.ifCond .eq 15, 3) := by decide +kernel
theorem dX11_at_7 : decode cX11_at 7 = .ok (.iload_n 2, 1) := by decide +kernel
theorem dX11_at_8 : decode cX11_at 8 = .ok (.i2l, 1) := by decide +kernel
theorem dX11_at_9 : decode cX11_at 9 = .ok (.lconst 0, 1) := by decide +kernel
theorem dX11_at_10 : decode cX11_at 10 = .ok (.ldc2_w 123, 3) := by decide +kernel
theorem dX11_at_13 : decode cX11_at 13 = .ok (.invokestatic 58, 3) := by decide +kernel
theorem dX11_at_16 : decode cX11_at 16 = .ok (.ifCond .ne 5, 3) := by decide +kernel
theorem dX11_at_19 : decode cX11_at 19 = .ok (.iconst (-1), 1) := by decide +kernel
theorem dX11_at_20 : decode cX11_at 20 = .ok (.ireturn, 1) := by decide +kernel
theorem dX11_at_21 : decode cX11_at 21 = .ok (.aload_n 0, 1) := by decide +kernel
theorem dX11_at_22 : decode cX11_at 22 = .ok (.iload_n 1, 1) := by decide +kernel
theorem dX11_at_23 : decode cX11_at 23 = .ok (.invokevirtual 125, 3) := by decide +kernel
theorem dX11_at_26 : decode cX11_at 26 = .ok (.iload_n 2, 1) := by decide +kernel
theorem dX11_at_27 : decode cX11_at 27 = .ok (.aload_n 0, 1) := by decide +kernel
theorem dX11_at_28 : decode cX11_at 28 = .ok (.getfield 101, 3) := by decide +kernel
theorem dX11_at_31 : decode cX11_at 31 = .ok (.if_icmp .ge 12, 3) := by decide +kernel
theorem dX11_at_34 : decode cX11_at 34 = .ok (.aload_n 0, 1) := by decide +kernel
theorem dX11_at_35 : decode cX11_at 35 = .ok (.getfield 24, 3) := by decide +kernel
theorem dX11_at_38 : decode cX11_at 38 = .ok (.iload_n 2, 1) := by decide +kernel
theorem dX11_at_39 : decode cX11_at 39 = .ok (.iaload, 1) := by decide +kernel
theorem dX11_at_40 : decode cX11_at 40 = .ok (.goto 5, 3) := by decide +kernel
theorem dX11_at_43 : decode cX11_at 43 = .ok (.bipush (-4), 2) := by decide +kernel
theorem dX11_at_45 : decode cX11_at 45 = .ok (.ireturn, 1) := by decide +kernel
set_option maxRecDepth 20000 in
theorem ggX11_first_X11_isRegister : GoodIn wsX11_first wsX11_isRegister := goodIn_r _ [7, 8, 9, 10, 6, 11] (by decide +kernel) (by decide +kernel)
set_option maxRecDepth 20000 in
theorem gX11_first_X11_isRegister : GoodIn wsX11_first (va_wsS RX11 96 yX11_isRegister wsX11_isRegister) := goodIn_app (goodIn_of _ (by decide +kernel)) ggX11_first_X11_isRegister
set_option maxRecDepth 20000 in
theorem ggX11_first_X11_in : GoodIn wsX11_first wsX11_in := goodIn_r _ [11] (by decide +kernel) (by decide +kernel)
set_option maxRecDepth 20000 in
theorem gX11_first_X11_in : GoodIn wsX11_first (va_wsS RX11 58 yX11_in wsX11_in) := goodIn_app (goodIn_of _ (by decide +kernel)) ggX11_first_X11_in
set_option maxRecDepth 20000 in
theorem ggX11_first_X11_lays : GoodIn wsX11_first wsX11_lays := goodIn_r _ [15, 16, 17, 2, 18, 19, 3, 20, 21, 22, 6, 23, 24, 25, 26, 27, 28, 29, 30, 31, 9, 10, 11, 32, 33, 34, 35, 36, 37, 38, 39, 40, 41, 42, 43, 44, 45, 46, 47, 48, 49, 50, 51, 52, 53, 54, 55, 56, 57, 58, 59, 60, 61] (by decide +kernel) (by decide +kernel)
set_option maxRecDepth 20000 in
theorem gX11_first_X11_lays : GoodIn wsX11_first (wsV RX11 125 RX11 yX11_lays wsX11_lays) := goodIn_app (goodIn_of _ (by decide +kernel)) ggX11_first_X11_lays
theorem dX11_first_0 : decode cX11_first 0 = .ok (.iload_n 1, 1) := by decide +kernel
theorem dX11_first_1 : decode cX11_first 1 = .ok (.invokestatic 96, 3) := by decide +kernel
theorem dX11_first_4 : decode cX11_first 4 = .ok (.ifCond .eq 15, 3) := by decide +kernel
theorem dX11_first_7 : decode cX11_first 7 = .ok (.iload_n 2, 1) := by decide +kernel
theorem dX11_first_8 : decode cX11_first 8 = .ok (.i2l, 1) := by decide +kernel
theorem dX11_first_9 : decode cX11_first 9 = .ok (.lconst 0, 1) := by decide +kernel
theorem dX11_first_10 : decode cX11_first 10 = .ok (.ldc2_w 129, 3) := by decide +kernel
theorem dX11_first_13 : decode cX11_first 13 = .ok (.invokestatic 58, 3) := by decide +kernel
theorem dX11_first_16 : decode cX11_first 16 = .ok (.ifCond .ne 5, 3) := by decide +kernel
theorem dX11_first_19 : decode cX11_first 19 = .ok (.iconst (-1), 1) := by decide +kernel
theorem dX11_first_20 : decode cX11_first 20 = .ok (.ireturn, 1) := by decide +kernel
theorem dX11_first_21 : decode cX11_first 21 = .ok (.aload_n 0, 1) := by decide +kernel
theorem dX11_first_22 : decode cX11_first 22 = .ok (.iload_n 1, 1) := by decide +kernel
theorem dX11_first_23 : decode cX11_first 23 = .ok (.invokevirtual 125, 3) := by decide +kernel
theorem dX11_first_26 : decode cX11_first 26 = .ok (.iconst 0, 1) := by decide +kernel
theorem dX11_first_27 : decode cX11_first 27 = .ok (.istore_n 3, 1) := by decide +kernel
theorem dX11_first_28 : decode cX11_first 28 = .ok (.iload_n 3, 1) := by decide +kernel
theorem dX11_first_29 : decode cX11_first 29 = .ok (.aload_n 0, 1) := by decide +kernel
theorem dX11_first_30 : decode cX11_first 30 = .ok (.getfield 101, 3) := by decide +kernel
theorem dX11_first_33 : decode cX11_first 33 = .ok (.if_icmp .ge 21, 3) := by decide +kernel
theorem dX11_first_36 : decode cX11_first 36 = .ok (.aload_n 0, 1) := by decide +kernel
theorem dX11_first_37 : decode cX11_first 37 = .ok (.getfield 24, 3) := by decide +kernel
theorem dX11_first_40 : decode cX11_first 40 = .ok (.iload_n 3, 1) := by decide +kernel
theorem dX11_first_41 : decode cX11_first 41 = .ok (.iaload, 1) := by decide +kernel
theorem dX11_first_42 : decode cX11_first 42 = .ok (.iload_n 2, 1) := by decide +kernel
theorem dX11_first_43 : decode cX11_first 43 = .ok (.if_icmp .ne 5, 3) := by decide +kernel
theorem dX11_first_46 : decode cX11_first 46 = .ok (.iload_n 3, 1) := by decide +kernel
theorem dX11_first_47 : decode cX11_first 47 = .ok (.ireturn, 1) := by decide +kernel
theorem dX11_first_48 : decode cX11_first 48 = .ok (.iinc 3 1, 3) := by decide +kernel
theorem dX11_first_51 : decode cX11_first 51 = .ok (.goto (-23), 3) := by decide +kernel
theorem dX11_first_54 : decode cX11_first 54 = .ok (.bipush (-4), 2) := by decide +kernel
theorem dX11_first_56 : decode cX11_first 56 = .ok (.ireturn, 1) := by decide +kernel
set_option maxRecDepth 20000 in
theorem ggX11_often_X11_isRegister : GoodIn wsX11_often wsX11_isRegister := goodIn_r _ [8, 9, 10, 11, 7, 12] (by decide +kernel) (by decide +kernel)
set_option maxRecDepth 20000 in
theorem gX11_often_X11_isRegister : GoodIn wsX11_often (va_wsS RX11 96 yX11_isRegister wsX11_isRegister) := goodIn_app (goodIn_of _ (by decide +kernel)) ggX11_often_X11_isRegister
set_option maxRecDepth 20000 in
theorem ggX11_often_X11_in : GoodIn wsX11_often wsX11_in := goodIn_r _ [12] (by decide +kernel) (by decide +kernel)
set_option maxRecDepth 20000 in
theorem gX11_often_X11_in : GoodIn wsX11_often (va_wsS RX11 58 yX11_in wsX11_in) := goodIn_app (goodIn_of _ (by decide +kernel)) ggX11_often_X11_in
set_option maxRecDepth 20000 in
theorem ggX11_often_X11_lays : GoodIn wsX11_often wsX11_lays := goodIn_r _ [16, 17, 18, 3, 19, 20, 4, 21, 22, 23, 7, 24, 25, 26, 27, 28, 29, 30, 31, 32, 10, 11, 12, 33, 34, 35, 36, 37, 38, 39, 40, 41, 42, 43, 44, 45, 46, 47, 48, 49, 50, 51, 52, 53, 54, 55, 56, 57, 58, 59, 60, 61, 62] (by decide +kernel) (by decide +kernel)
set_option maxRecDepth 20000 in
theorem gX11_often_X11_lays : GoodIn wsX11_often (wsV RX11 125 RX11 yX11_lays wsX11_lays) := goodIn_app (goodIn_of _ (by decide +kernel)) ggX11_often_X11_lays
theorem dX11_often_0 : decode cX11_often 0 = .ok (.iload_n 1, 1) := by decide +kernel
theorem dX11_often_1 : decode cX11_often 1 = .ok (.invokestatic 96, 3) := by decide +kernel
theorem dX11_often_4 : decode cX11_often 4 = .ok (.ifCond .eq 27, 3) := by decide +kernel
theorem dX11_often_7 : decode cX11_often 7 = .ok (.iload_n 2, 1) := by decide +kernel
theorem dX11_often_8 : decode cX11_often 8 = .ok (.i2l, 1) := by decide +kernel
theorem dX11_often_9 : decode cX11_often 9 = .ok (.lconst 0, 1) := by decide +kernel
theorem dX11_often_10 : decode cX11_often 10 = .ok (.ldc2_w 129, 3) := by decide +kernel
theorem dX11_often_13 : decode cX11_often 13 = .ok (.invokestatic 58, 3) := by decide +kernel
theorem dX11_often_16 : decode cX11_often 16 = .ok (.ifCond .eq 15, 3) := by decide +kernel
theorem dX11_often_19 : decode cX11_often 19 = .ok (.iload_n 3, 1) := by decide +kernel
theorem dX11_often_20 : decode cX11_often 20 = .ok (.i2l, 1) := by decide +kernel
theorem dX11_often_21 : decode cX11_often 21 = .ok (.lconst 0, 1) := by decide +kernel
theorem dX11_often_22 : decode cX11_often 22 = .ok (.ldc2_w 131, 3) := by decide +kernel
theorem dX11_often_25 : decode cX11_often 25 = .ok (.invokestatic 58, 3) := by decide +kernel
theorem dX11_often_28 : decode cX11_often 28 = .ok (.ifCond .ne 5, 3) := by decide +kernel
theorem dX11_often_31 : decode cX11_often 31 = .ok (.iconst (-1), 1) := by decide +kernel
theorem dX11_often_32 : decode cX11_often 32 = .ok (.ireturn, 1) := by decide +kernel
theorem dX11_often_33 : decode cX11_often 33 = .ok (.aload_n 0, 1) := by decide +kernel
theorem dX11_often_34 : decode cX11_often 34 = .ok (.iload_n 1, 1) := by decide +kernel
theorem dX11_often_35 : decode cX11_often 35 = .ok (.invokevirtual 125, 3) := by decide +kernel
theorem dX11_often_38 : decode cX11_often 38 = .ok (.iconst 0, 1) := by decide +kernel
theorem dX11_often_39 : decode cX11_often 39 = .ok (.istore 4, 2) := by decide +kernel
theorem dX11_often_41 : decode cX11_often 41 = .ok (.iconst 0, 1) := by decide +kernel
theorem dX11_often_42 : decode cX11_often 42 = .ok (.istore 5, 2) := by decide +kernel
theorem dX11_often_44 : decode cX11_often 44 = .ok (.iload 5, 2) := by decide +kernel
theorem dX11_often_46 : decode cX11_often 46 = .ok (.aload_n 0, 1) := by decide +kernel
theorem dX11_often_47 : decode cX11_often 47 = .ok (.getfield 101, 3) := by decide +kernel
theorem dX11_often_50 : decode cX11_often 50 = .ok (.if_icmp .ge 36, 3) := by decide +kernel
theorem dX11_often_53 : decode cX11_often 53 = .ok (.iload 5, 2) := by decide +kernel
theorem dX11_often_55 : decode cX11_often 55 = .ok (.iload_n 3, 1) := by decide +kernel
theorem dX11_often_56 : decode cX11_often 56 = .ok (.if_icmp .ge 30, 3) := by decide +kernel
theorem dX11_often_59 : decode cX11_often 59 = .ok (.iload 4, 2) := by decide +kernel
theorem dX11_often_61 : decode cX11_often 61 = .ok (.aload_n 0, 1) := by decide +kernel
theorem dX11_often_62 : decode cX11_often 62 = .ok (.getfield 24, 3) := by decide +kernel
theorem dX11_often_65 : decode cX11_often 65 = .ok (.iload 5, 2) := by decide +kernel
theorem dX11_often_67 : decode cX11_often 67 = .ok (.iaload, 1) := by decide +kernel
theorem dX11_often_68 : decode cX11_often 68 = .ok (.iload_n 2, 1) := by decide +kernel
theorem dX11_often_69 : decode cX11_often 69 = .ok (.if_icmp .ne 7, 3) := by decide +kernel
theorem dX11_often_72 : decode cX11_often 72 = .ok (.iconst 1, 1) := by decide +kernel
theorem dX11_often_73 : decode cX11_often 73 = .ok (.goto 4, 3) := by decide +kernel
theorem dX11_often_76 : decode cX11_often 76 = .ok (.iconst 0, 1) := by decide +kernel
theorem dX11_often_77 : decode cX11_often 77 = .ok (.iadd, 1) := by decide +kernel
theorem dX11_often_78 : decode cX11_often 78 = .ok (.istore 4, 2) := by decide +kernel
theorem dX11_often_80 : decode cX11_often 80 = .ok (.iinc 5 1, 3) := by decide +kernel
theorem dX11_often_83 : decode cX11_often 83 = .ok (.goto (-39), 3) := by decide +kernel
theorem dX11_often_86 : decode cX11_often 86 = .ok (.iload 4, 2) := by decide +kernel
theorem dX11_often_88 : decode cX11_often 88 = .ok (.ireturn, 1) := by decide +kernel
set_option maxRecDepth 20000 in
theorem ggX11_run_X11_isRegister : GoodIn wsX11_run wsX11_isRegister := goodIn_r _ [7, 8, 9, 10, 6, 11] (by decide +kernel) (by decide +kernel)
set_option maxRecDepth 20000 in
theorem gX11_run_X11_isRegister : GoodIn wsX11_run (va_wsS RX11 96 yX11_isRegister wsX11_isRegister) := goodIn_app (goodIn_of _ (by decide +kernel)) ggX11_run_X11_isRegister
set_option maxRecDepth 20000 in
theorem ggX11_run_X11_in : GoodIn wsX11_run wsX11_in := goodIn_r _ [11] (by decide +kernel) (by decide +kernel)
set_option maxRecDepth 20000 in
theorem gX11_run_X11_in : GoodIn wsX11_run (va_wsS RX11 58 yX11_in wsX11_in) := goodIn_app (goodIn_of _ (by decide +kernel)) ggX11_run_X11_in
set_option maxRecDepth 20000 in
theorem ggX11_run_X11_lays : GoodIn wsX11_run wsX11_lays := goodIn_r _ [15, 16, 17, 2, 18, 19, 3, 20, 21, 22, 6, 23, 24, 25, 26, 27, 28, 29, 30, 31, 9, 10, 11, 32, 33, 34, 35, 36, 37, 38, 39, 40, 41, 42, 43, 44, 45, 46, 47, 48, 49, 50, 51, 52, 53, 54, 55, 56, 57, 58, 59, 60, 61] (by decide +kernel) (by decide +kernel)
set_option maxRecDepth 20000 in
theorem gX11_run_X11_lays : GoodIn wsX11_run (wsV RX11 125 RX11 yX11_lays wsX11_lays) := goodIn_app (goodIn_of _ (by decide +kernel)) ggX11_run_X11_lays
theorem dX11_run_0 : decode cX11_run 0 = .ok (.iload_n 1, 1) := by decide +kernel
theorem dX11_run_1 : decode cX11_run 1 = .ok (.invokestatic 96, 3) := by decide +kernel
theorem dX11_run_4 : decode cX11_run 4 = .ok (.ifCond .eq 19, 3) := by decide +kernel
theorem dX11_run_7 : decode cX11_run 7 = .ok (.iload_n 2, 1) := by decide +kernel
theorem dX11_run_8 : decode cX11_run 8 = .ok (.ifCond .lt 15, 3) := by decide +kernel
theorem dX11_run_11 : decode cX11_run 11 = .ok (.iload_n 3, 1) := by decide +kernel
theorem dX11_run_12 : decode cX11_run 12 = .ok (.i2l, 1) := by decide +kernel
theorem dX11_run_13 : decode cX11_run 13 = .ok (.lconst 0, 1) := by decide +kernel
theorem dX11_run_14 : decode cX11_run 14 = .ok (.ldc2_w 72, 3) := by decide +kernel
theorem dX11_run_17 : decode cX11_run 17 = .ok (.invokestatic 58, 3) := by decide +kernel
theorem dX11_run_20 : decode cX11_run 20 = .ok (.ifCond .ne 5, 3) := by decide +kernel
theorem dX11_run_23 : decode cX11_run 23 = .ok (.iconst (-1), 1) := by decide +kernel
theorem dX11_run_24 : decode cX11_run 24 = .ok (.ireturn, 1) := by decide +kernel
theorem dX11_run_25 : decode cX11_run 25 = .ok (.aload_n 0, 1) := by decide +kernel
theorem dX11_run_26 : decode cX11_run 26 = .ok (.iload_n 1, 1) := by decide +kernel
theorem dX11_run_27 : decode cX11_run 27 = .ok (.invokevirtual 125, 3) := by decide +kernel
theorem dX11_run_30 : decode cX11_run 30 = .ok (.iconst 0, 1) := by decide +kernel
theorem dX11_run_31 : decode cX11_run 31 = .ok (.istore 4, 2) := by decide +kernel
theorem dX11_run_33 : decode cX11_run 33 = .ok (.iconst 0, 1) := by decide +kernel
theorem dX11_run_34 : decode cX11_run 34 = .ok (.istore 5, 2) := by decide +kernel
theorem dX11_run_36 : decode cX11_run 36 = .ok (.iload 4, 2) := by decide +kernel
theorem dX11_run_38 : decode cX11_run 38 = .ok (.aload_n 0, 1) := by decide +kernel
theorem dX11_run_39 : decode cX11_run 39 = .ok (.getfield 101, 3) := by decide +kernel
theorem dX11_run_42 : decode cX11_run 42 = .ok (.if_icmp .ge 85, 3) := by decide +kernel
theorem dX11_run_45 : decode cX11_run 45 = .ok (.iload 4, 2) := by decide +kernel
theorem dX11_run_47 : decode cX11_run 47 = .ok (.istore 6, 2) := by decide +kernel
theorem dX11_run_49 : decode cX11_run 49 = .ok (.iload 6, 2) := by decide +kernel
theorem dX11_run_51 : decode cX11_run 51 = .ok (.aload_n 0, 1) := by decide +kernel
theorem dX11_run_52 : decode cX11_run 52 = .ok (.getfield 101, 3) := by decide +kernel
theorem dX11_run_55 : decode cX11_run 55 = .ok (.if_icmp .ge 26, 3) := by decide +kernel
theorem dX11_run_58 : decode cX11_run 58 = .ok (.aload_n 0, 1) := by decide +kernel
theorem dX11_run_59 : decode cX11_run 59 = .ok (.getfield 24, 3) := by decide +kernel
theorem dX11_run_62 : decode cX11_run 62 = .ok (.iload 6, 2) := by decide +kernel
theorem dX11_run_64 : decode cX11_run 64 = .ok (.iaload, 1) := by decide +kernel
theorem dX11_run_65 : decode cX11_run 65 = .ok (.aload_n 0, 1) := by decide +kernel
theorem dX11_run_66 : decode cX11_run 66 = .ok (.getfield 24, 3) := by decide +kernel
theorem dX11_run_69 : decode cX11_run 69 = .ok (.iload 4, 2) := by decide +kernel
theorem dX11_run_71 : decode cX11_run 71 = .ok (.iaload, 1) := by decide +kernel
theorem dX11_run_72 : decode cX11_run 72 = .ok (.if_icmp .ne 9, 3) := by decide +kernel
theorem dX11_run_75 : decode cX11_run 75 = .ok (.iinc 6 1, 3) := by decide +kernel
theorem dX11_run_78 : decode cX11_run 78 = .ok (.goto (-29), 3) := by decide +kernel
theorem dX11_run_81 : decode cX11_run 81 = .ok (.iload 5, 2) := by decide +kernel
theorem dX11_run_83 : decode cX11_run 83 = .ok (.iload_n 2, 1) := by decide +kernel
theorem dX11_run_84 : decode cX11_run 84 = .ok (.if_icmp .ne 33, 3) := by decide +kernel
theorem dX11_run_87 : decode cX11_run 87 = .ok (.iload_n 3, 1) := by decide +kernel
theorem dX11_run_88 : decode cX11_run 88 = .ok (.ifCond .ne 13, 3) := by decide +kernel
theorem dX11_run_91 : decode cX11_run 91 = .ok (.aload_n 0, 1) := by decide +kernel
theorem dX11_run_92 : decode cX11_run 92 = .ok (.getfield 24, 3) := by decide +kernel
theorem dX11_run_95 : decode cX11_run 95 = .ok (.iload 4, 2) := by decide +kernel
theorem dX11_run_97 : decode cX11_run 97 = .ok (.iaload, 1) := by decide +kernel
theorem dX11_run_98 : decode cX11_run 98 = .ok (.goto 18, 3) := by decide +kernel
theorem dX11_run_101 : decode cX11_run 101 = .ok (.iload_n 3, 1) := by decide +kernel
theorem dX11_run_102 : decode cX11_run 102 = .ok (.iconst 1, 1) := by decide +kernel
theorem dX11_run_103 : decode cX11_run 103 = .ok (.if_icmp .ne 11, 3) := by decide +kernel
theorem dX11_run_106 : decode cX11_run 106 = .ok (.iload 6, 2) := by decide +kernel
theorem dX11_run_108 : decode cX11_run 108 = .ok (.iload 4, 2) := by decide +kernel
theorem dX11_run_110 : decode cX11_run 110 = .ok (.isub, 1) := by decide +kernel
theorem dX11_run_111 : decode cX11_run 111 = .ok (.goto 5, 3) := by decide +kernel
theorem dX11_run_114 : decode cX11_run 114 = .ok (.iload 4, 2) := by decide +kernel
theorem dX11_run_116 : decode cX11_run 116 = .ok (.ireturn, 1) := by decide +kernel
theorem dX11_run_117 : decode cX11_run 117 = .ok (.iinc 5 1, 3) := by decide +kernel
theorem dX11_run_120 : decode cX11_run 120 = .ok (.iload 6, 2) := by decide +kernel
theorem dX11_run_122 : decode cX11_run 122 = .ok (.istore 4, 2) := by decide +kernel
theorem dX11_run_124 : decode cX11_run 124 = .ok (.goto (-88), 3) := by decide +kernel
theorem dX11_run_127 : decode cX11_run 127 = .ok (.bipush (-4), 2) := by decide +kernel
theorem dX11_run_129 : decode cX11_run 129 = .ok (.ireturn, 1) := by decide +kernel
set_option maxRecDepth 20000 in
theorem ggX11_most_X11_isRegister : GoodIn wsX11_most wsX11_isRegister := goodIn_r _ [8, 2, 9, 10, 7, 11] (by decide +kernel) (by decide +kernel)
set_option maxRecDepth 20000 in
theorem gX11_most_X11_isRegister : GoodIn wsX11_most (va_wsS RX11 96 yX11_isRegister wsX11_isRegister) := goodIn_app (goodIn_of _ (by decide +kernel)) ggX11_most_X11_isRegister
set_option maxRecDepth 20000 in
theorem ggX11_most_X11_in : GoodIn wsX11_most wsX11_in := goodIn_r _ [11] (by decide +kernel) (by decide +kernel)
set_option maxRecDepth 20000 in
theorem gX11_most_X11_in : GoodIn wsX11_most (va_wsS RX11 58 yX11_in wsX11_in) := goodIn_app (goodIn_of _ (by decide +kernel)) ggX11_most_X11_in
set_option maxRecDepth 20000 in
theorem ggX11_most_X11_lays : GoodIn wsX11_most wsX11_lays := goodIn_r _ [15, 16, 17, 3, 18, 19, 4, 20, 21, 22, 7, 23, 24, 25, 26, 27, 28, 29, 30, 31, 9, 10, 11, 32, 33, 34, 35, 36, 37, 38, 39, 40, 41, 42, 43, 44, 45, 46, 47, 48, 49, 50, 51, 52, 53, 54, 55, 56, 57, 58, 59, 60, 61] (by decide +kernel) (by decide +kernel)
set_option maxRecDepth 20000 in
theorem gX11_most_X11_lays : GoodIn wsX11_most (wsV RX11 125 RX11 yX11_lays wsX11_lays) := goodIn_app (goodIn_of _ (by decide +kernel)) ggX11_most_X11_lays
theorem dX11_most_0 : decode cX11_most 0 = .ok (.iload_n 1, 1) := by decide +kernel
theorem dX11_most_1 : decode cX11_most 1 = .ok (.invokestatic 96, 3) := by decide +kernel
theorem dX11_most_4 : decode cX11_most 4 = .ok (.ifCond .eq 27, 3) := by decide +kernel
theorem dX11_most_7 : decode cX11_most 7 = .ok (.iload_n 2, 1) := by decide +kernel
theorem dX11_most_8 : decode cX11_most 8 = .ok (.i2l, 1) := by decide +kernel
theorem dX11_most_9 : decode cX11_most 9 = .ok (.lconst 1, 1) := by decide +kernel
theorem dX11_most_10 : decode cX11_most 10 = .ok (.ldc2_w 131, 3) := by decide +kernel
theorem dX11_most_13 : decode cX11_most 13 = .ok (.invokestatic 58, 3) := by decide +kernel
theorem dX11_most_16 : decode cX11_most 16 = .ok (.ifCond .eq 15, 3) := by decide +kernel
theorem dX11_most_19 : decode cX11_most 19 = .ok (.iload_n 3, 1) := by decide +kernel
theorem dX11_most_20 : decode cX11_most 20 = .ok (.i2l, 1) := by decide +kernel
theorem dX11_most_21 : decode cX11_most 21 = .ok (.lconst 0, 1) := by decide +kernel
theorem dX11_most_22 : decode cX11_most 22 = .ok (.ldc2_w 82, 3) := by decide +kernel
theorem dX11_most_25 : decode cX11_most 25 = .ok (.invokestatic 58, 3) := by decide +kernel
theorem dX11_most_28 : decode cX11_most 28 = .ok (.ifCond .ne 5, 3) := by decide +kernel
theorem dX11_most_31 : decode cX11_most 31 = .ok (.iconst (-1), 1) := by decide +kernel
theorem dX11_most_32 : decode cX11_most 32 = .ok (.ireturn, 1) := by decide +kernel
theorem dX11_most_33 : decode cX11_most 33 = .ok (.aload_n 0, 1) := by decide +kernel
theorem dX11_most_34 : decode cX11_most 34 = .ok (.iload_n 1, 1) := by decide +kernel
theorem dX11_most_35 : decode cX11_most 35 = .ok (.invokevirtual 125, 3) := by decide +kernel
theorem dX11_most_38 : decode cX11_most 38 = .ok (.iconst 0, 1) := by decide +kernel
theorem dX11_most_39 : decode cX11_most 39 = .ok (.istore 4, 2) := by decide +kernel
theorem dX11_most_41 : decode cX11_most 41 = .ok (.iconst 0, 1) := by decide +kernel
theorem dX11_most_42 : decode cX11_most 42 = .ok (.istore 5, 2) := by decide +kernel
theorem dX11_most_44 : decode cX11_most 44 = .ok (.iconst 0, 1) := by decide +kernel
theorem dX11_most_45 : decode cX11_most 45 = .ok (.istore 6, 2) := by decide +kernel
theorem dX11_most_47 : decode cX11_most 47 = .ok (.iconst 0, 1) := by decide +kernel
theorem dX11_most_48 : decode cX11_most 48 = .ok (.istore 7, 2) := by decide +kernel
theorem dX11_most_50 : decode cX11_most 50 = .ok (.iconst 0, 1) := by decide +kernel
theorem dX11_most_51 : decode cX11_most 51 = .ok (.istore 8, 2) := by decide +kernel
theorem dX11_most_53 : decode cX11_most 53 = .ok (.iload 8, 2) := by decide +kernel
theorem dX11_most_55 : decode cX11_most 55 = .ok (.aload_n 0, 1) := by decide +kernel
theorem dX11_most_56 : decode cX11_most 56 = .ok (.getfield 101, 3) := by decide +kernel
theorem dX11_most_59 : decode cX11_most 59 = .ok (.if_icmp .ge 154, 3) := by decide +kernel
theorem dX11_most_62 : decode cX11_most 62 = .ok (.iload 8, 2) := by decide +kernel
theorem dX11_most_64 : decode cX11_most 64 = .ok (.iload_n 2, 1) := by decide +kernel
theorem dX11_most_65 : decode cX11_most 65 = .ok (.if_icmp .ge 148, 3) := by decide +kernel
theorem dX11_most_68 : decode cX11_most 68 = .ok (.aload_n 0, 1) := by decide +kernel
theorem dX11_most_69 : decode cX11_most 69 = .ok (.getfield 24, 3) := by decide +kernel
theorem dX11_most_72 : decode cX11_most 72 = .ok (.iload 8, 2) := by decide +kernel
theorem dX11_most_74 : decode cX11_most 74 = .ok (.iaload, 1) := by decide +kernel
theorem dX11_most_75 : decode cX11_most 75 = .ok (.aload_n 0, 1) := by decide +kernel
theorem dX11_most_76 : decode cX11_most 76 = .ok (.getfield 24, 3) := by decide +kernel
theorem dX11_most_79 : decode cX11_most 79 = .ok (.iload 4, 2) := by decide +kernel
theorem dX11_most_81 : decode cX11_most 81 = .ok (.iaload, 1) := by decide +kernel
theorem dX11_most_82 : decode cX11_most 82 = .ok (.if_icmp .le 8, 3) := by decide +kernel
theorem dX11_most_85 : decode cX11_most 85 = .ok (.iload 8, 2) := by decide +kernel
theorem dX11_most_87 : decode cX11_most 87 = .ok (.goto 5, 3) := by decide +kernel
theorem dX11_most_90 : decode cX11_most 90 = .ok (.iload 4, 2) := by decide +kernel
theorem dX11_most_92 : decode cX11_most 92 = .ok (.istore 4, 2) := by decide +kernel
theorem dX11_most_94 : decode cX11_most 94 = .ok (.iload 8, 2) := by decide +kernel
theorem dX11_most_96 : decode cX11_most 96 = .ok (.ifCond .le 29, 3) := by decide +kernel
theorem dX11_most_99 : decode cX11_most 99 = .ok (.aload_n 0, 1) := by decide +kernel
theorem dX11_most_100 : decode cX11_most 100 = .ok (.getfield 24, 3) := by decide +kernel
theorem dX11_most_103 : decode cX11_most 103 = .ok (.iload 8, 2) := by decide +kernel
theorem dX11_most_105 : decode cX11_most 105 = .ok (.iaload, 1) := by decide +kernel
theorem dX11_most_106 : decode cX11_most 106 = .ok (.aload_n 0, 1) := by decide +kernel
theorem dX11_most_107 : decode cX11_most 107 = .ok (.getfield 24, 3) := by decide +kernel
theorem dX11_most_110 : decode cX11_most 110 = .ok (.iload 8, 2) := by decide +kernel
theorem dX11_most_112 : decode cX11_most 112 = .ok (.iconst 1, 1) := by decide +kernel
theorem dX11_most_113 : decode cX11_most 113 = .ok (.isub, 1) := by decide +kernel
theorem dX11_most_114 : decode cX11_most 114 = .ok (.iaload, 1) := by decide +kernel
theorem dX11_most_115 : decode cX11_most 115 = .ok (.if_icmp .ne 10, 3) := by decide +kernel
theorem dX11_most_118 : decode cX11_most 118 = .ok (.iload 6, 2) := by decide +kernel
theorem dX11_most_120 : decode cX11_most 120 = .ok (.iconst 1, 1) := by decide +kernel
theorem dX11_most_121 : decode cX11_most 121 = .ok (.iadd, 1) := by decide +kernel
theorem dX11_most_122 : decode cX11_most 122 = .ok (.goto 4, 3) := by decide +kernel
theorem dX11_most_125 : decode cX11_most 125 = .ok (.iconst 1, 1) := by decide +kernel
theorem dX11_most_126 : decode cX11_most 126 = .ok (.istore 6, 2) := by decide +kernel
theorem dX11_most_128 : decode cX11_most 128 = .ok (.iload 6, 2) := by decide +kernel
theorem dX11_most_130 : decode cX11_most 130 = .ok (.iload 5, 2) := by decide +kernel
theorem dX11_most_132 : decode cX11_most 132 = .ok (.if_icmp .le 8, 3) := by decide +kernel
theorem dX11_most_135 : decode cX11_most 135 = .ok (.iload 6, 2) := by decide +kernel
theorem dX11_most_137 : decode cX11_most 137 = .ok (.goto 5, 3) := by decide +kernel
theorem dX11_most_140 : decode cX11_most 140 = .ok (.iload 5, 2) := by decide +kernel
theorem dX11_most_142 : decode cX11_most 142 = .ok (.istore 5, 2) := by decide +kernel
theorem dX11_most_144 : decode cX11_most 144 = .ok (.iconst 1, 1) := by decide +kernel
theorem dX11_most_145 : decode cX11_most 145 = .ok (.istore 9, 2) := by decide +kernel
theorem dX11_most_147 : decode cX11_most 147 = .ok (.iconst 0, 1) := by decide +kernel
theorem dX11_most_148 : decode cX11_most 148 = .ok (.istore 10, 2) := by decide +kernel
theorem dX11_most_150 : decode cX11_most 150 = .ok (.iload 10, 2) := by decide +kernel
theorem dX11_most_152 : decode cX11_most 152 = .ok (.iload 8, 2) := by decide +kernel
theorem dX11_most_154 : decode cX11_most 154 = .ok (.if_icmp .ge 38, 3) := by decide +kernel
theorem dX11_most_157 : decode cX11_most 157 = .ok (.iload 9, 2) := by decide +kernel
theorem dX11_most_159 : decode cX11_most 159 = .ok (.ifCond .eq 33, 3) := by decide +kernel
theorem dX11_most_162 : decode cX11_most 162 = .ok (.aload_n 0, 1) := by decide +kernel
theorem dX11_most_163 : decode cX11_most 163 = .ok (.getfield 24, 3) := by decide +kernel
theorem dX11_most_166 : decode cX11_most 166 = .ok (.iload 10, 2) := by decide +kernel
theorem dX11_most_168 : decode cX11_most 168 = .ok (.iaload, 1) := by decide +kernel
theorem dX11_most_169 : decode cX11_most 169 = .ok (.aload_n 0, 1) := by decide +kernel
theorem dX11_most_170 : decode cX11_most 170 = .ok (.getfield 24, 3) := by decide +kernel
theorem dX11_most_173 : decode cX11_most 173 = .ok (.iload 8, 2) := by decide +kernel
theorem dX11_most_175 : decode cX11_most 175 = .ok (.iaload, 1) := by decide +kernel
theorem dX11_most_176 : decode cX11_most 176 = .ok (.if_icmp .eq 7, 3) := by decide +kernel
theorem dX11_most_179 : decode cX11_most 179 = .ok (.iconst 1, 1) := by decide +kernel
theorem dX11_most_180 : decode cX11_most 180 = .ok (.goto 4, 3) := by decide +kernel
theorem dX11_most_183 : decode cX11_most 183 = .ok (.iconst 0, 1) := by decide +kernel
theorem dX11_most_184 : decode cX11_most 184 = .ok (.istore 9, 2) := by decide +kernel
theorem dX11_most_186 : decode cX11_most 186 = .ok (.iinc 10 1, 3) := by decide +kernel
theorem dX11_most_189 : decode cX11_most 189 = .ok (.goto (-39), 3) := by decide +kernel
theorem dX11_most_192 : decode cX11_most 192 = .ok (.iload 7, 2) := by decide +kernel
theorem dX11_most_194 : decode cX11_most 194 = .ok (.iload 9, 2) := by decide +kernel
theorem dX11_most_196 : decode cX11_most 196 = .ok (.ifCond .eq 7, 3) := by decide +kernel
theorem dX11_most_199 : decode cX11_most 199 = .ok (.iconst 1, 1) := by decide +kernel
theorem dX11_most_200 : decode cX11_most 200 = .ok (.goto 4, 3) := by decide +kernel
theorem dX11_most_203 : decode cX11_most 203 = .ok (.iconst 0, 1) := by decide +kernel
theorem dX11_most_204 : decode cX11_most 204 = .ok (.iadd, 1) := by decide +kernel
theorem dX11_most_205 : decode cX11_most 205 = .ok (.istore 7, 2) := by decide +kernel
theorem dX11_most_207 : decode cX11_most 207 = .ok (.iinc 8 1, 3) := by decide +kernel
theorem dX11_most_210 : decode cX11_most 210 = .ok (.goto (-157), 3) := by decide +kernel
theorem dX11_most_213 : decode cX11_most 213 = .ok (.iload_n 3, 1) := by decide +kernel
theorem dX11_most_214 : decode cX11_most 214 = .ok (.ifCond .ne 13, 3) := by decide +kernel
theorem dX11_most_217 : decode cX11_most 217 = .ok (.aload_n 0, 1) := by decide +kernel
theorem dX11_most_218 : decode cX11_most 218 = .ok (.getfield 24, 3) := by decide +kernel
theorem dX11_most_221 : decode cX11_most 221 = .ok (.iload 4, 2) := by decide +kernel
theorem dX11_most_223 : decode cX11_most 223 = .ok (.iaload, 1) := by decide +kernel
theorem dX11_most_224 : decode cX11_most 224 = .ok (.goto 25, 3) := by decide +kernel
theorem dX11_most_227 : decode cX11_most 227 = .ok (.iload_n 3, 1) := by decide +kernel
theorem dX11_most_228 : decode cX11_most 228 = .ok (.iconst 1, 1) := by decide +kernel
theorem dX11_most_229 : decode cX11_most 229 = .ok (.if_icmp .ne 8, 3) := by decide +kernel
theorem dX11_most_232 : decode cX11_most 232 = .ok (.iload 4, 2) := by decide +kernel
theorem dX11_most_234 : decode cX11_most 234 = .ok (.goto 15, 3) := by decide +kernel
theorem dX11_most_237 : decode cX11_most 237 = .ok (.iload_n 3, 1) := by decide +kernel
theorem dX11_most_238 : decode cX11_most 238 = .ok (.iconst 2, 1) := by decide +kernel
theorem dX11_most_239 : decode cX11_most 239 = .ok (.if_icmp .ne 8, 3) := by decide +kernel
theorem dX11_most_242 : decode cX11_most 242 = .ok (.iload 5, 2) := by decide +kernel
theorem dX11_most_244 : decode cX11_most 244 = .ok (.goto 5, 3) := by decide +kernel
theorem dX11_most_247 : decode cX11_most 247 = .ok (.iload 7, 2) := by decide +kernel
theorem dX11_most_249 : decode cX11_most 249 = .ok (.ireturn, 1) := by decide +kernel
set_option maxRecDepth 20000 in
theorem ggX11_around_X11_isRegister : GoodIn wsX11_around wsX11_isRegister := goodIn_r _ [6, 7, 8, 9, 5, 10] (by decide +kernel) (by decide +kernel)
set_option maxRecDepth 20000 in
theorem gX11_around_X11_isRegister : GoodIn wsX11_around (va_wsS RX11 96 yX11_isRegister wsX11_isRegister) := goodIn_app (goodIn_of _ (by decide +kernel)) ggX11_around_X11_isRegister
set_option maxRecDepth 20000 in
theorem ggX11_around_X11_in : GoodIn wsX11_around wsX11_in := goodIn_r _ [10] (by decide +kernel) (by decide +kernel)
set_option maxRecDepth 20000 in
theorem gX11_around_X11_in : GoodIn wsX11_around (va_wsS RX11 58 yX11_in wsX11_in) := goodIn_app (goodIn_of _ (by decide +kernel)) ggX11_around_X11_in
set_option maxRecDepth 20000 in
theorem ggX11_around_X11_lays : GoodIn wsX11_around wsX11_lays := goodIn_r _ [14, 15, 16, 1, 17, 18, 2, 19, 20, 21, 5, 22, 23, 24, 25, 26, 27, 28, 29, 30, 8, 9, 10, 31, 32, 33, 34, 35, 36, 37, 38, 39, 40, 41, 42, 43, 44, 45, 46, 47, 48, 49, 50, 51, 52, 53, 54, 55, 56, 57, 58, 59, 60] (by decide +kernel) (by decide +kernel)
set_option maxRecDepth 20000 in
theorem gX11_around_X11_lays : GoodIn wsX11_around (wsV RX11 125 RX11 yX11_lays wsX11_lays) := goodIn_app (goodIn_of _ (by decide +kernel)) ggX11_around_X11_lays
theorem dX11_around_0 : decode cX11_around 0 = .ok (.iload_n 1, 1) := by decide +kernel
theorem dX11_around_1 : decode cX11_around 1 = .ok (.invokestatic 96, 3) := by decide +kernel
theorem dX11_around_4 : decode cX11_around 4 = .ok (.ifCond .eq 13, 3) := by decide +kernel
theorem dX11_around_7 : decode cX11_around 7 = .ok (.iload_n 2, 1) := by decide +kernel
theorem dX11_around_8 : decode cX11_around 8 = .ok (.i2l, 1) := by decide +kernel
theorem dX11_around_9 : decode cX11_around 9 = .ok (.lconst 0, 1) := by decide +kernel
theorem dX11_around_10 : decode cX11_around 10 = .ok (.lconst 1, 1) := by decide +kernel
theorem dX11_around_11 : decode cX11_around 11 = .ok (.invokestatic 58, 3) := by decide +kernel
theorem dX11_around_14 : decode cX11_around 14 = .ok (.ifCond .ne 5, 3) := by decide +kernel
theorem dX11_around_17 : decode cX11_around 17 = .ok (.iconst (-1), 1) := by decide +kernel
theorem dX11_around_18 : decode cX11_around 18 = .ok (.ireturn, 1) := by decide +kernel
theorem dX11_around_19 : decode cX11_around 19 = .ok (.aload_n 0, 1) := by decide +kernel
theorem dX11_around_20 : decode cX11_around 20 = .ok (.iload_n 1, 1) := by decide +kernel
theorem dX11_around_21 : decode cX11_around 21 = .ok (.invokevirtual 125, 3) := by decide +kernel
theorem dX11_around_24 : decode cX11_around 24 = .ok (.iconst 1, 1) := by decide +kernel
theorem dX11_around_25 : decode cX11_around 25 = .ok (.istore_n 3, 1) := by decide +kernel
theorem dX11_around_26 : decode cX11_around 26 = .ok (.iload_n 3, 1) := by decide +kernel
theorem dX11_around_27 : decode cX11_around 27 = .ok (.sipush 600, 3) := by decide +kernel
theorem dX11_around_30 : decode cX11_around 30 = .ok (.if_icmp .gt 80, 3) := by decide +kernel
theorem dX11_around_33 : decode cX11_around 33 = .ok (.aload_n 0, 1) := by decide +kernel
theorem dX11_around_34 : decode cX11_around 34 = .ok (.getfield 101, 3) := by decide +kernel
theorem dX11_around_37 : decode cX11_around 37 = .ok (.iload_n 3, 1) := by decide +kernel
theorem dX11_around_38 : decode cX11_around 38 = .ok (.isub, 1) := by decide +kernel
theorem dX11_around_39 : decode cX11_around 39 = .ok (.istore 4, 2) := by decide +kernel
theorem dX11_around_41 : decode cX11_around 41 = .ok (.iload 4, 2) := by decide +kernel
theorem dX11_around_43 : decode cX11_around 43 = .ok (.ifCond .le 32, 3) := by decide +kernel
theorem dX11_around_46 : decode cX11_around 46 = .ok (.aload_n 0, 1) := by decide +kernel
theorem dX11_around_47 : decode cX11_around 47 = .ok (.getfield 24, 3) := by decide +kernel
theorem dX11_around_50 : decode cX11_around 50 = .ok (.iload 4, 2) := by decide +kernel
theorem dX11_around_52 : decode cX11_around 52 = .ok (.iconst 1, 1) := by decide +kernel
theorem dX11_around_53 : decode cX11_around 53 = .ok (.isub, 1) := by decide +kernel
theorem dX11_around_54 : decode cX11_around 54 = .ok (.iaload, 1) := by decide +kernel
theorem dX11_around_55 : decode cX11_around 55 = .ok (.aload_n 0, 1) := by decide +kernel
theorem dX11_around_56 : decode cX11_around 56 = .ok (.getfield 24, 3) := by decide +kernel
theorem dX11_around_59 : decode cX11_around 59 = .ok (.iload 4, 2) := by decide +kernel
theorem dX11_around_61 : decode cX11_around 61 = .ok (.iconst 1, 1) := by decide +kernel
theorem dX11_around_62 : decode cX11_around 62 = .ok (.isub, 1) := by decide +kernel
theorem dX11_around_63 : decode cX11_around 63 = .ok (.iload_n 3, 1) := by decide +kernel
theorem dX11_around_64 : decode cX11_around 64 = .ok (.iadd, 1) := by decide +kernel
theorem dX11_around_65 : decode cX11_around 65 = .ok (.iaload, 1) := by decide +kernel
theorem dX11_around_66 : decode cX11_around 66 = .ok (.if_icmp .ne 9, 3) := by decide +kernel
theorem dX11_around_69 : decode cX11_around 69 = .ok (.iinc 4 (-1), 3) := by decide +kernel
theorem dX11_around_72 : decode cX11_around 72 = .ok (.goto (-31), 3) := by decide +kernel
theorem dX11_around_75 : decode cX11_around 75 = .ok (.iload 4, 2) := by decide +kernel
theorem dX11_around_77 : decode cX11_around 77 = .ok (.ifCond .lt 27, 3) := by decide +kernel
theorem dX11_around_80 : decode cX11_around 80 = .ok (.aload_n 0, 1) := by decide +kernel
theorem dX11_around_81 : decode cX11_around 81 = .ok (.getfield 101, 3) := by decide +kernel
theorem dX11_around_84 : decode cX11_around 84 = .ok (.iload 4, 2) := by decide +kernel
theorem dX11_around_86 : decode cX11_around 86 = .ok (.isub, 1) := by decide +kernel
theorem dX11_around_87 : decode cX11_around 87 = .ok (.iconst 3, 1) := by decide +kernel
theorem dX11_around_88 : decode cX11_around 88 = .ok (.iload_n 3, 1) := by decide +kernel
theorem dX11_around_89 : decode cX11_around 89 = .ok (.imul, 1) := by decide +kernel
theorem dX11_around_90 : decode cX11_around 90 = .ok (.if_icmp .lt 14, 3) := by decide +kernel
theorem dX11_around_93 : decode cX11_around 93 = .ok (.iload_n 2, 1) := by decide +kernel
theorem dX11_around_94 : decode cX11_around 94 = .ok (.ifCond .ne 7, 3) := by decide +kernel
theorem dX11_around_97 : decode cX11_around 97 = .ok (.iload_n 3, 1) := by decide +kernel
theorem dX11_around_98 : decode cX11_around 98 = .ok (.goto 5, 3) := by decide +kernel
theorem dX11_around_101 : decode cX11_around 101 = .ok (.iload 4, 2) := by decide +kernel
theorem dX11_around_103 : decode cX11_around 103 = .ok (.ireturn, 1) := by decide +kernel
theorem dX11_around_104 : decode cX11_around 104 = .ok (.iinc 3 1, 3) := by decide +kernel
theorem dX11_around_107 : decode cX11_around 107 = .ok (.goto (-81), 3) := by decide +kernel
theorem dX11_around_110 : decode cX11_around 110 = .ok (.bipush (-4), 2) := by decide +kernel
theorem dX11_around_112 : decode cX11_around 112 = .ok (.ireturn, 1) := by decide +kernel
set_option maxRecDepth 20000 in
theorem ggX11_number_X11_in : GoodIn wsX11_number wsX11_in := goodIn_r _ [7] (by decide +kernel) (by decide +kernel)
set_option maxRecDepth 20000 in
theorem gX11_number_X11_in : GoodIn wsX11_number (va_wsS RX11 58 yX11_in wsX11_in) := goodIn_app (goodIn_of _ (by decide +kernel)) ggX11_number_X11_in
theorem dX11_number_0 : decode cX11_number 0 = .ok (.iload_n 1, 1) := by decide +kernel
theorem dX11_number_1 : decode cX11_number 1 = .ok (.i2l, 1) := by decide +kernel
theorem dX11_number_2 : decode cX11_number 2 = .ok (.lconst 0, 1) := by decide +kernel
theorem dX11_number_3 : decode cX11_number 3 = .ok (.ldc2_w 129, 3) := by decide +kernel
theorem dX11_number_6 : decode cX11_number 6 = .ok (.invokestatic 58, 3) := by decide +kernel
theorem dX11_number_9 : decode cX11_number 9 = .ok (.ifCond .ne 5, 3) := by decide +kernel
theorem dX11_number_12 : decode cX11_number 12 = .ok (.iconst (-1), 1) := by decide +kernel
theorem dX11_number_13 : decode cX11_number 13 = .ok (.ireturn, 1) := by decide +kernel
theorem dX11_number_14 : decode cX11_number 14 = .ok (.aload_n 0, 1) := by decide +kernel
theorem dX11_number_15 : decode cX11_number 15 = .ok (.getfield 133, 3) := by decide +kernel
theorem dX11_number_18 : decode cX11_number 18 = .ok (.bipush 40, 2) := by decide +kernel
theorem dX11_number_20 : decode cX11_number 20 = .ok (.if_icmp .ne 6, 3) := by decide +kernel
theorem dX11_number_23 : decode cX11_number 23 = .ok (.bipush (-3), 2) := by decide +kernel
theorem dX11_number_25 : decode cX11_number 25 = .ok (.ireturn, 1) := by decide +kernel
theorem dX11_number_26 : decode cX11_number 26 = .ok (.aload_n 0, 1) := by decide +kernel
theorem dX11_number_27 : decode cX11_number 27 = .ok (.getfield 31, 3) := by decide +kernel
theorem dX11_number_30 : decode cX11_number 30 = .ok (.aload_n 0, 1) := by decide +kernel
theorem dX11_number_31 : decode cX11_number 31 = .ok (.getfield 133, 3) := by decide +kernel
theorem dX11_number_34 : decode cX11_number 34 = .ok (.iload_n 1, 1) := by decide +kernel
theorem dX11_number_35 : decode cX11_number 35 = .ok (.iastore, 1) := by decide +kernel
theorem dX11_number_36 : decode cX11_number 36 = .ok (.aload_n 0, 1) := by decide +kernel
theorem dX11_number_37 : decode cX11_number 37 = .ok (.dup, 1) := by decide +kernel
theorem dX11_number_38 : decode cX11_number 38 = .ok (.getfield 133, 3) := by decide +kernel
theorem dX11_number_41 : decode cX11_number 41 = .ok (.iconst 1, 1) := by decide +kernel
theorem dX11_number_42 : decode cX11_number 42 = .ok (.iadd, 1) := by decide +kernel
theorem dX11_number_43 : decode cX11_number 43 = .ok (.putfield 133, 3) := by decide +kernel
theorem dX11_number_46 : decode cX11_number 46 = .ok (.aload_n 0, 1) := by decide +kernel
theorem dX11_number_47 : decode cX11_number 47 = .ok (.getfield 133, 3) := by decide +kernel
theorem dX11_number_50 : decode cX11_number 50 = .ok (.ireturn, 1) := by decide +kernel
theorem dX11_noNumbers_0 : decode cX11_noNumbers 0 = .ok (.aload_n 0, 1) := by decide +kernel
theorem dX11_noNumbers_1 : decode cX11_noNumbers 1 = .ok (.getfield 133, 3) := by decide +kernel
theorem dX11_noNumbers_4 : decode cX11_noNumbers 4 = .ok (.istore_n 1, 1) := by decide +kernel
theorem dX11_noNumbers_5 : decode cX11_noNumbers 5 = .ok (.aload_n 0, 1) := by decide +kernel
theorem dX11_noNumbers_6 : decode cX11_noNumbers 6 = .ok (.iconst 0, 1) := by decide +kernel
theorem dX11_noNumbers_7 : decode cX11_noNumbers 7 = .ok (.putfield 133, 3) := by decide +kernel
theorem dX11_noNumbers_10 : decode cX11_noNumbers 10 = .ok (.iload_n 1, 1) := by decide +kernel
theorem dX11_noNumbers_11 : decode cX11_noNumbers 11 = .ok (.ireturn, 1) := by decide +kernel
set_option maxRecDepth 20000 in
theorem ggX11_breaksAt_X11_lays : GoodIn wsX11_breaksAt wsX11_lays := goodIn_r _ [9, 10, 11, 2, 12, 13, 3, 14, 15, 16, 8, 17, 18, 19, 20, 21, 22, 23, 24, 25, 26, 27, 28, 29, 30, 31, 32, 33, 34, 35, 36, 37, 38, 39, 40, 41, 42, 43, 44, 45, 46, 47, 48, 49, 50, 51, 52, 53, 54, 55, 56, 57, 58] (by decide +kernel) (by decide +kernel)
set_option maxRecDepth 20000 in
theorem gX11_breaksAt_X11_lays : GoodIn wsX11_breaksAt (wsV RX11 125 RX11 yX11_lays wsX11_lays) := goodIn_app (goodIn_of _ (by decide +kernel)) ggX11_breaksAt_X11_lays
theorem dX11_breaksAt_0 : decode cX11_breaksAt 0 = .ok (.aload_n 0, 1) := by decide +kernel
theorem dX11_breaksAt_1 : decode cX11_breaksAt 1 = .ok (.iload_n 1, 1) := by decide +kernel
theorem dX11_breaksAt_2 : decode cX11_breaksAt 2 = .ok (.invokevirtual 125, 3) := by decide +kernel
theorem dX11_breaksAt_5 : decode cX11_breaksAt 5 = .ok (.iconst 0, 1) := by decide +kernel
theorem dX11_breaksAt_6 : decode cX11_breaksAt 6 = .ok (.istore_n 2, 1) := by decide +kernel
theorem dX11_breaksAt_7 : decode cX11_breaksAt 7 = .ok (.iload_n 2, 1) := by decide +kernel
theorem dX11_breaksAt_8 : decode cX11_breaksAt 8 = .ok (.aload_n 0, 1) := by decide +kernel
theorem dX11_breaksAt_9 : decode cX11_breaksAt 9 = .ok (.getfield 133, 3) := by decide +kernel
theorem dX11_breaksAt_12 : decode cX11_breaksAt 12 = .ok (.if_icmp .ge 34, 3) := by decide +kernel
theorem dX11_breaksAt_15 : decode cX11_breaksAt 15 = .ok (.iload_n 2, 1) := by decide +kernel
theorem dX11_breaksAt_16 : decode cX11_breaksAt 16 = .ok (.aload_n 0, 1) := by decide +kernel
theorem dX11_breaksAt_17 : decode cX11_breaksAt 17 = .ok (.getfield 101, 3) := by decide +kernel
theorem dX11_breaksAt_20 : decode cX11_breaksAt 20 = .ok (.if_icmp .ge 18, 3) := by decide +kernel
theorem dX11_breaksAt_23 : decode cX11_breaksAt 23 = .ok (.aload_n 0, 1) := by decide +kernel
theorem dX11_breaksAt_24 : decode cX11_breaksAt 24 = .ok (.getfield 24, 3) := by decide +kernel
theorem dX11_breaksAt_27 : decode cX11_breaksAt 27 = .ok (.iload_n 2, 1) := by decide +kernel
theorem dX11_breaksAt_28 : decode cX11_breaksAt 28 = .ok (.iaload, 1) := by decide +kernel
theorem dX11_breaksAt_29 : decode cX11_breaksAt 29 = .ok (.aload_n 0, 1) := by decide +kernel
theorem dX11_breaksAt_30 : decode cX11_breaksAt 30 = .ok (.getfield 31, 3) := by decide +kernel
theorem dX11_breaksAt_33 : decode cX11_breaksAt 33 = .ok (.iload_n 2, 1) := by decide +kernel
theorem dX11_breaksAt_34 : decode cX11_breaksAt 34 = .ok (.iaload, 1) := by decide +kernel
theorem dX11_breaksAt_35 : decode cX11_breaksAt 35 = .ok (.if_icmp .eq 5, 3) := by decide +kernel
theorem dX11_breaksAt_38 : decode cX11_breaksAt 38 = .ok (.iload_n 2, 1) := by decide +kernel
theorem dX11_breaksAt_39 : decode cX11_breaksAt 39 = .ok (.ireturn, 1) := by decide +kernel
theorem dX11_breaksAt_40 : decode cX11_breaksAt 40 = .ok (.iinc 2 1, 3) := by decide +kernel
theorem dX11_breaksAt_43 : decode cX11_breaksAt 43 = .ok (.goto (-36), 3) := by decide +kernel
theorem dX11_breaksAt_46 : decode cX11_breaksAt 46 = .ok (.bipush (-4), 2) := by decide +kernel
theorem dX11_breaksAt_48 : decode cX11_breaksAt 48 = .ok (.ireturn, 1) := by decide +kernel
set_option maxRecDepth 20000 in
theorem ggX11_breaks_X11_isRegister : GoodIn wsX11_breaks wsX11_isRegister := goodIn_r _ [4, 5, 6, 7, 3, 8] (by decide +kernel) (by decide +kernel)
set_option maxRecDepth 20000 in
theorem gX11_breaks_X11_isRegister : GoodIn wsX11_breaks (va_wsS RX11 96 yX11_isRegister wsX11_isRegister) := goodIn_app (goodIn_of _ (by decide +kernel)) ggX11_breaks_X11_isRegister
set_option maxRecDepth 20000 in
theorem ggX11_breaks_X11_breaksAt : GoodIn wsX11_breaks wsX11_breaksAt := goodIn_r _ [12, 13, 14, 15, 16, 17, 18, 19, 3, 20, 21, 22, 23, 24, 25, 26, 27, 28, 29, 30, 31, 32, 33, 34, 35, 36, 6, 7, 8, 37, 38, 39, 40, 41, 42, 43, 44, 45, 46, 47, 48, 49, 50, 51, 52, 53, 54, 55, 56, 57, 58, 59, 60, 61, 62, 63, 64, 65, 66] (by decide +kernel) (by decide +kernel)
set_option maxRecDepth 20000 in
theorem gX11_breaks_X11_breaksAt : GoodIn wsX11_breaks (wsV RX11 136 RX11 yX11_breaksAt wsX11_breaksAt) := goodIn_app (goodIn_of _ (by decide +kernel)) ggX11_breaks_X11_breaksAt
theorem dX11_breaks_0 : decode cX11_breaks 0 = .ok (.iload_n 1, 1) := by decide +kernel
theorem dX11_breaks_1 : decode cX11_breaks 1 = .ok (.invokestatic 96, 3) := by decide +kernel
theorem dX11_breaks_4 : decode cX11_breaks 4 = .ok (.ifCond .eq 11, 3) := by decide +kernel
theorem dX11_breaks_7 : decode cX11_breaks 7 = .ok (.aload_n 0, 1) := by decide +kernel
theorem dX11_breaks_8 : decode cX11_breaks 8 = .ok (.iload_n 1, 1) := by decide +kernel
theorem dX11_breaks_9 : decode cX11_breaks 9 = .ok (.invokevirtual 136, 3) := by decide +kernel
theorem dX11_breaks_12 : decode cX11_breaks 12 = .ok (.goto 4, 3) := by decide +kernel
theorem dX11_breaks_15 : decode cX11_breaks 15 = .ok (.iconst (-1), 1) := by decide +kernel
theorem dX11_breaks_16 : decode cX11_breaks 16 = .ok (.ireturn, 1) := by decide +kernel
set_option maxRecDepth 20000 in
theorem ggX11_may_X11_breaksAt : GoodIn wsX11_may wsX11_breaksAt := goodIn_r _ [5, 6, 7, 8, 9, 10, 11, 12, 4, 13, 14, 15, 16, 17, 18, 19, 20, 21, 22, 23, 24, 25, 26, 27, 28, 29, 30, 31, 32, 33, 34, 35, 36, 37, 38, 39, 40, 41, 42, 43, 44, 45, 46, 47, 48, 49, 50, 51, 52, 53, 54, 55, 56, 57, 58, 59, 60, 61, 62] (by decide +kernel) (by decide +kernel)
set_option maxRecDepth 20000 in
theorem gX11_may_X11_breaksAt : GoodIn wsX11_may (wsV RX11 136 RX11 yX11_breaksAt wsX11_breaksAt) := goodIn_app (goodIn_of _ (by decide +kernel)) ggX11_may_X11_breaksAt
theorem dX11_may_0 : decode cX11_may 0 = .ok (.iconst 0, 1) := by decide +kernel
theorem dX11_may_1 : decode cX11_may 1 = .ok (.istore_n 1, 1) := by decide +kernel
theorem dX11_may_2 : decode cX11_may 2 = .ok (.iconst 0, 1) := by decide +kernel
theorem dX11_may_3 : decode cX11_may 3 = .ok (.istore_n 2, 1) := by decide +kernel
theorem dX11_may_4 : decode cX11_may 4 = .ok (.iload_n 2, 1) := by decide +kernel
theorem dX11_may_5 : decode cX11_may 5 = .ok (.iconst 4, 1) := by decide +kernel
theorem dX11_may_6 : decode cX11_may 6 = .ok (.if_icmp .ge 29, 3) := by decide +kernel
theorem dX11_may_9 : decode cX11_may 9 = .ok (.iload_n 1, 1) := by decide +kernel
theorem dX11_may_10 : decode cX11_may 10 = .ok (.aload_n 0, 1) := by decide +kernel
theorem dX11_may_11 : decode cX11_may 11 = .ok (.iload_n 2, 1) := by decide +kernel
theorem dX11_may_12 : decode cX11_may 12 = .ok (.invokevirtual 136, 3) := by decide +kernel
theorem dX11_may_15 : decode cX11_may 15 = .ok (.bipush (-4), 2) := by decide +kernel
theorem dX11_may_17 : decode cX11_may 17 = .ok (.if_icmp .ne 9, 3) := by decide +kernel
theorem dX11_may_20 : decode cX11_may 20 = .ok (.iconst 1, 1) := by decide +kernel
theorem dX11_may_21 : decode cX11_may 21 = .ok (.iload_n 2, 1) := by decide +kernel
theorem dX11_may_22 : decode cX11_may 22 = .ok (.ishl, 1) := by decide +kernel
theorem dX11_may_23 : decode cX11_may 23 = .ok (.goto 4, 3) := by decide +kernel
theorem dX11_may_26 : decode cX11_may 26 = .ok (.iconst 0, 1) := by decide +kernel
theorem dX11_may_27 : decode cX11_may 27 = .ok (.ior, 1) := by decide +kernel
theorem dX11_may_28 : decode cX11_may 28 = .ok (.istore_n 1, 1) := by decide +kernel
theorem dX11_may_29 : decode cX11_may 29 = .ok (.iinc 2 1, 3) := by decide +kernel
theorem dX11_may_32 : decode cX11_may 32 = .ok (.goto (-28), 3) := by decide +kernel
theorem dX11_may_35 : decode cX11_may 35 = .ok (.iload_n 1, 1) := by decide +kernel
theorem dX11_may_36 : decode cX11_may 36 = .ok (.ireturn, 1) := by decide +kernel
set_option maxRecDepth 20000 in
theorem ggX11_figure_X11_in : GoodIn wsX11_figure wsX11_in := goodIn_r _ [7] (by decide +kernel) (by decide +kernel)
set_option maxRecDepth 20000 in
theorem gX11_figure_X11_in : GoodIn wsX11_figure (va_wsS RX11 58 yX11_in wsX11_in) := goodIn_app (goodIn_of _ (by decide +kernel)) ggX11_figure_X11_in
theorem dX11_figure_0 : decode cX11_figure 0 = .ok (.iload_n 1, 1) := by decide +kernel
theorem dX11_figure_1 : decode cX11_figure 1 = .ok (.i2l, 1) := by decide +kernel
theorem dX11_figure_2 : decode cX11_figure 2 = .ok (.lconst 1, 1) := by decide +kernel
theorem dX11_figure_3 : decode cX11_figure 3 = .ok (.ldc2_w 139, 3) := by decide +kernel
theorem dX11_figure_6 : decode cX11_figure 6 = .ok (.invokestatic 58, 3) := by decide +kernel
theorem dX11_figure_9 : decode cX11_figure 9 = .ok (.ifCond .ne 5, 3) := by decide +kernel
theorem dX11_figure_12 : decode cX11_figure 12 = .ok (.iconst (-1), 1) := by decide +kernel
theorem dX11_figure_13 : decode cX11_figure 13 = .ok (.ireturn, 1) := by decide +kernel
theorem dX11_figure_14 : decode cX11_figure 14 = .ok (.aload_n 0, 1) := by decide +kernel
theorem dX11_figure_15 : decode cX11_figure 15 = .ok (.getfield 141, 3) := by decide +kernel
theorem dX11_figure_18 : decode cX11_figure 18 = .ok (.bipush 40, 2) := by decide +kernel
theorem dX11_figure_20 : decode cX11_figure 20 = .ok (.if_icmp .ne 6, 3) := by decide +kernel
theorem dX11_figure_23 : decode cX11_figure 23 = .ok (.bipush (-3), 2) := by decide +kernel
theorem dX11_figure_25 : decode cX11_figure 25 = .ok (.ireturn, 1) := by decide +kernel
theorem dX11_figure_26 : decode cX11_figure 26 = .ok (.aload_n 0, 1) := by decide +kernel
theorem dX11_figure_27 : decode cX11_figure 27 = .ok (.getfield 34, 3) := by decide +kernel
theorem dX11_figure_30 : decode cX11_figure 30 = .ok (.aload_n 0, 1) := by decide +kernel
theorem dX11_figure_31 : decode cX11_figure 31 = .ok (.getfield 141, 3) := by decide +kernel
theorem dX11_figure_34 : decode cX11_figure 34 = .ok (.iload_n 1, 1) := by decide +kernel
theorem dX11_figure_35 : decode cX11_figure 35 = .ok (.iastore, 1) := by decide +kernel
theorem dX11_figure_36 : decode cX11_figure 36 = .ok (.aload_n 0, 1) := by decide +kernel
theorem dX11_figure_37 : decode cX11_figure 37 = .ok (.dup, 1) := by decide +kernel
theorem dX11_figure_38 : decode cX11_figure 38 = .ok (.getfield 141, 3) := by decide +kernel
theorem dX11_figure_41 : decode cX11_figure 41 = .ok (.iconst 1, 1) := by decide +kernel
theorem dX11_figure_42 : decode cX11_figure 42 = .ok (.iadd, 1) := by decide +kernel
theorem dX11_figure_43 : decode cX11_figure 43 = .ok (.putfield 141, 3) := by decide +kernel
theorem dX11_figure_46 : decode cX11_figure 46 = .ok (.aload_n 0, 1) := by decide +kernel
theorem dX11_figure_47 : decode cX11_figure 47 = .ok (.getfield 141, 3) := by decide +kernel
theorem dX11_figure_50 : decode cX11_figure 50 = .ok (.ireturn, 1) := by decide +kernel
theorem dX11_noFigures_0 : decode cX11_noFigures 0 = .ok (.aload_n 0, 1) := by decide +kernel
theorem dX11_noFigures_1 : decode cX11_noFigures 1 = .ok (.getfield 141, 3) := by decide +kernel
theorem dX11_noFigures_4 : decode cX11_noFigures 4 = .ok (.istore_n 1, 1) := by decide +kernel
theorem dX11_noFigures_5 : decode cX11_noFigures 5 = .ok (.aload_n 0, 1) := by decide +kernel
theorem dX11_noFigures_6 : decode cX11_noFigures 6 = .ok (.iconst 0, 1) := by decide +kernel
theorem dX11_noFigures_7 : decode cX11_noFigures 7 = .ok (.putfield 141, 3) := by decide +kernel
theorem dX11_noFigures_10 : decode cX11_noFigures 10 = .ok (.iload_n 1, 1) := by decide +kernel
theorem dX11_noFigures_11 : decode cX11_noFigures 11 = .ok (.ireturn, 1) := by decide +kernel
theorem dX11_begins_0 : decode cX11_begins 0 = .ok (.aload_n 0, 1) := by decide +kernel
theorem dX11_begins_1 : decode cX11_begins 1 = .ok (.aload_n 0, 1) := by decide +kernel
theorem dX11_begins_2 : decode cX11_begins 2 = .ok (.getfield 141, 3) := by decide +kernel
theorem dX11_begins_5 : decode cX11_begins 5 = .ok (.putfield 144, 3) := by decide +kernel
theorem dX11_begins_8 : decode cX11_begins 8 = .ok (.iconst 0, 1) := by decide +kernel
theorem dX11_begins_9 : decode cX11_begins 9 = .ok (.istore_n 1, 1) := by decide +kernel
theorem dX11_begins_10 : decode cX11_begins 10 = .ok (.iload_n 1, 1) := by decide +kernel
theorem dX11_begins_11 : decode cX11_begins 11 = .ok (.aload_n 0, 1) := by decide +kernel
theorem dX11_begins_12 : decode cX11_begins 12 = .ok (.getfield 141, 3) := by decide +kernel
theorem dX11_begins_15 : decode cX11_begins 15 = .ok (.if_icmp .ge 21, 3) := by decide +kernel
theorem dX11_begins_18 : decode cX11_begins 18 = .ok (.aload_n 0, 1) := by decide +kernel
theorem dX11_begins_19 : decode cX11_begins 19 = .ok (.getfield 37, 3) := by decide +kernel
theorem dX11_begins_22 : decode cX11_begins 22 = .ok (.iload_n 1, 1) := by decide +kernel
theorem dX11_begins_23 : decode cX11_begins 23 = .ok (.aload_n 0, 1) := by decide +kernel
theorem dX11_begins_24 : decode cX11_begins 24 = .ok (.getfield 34, 3) := by decide +kernel
theorem dX11_begins_27 : decode cX11_begins 27 = .ok (.iload_n 1, 1) := by decide +kernel
theorem dX11_begins_28 : decode cX11_begins 28 = .ok (.iaload, 1) := by decide +kernel
theorem dX11_begins_29 : decode cX11_begins 29 = .ok (.iastore, 1) := by decide +kernel
theorem dX11_begins_30 : decode cX11_begins 30 = .ok (.iinc 1 1, 3) := by decide +kernel
theorem dX11_begins_33 : decode cX11_begins 33 = .ok (.goto (-23), 3) := by decide +kernel
theorem dX11_begins_36 : decode cX11_begins 36 = .ok (.return_, 1) := by decide +kernel
theorem dX11_tells_0 : decode cX11_tells 0 = .ok (.iconst 0, 1) := by decide +kernel
theorem dX11_tells_1 : decode cX11_tells 1 = .ok (.istore_n 2, 1) := by decide +kernel
theorem dX11_tells_2 : decode cX11_tells 2 = .ok (.iload_n 1, 1) := by decide +kernel
theorem dX11_tells_3 : decode cX11_tells 3 = .ok (.ifCond .eq 96, 3) := by decide +kernel
theorem dX11_tells_6 : decode cX11_tells 6 = .ok (.iconst 1, 1) := by decide +kernel
theorem dX11_tells_7 : decode cX11_tells 7 = .ok (.istore_n 3, 1) := by decide +kernel
theorem dX11_tells_8 : decode cX11_tells 8 = .ok (.iload_n 3, 1) := by decide +kernel
theorem dX11_tells_9 : decode cX11_tells 9 = .ok (.bipush 10, 2) := by decide +kernel
theorem dX11_tells_11 : decode cX11_tells 11 = .ok (.if_icmp .ge 85, 3) := by decide +kernel
theorem dX11_tells_14 : decode cX11_tells 14 = .ok (.iconst 0, 1) := by decide +kernel
theorem dX11_tells_15 : decode cX11_tells 15 = .ok (.istore 4, 2) := by decide +kernel
theorem dX11_tells_17 : decode cX11_tells 17 = .ok (.iconst 0, 1) := by decide +kernel
theorem dX11_tells_18 : decode cX11_tells 18 = .ok (.istore 5, 2) := by decide +kernel
theorem dX11_tells_20 : decode cX11_tells 20 = .ok (.iload 5, 2) := by decide +kernel
theorem dX11_tells_22 : decode cX11_tells 22 = .ok (.aload_n 0, 1) := by decide +kernel
theorem dX11_tells_23 : decode cX11_tells 23 = .ok (.getfield 144, 3) := by decide +kernel
theorem dX11_tells_26 : decode cX11_tells 26 = .ok (.if_icmp .ge 30, 3) := by decide +kernel
theorem dX11_tells_29 : decode cX11_tells 29 = .ok (.iload 4, 2) := by decide +kernel
theorem dX11_tells_31 : decode cX11_tells 31 = .ok (.aload_n 0, 1) := by decide +kernel
theorem dX11_tells_32 : decode cX11_tells 32 = .ok (.getfield 37, 3) := by decide +kernel
theorem dX11_tells_35 : decode cX11_tells 35 = .ok (.iload 5, 2) := by decide +kernel
theorem dX11_tells_37 : decode cX11_tells 37 = .ok (.iaload, 1) := by decide +kernel
theorem dX11_tells_38 : decode cX11_tells 38 = .ok (.iload_n 3, 1) := by decide +kernel
theorem dX11_tells_39 : decode cX11_tells 39 = .ok (.if_icmp .ne 7, 3) := by decide +kernel
theorem dX11_tells_42 : decode cX11_tells 42 = .ok (.iconst 1, 1) := by decide +kernel
theorem dX11_tells_43 : decode cX11_tells 43 = .ok (.goto 4, 3) := by decide +kernel
theorem dX11_tells_46 : decode cX11_tells 46 = .ok (.iconst 0, 1) := by decide +kernel
theorem dX11_tells_47 : decode cX11_tells 47 = .ok (.iadd, 1) := by decide +kernel
theorem dX11_tells_48 : decode cX11_tells 48 = .ok (.istore 4, 2) := by decide +kernel
theorem dX11_tells_50 : decode cX11_tells 50 = .ok (.iinc 5 1, 3) := by decide +kernel
theorem dX11_tells_53 : decode cX11_tells 53 = .ok (.goto (-33), 3) := by decide +kernel
theorem dX11_tells_56 : decode cX11_tells 56 = .ok (.iload 4, 2) := by decide +kernel
theorem dX11_tells_58 : decode cX11_tells 58 = .ok (.bipush 9, 2) := by decide +kernel
theorem dX11_tells_60 : decode cX11_tells 60 = .ok (.if_icmp .le 5, 3) := by decide +kernel
theorem dX11_tells_63 : decode cX11_tells 63 = .ok (.iconst 0, 1) := by decide +kernel
theorem dX11_tells_64 : decode cX11_tells 64 = .ok (.ireturn, 1) := by decide +kernel
theorem dX11_tells_65 : decode cX11_tells 65 = .ok (.iload 4, 2) := by decide +kernel
theorem dX11_tells_67 : decode cX11_tells 67 = .ok (.ifCond .le 23, 3) := by decide +kernel
theorem dX11_tells_70 : decode cX11_tells 70 = .ok (.aload_n 0, 1) := by decide +kernel
theorem dX11_tells_71 : decode cX11_tells 71 = .ok (.getfield 40, 3) := by decide +kernel
theorem dX11_tells_74 : decode cX11_tells 74 = .ok (.iload_n 2, 1) := by decide +kernel
theorem dX11_tells_75 : decode cX11_tells 75 = .ok (.iload 4, 2) := by decide +kernel
theorem dX11_tells_77 : decode cX11_tells 77 = .ok (.iastore, 1) := by decide +kernel
theorem dX11_tells_78 : decode cX11_tells 78 = .ok (.aload_n 0, 1) := by decide +kernel
theorem dX11_tells_79 : decode cX11_tells 79 = .ok (.getfield 40, 3) := by decide +kernel
theorem dX11_tells_82 : decode cX11_tells 82 = .ok (.iload_n 2, 1) := by decide +kernel
theorem dX11_tells_83 : decode cX11_tells 83 = .ok (.iconst 1, 1) := by decide +kernel
theorem dX11_tells_84 : decode cX11_tells 84 = .ok (.iadd, 1) := by decide +kernel
theorem dX11_tells_85 : decode cX11_tells 85 = .ok (.iload_n 3, 1) := by decide +kernel
theorem dX11_tells_86 : decode cX11_tells 86 = .ok (.iastore, 1) := by decide +kernel
theorem dX11_tells_87 : decode cX11_tells 87 = .ok (.iinc 2 2, 3) := by decide +kernel
theorem dX11_tells_90 : decode cX11_tells 90 = .ok (.iinc 3 1, 3) := by decide +kernel
theorem dX11_tells_93 : decode cX11_tells 93 = .ok (.goto (-85), 3) := by decide +kernel
theorem dX11_tells_96 : decode cX11_tells 96 = .ok (.goto 100, 3) := by decide +kernel
theorem dX11_tells_99 : decode cX11_tells 99 = .ok (.iconst 0, 1) := by decide +kernel
theorem dX11_tells_100 : decode cX11_tells 100 = .ok (.istore_n 3, 1) := by decide +kernel
theorem dX11_tells_101 : decode cX11_tells 101 = .ok (.iload_n 3, 1) := by decide +kernel
theorem dX11_tells_102 : decode cX11_tells 102 = .ok (.aload_n 0, 1) := by decide +kernel
theorem dX11_tells_103 : decode cX11_tells 103 = .ok (.getfield 144, 3) := by decide +kernel
theorem dX11_tells_106 : decode cX11_tells 106 = .ok (.if_icmp .ge 90, 3) := by decide +kernel
theorem dX11_tells_109 : decode cX11_tells 109 = .ok (.iload_n 3, 1) := by decide +kernel
theorem dX11_tells_110 : decode cX11_tells 110 = .ok (.istore 4, 2) := by decide +kernel
theorem dX11_tells_112 : decode cX11_tells 112 = .ok (.iload 4, 2) := by decide +kernel
theorem dX11_tells_114 : decode cX11_tells 114 = .ok (.aload_n 0, 1) := by decide +kernel
theorem dX11_tells_115 : decode cX11_tells 115 = .ok (.getfield 144, 3) := by decide +kernel
theorem dX11_tells_118 : decode cX11_tells 118 = .ok (.if_icmp .ge 25, 3) := by decide +kernel
theorem dX11_tells_121 : decode cX11_tells 121 = .ok (.aload_n 0, 1) := by decide +kernel
theorem dX11_tells_122 : decode cX11_tells 122 = .ok (.getfield 37, 3) := by decide +kernel
theorem dX11_tells_125 : decode cX11_tells 125 = .ok (.iload 4, 2) := by decide +kernel
theorem dX11_tells_127 : decode cX11_tells 127 = .ok (.iaload, 1) := by decide +kernel
theorem dX11_tells_128 : decode cX11_tells 128 = .ok (.aload_n 0, 1) := by decide +kernel
theorem dX11_tells_129 : decode cX11_tells 129 = .ok (.getfield 37, 3) := by decide +kernel
theorem dX11_tells_132 : decode cX11_tells 132 = .ok (.iload_n 3, 1) := by decide +kernel
theorem dX11_tells_133 : decode cX11_tells 133 = .ok (.iaload, 1) := by decide +kernel
theorem dX11_tells_134 : decode cX11_tells 134 = .ok (.if_icmp .ne 9, 3) := by decide +kernel
theorem dX11_tells_137 : decode cX11_tells 137 = .ok (.iinc 4 1, 3) := by decide +kernel
theorem dX11_tells_140 : decode cX11_tells 140 = .ok (.goto (-28), 3) := by decide +kernel
theorem dX11_tells_143 : decode cX11_tells 143 = .ok (.iload 4, 2) := by decide +kernel
theorem dX11_tells_145 : decode cX11_tells 145 = .ok (.iload_n 3, 1) := by decide +kernel
theorem dX11_tells_146 : decode cX11_tells 146 = .ok (.isub, 1) := by decide +kernel
theorem dX11_tells_147 : decode cX11_tells 147 = .ok (.bipush 9, 2) := by decide +kernel
theorem dX11_tells_149 : decode cX11_tells 149 = .ok (.if_icmp .gt 12, 3) := by decide +kernel
theorem dX11_tells_152 : decode cX11_tells 152 = .ok (.iload_n 2, 1) := by decide +kernel
theorem dX11_tells_153 : decode cX11_tells 153 = .ok (.iconst 2, 1) := by decide +kernel
theorem dX11_tells_154 : decode cX11_tells 154 = .ok (.iadd, 1) := by decide +kernel
theorem dX11_tells_155 : decode cX11_tells 155 = .ok (.sipush 5000, 3) := by decide +kernel
theorem dX11_tells_158 : decode cX11_tells 158 = .ok (.if_icmp .le 5, 3) := by decide +kernel
theorem dX11_tells_161 : decode cX11_tells 161 = .ok (.iconst 0, 1) := by decide +kernel
theorem dX11_tells_162 : decode cX11_tells 162 = .ok (.ireturn, 1) := by decide +kernel
theorem dX11_tells_163 : decode cX11_tells 163 = .ok (.aload_n 0, 1) := by decide +kernel
theorem dX11_tells_164 : decode cX11_tells 164 = .ok (.getfield 40, 3) := by decide +kernel
theorem dX11_tells_167 : decode cX11_tells 167 = .ok (.iload_n 2, 1) := by decide +kernel
theorem dX11_tells_168 : decode cX11_tells 168 = .ok (.iload 4, 2) := by decide +kernel
theorem dX11_tells_170 : decode cX11_tells 170 = .ok (.iload_n 3, 1) := by decide +kernel
theorem dX11_tells_171 : decode cX11_tells 171 = .ok (.isub, 1) := by decide +kernel
theorem dX11_tells_172 : decode cX11_tells 172 = .ok (.iastore, 1) := by decide +kernel
theorem dX11_tells_173 : decode cX11_tells 173 = .ok (.aload_n 0, 1) := by decide +kernel
theorem dX11_tells_174 : decode cX11_tells 174 = .ok (.getfield 40, 3) := by decide +kernel
theorem dX11_tells_177 : decode cX11_tells 177 = .ok (.iload_n 2, 1) := by decide +kernel
theorem dX11_tells_178 : decode cX11_tells 178 = .ok (.iconst 1, 1) := by decide +kernel
theorem dX11_tells_179 : decode cX11_tells 179 = .ok (.iadd, 1) := by decide +kernel
theorem dX11_tells_180 : decode cX11_tells 180 = .ok (.aload_n 0, 1) := by decide +kernel
theorem dX11_tells_181 : decode cX11_tells 181 = .ok (.getfield 37, 3) := by decide +kernel
theorem dX11_tells_184 : decode cX11_tells 184 = .ok (.iload_n 3, 1) := by decide +kernel
theorem dX11_tells_185 : decode cX11_tells 185 = .ok (.iaload, 1) := by decide +kernel
theorem dX11_tells_186 : decode cX11_tells 186 = .ok (.iastore, 1) := by decide +kernel
theorem dX11_tells_187 : decode cX11_tells 187 = .ok (.iinc 2 2, 3) := by decide +kernel
theorem dX11_tells_190 : decode cX11_tells 190 = .ok (.iload 4, 2) := by decide +kernel
theorem dX11_tells_192 : decode cX11_tells 192 = .ok (.istore_n 3, 1) := by decide +kernel
theorem dX11_tells_193 : decode cX11_tells 193 = .ok (.goto (-92), 3) := by decide +kernel
theorem dX11_tells_196 : decode cX11_tells 196 = .ok (.aload_n 0, 1) := by decide +kernel
theorem dX11_tells_197 : decode cX11_tells 197 = .ok (.iload_n 2, 1) := by decide +kernel
theorem dX11_tells_198 : decode cX11_tells 198 = .ok (.putfield 144, 3) := by decide +kernel
theorem dX11_tells_201 : decode cX11_tells 201 = .ok (.iconst 0, 1) := by decide +kernel
theorem dX11_tells_202 : decode cX11_tells 202 = .ok (.istore_n 3, 1) := by decide +kernel
theorem dX11_tells_203 : decode cX11_tells 203 = .ok (.iload_n 3, 1) := by decide +kernel
theorem dX11_tells_204 : decode cX11_tells 204 = .ok (.iload_n 2, 1) := by decide +kernel
theorem dX11_tells_205 : decode cX11_tells 205 = .ok (.if_icmp .ge 21, 3) := by decide +kernel
theorem dX11_tells_208 : decode cX11_tells 208 = .ok (.aload_n 0, 1) := by decide +kernel
theorem dX11_tells_209 : decode cX11_tells 209 = .ok (.getfield 37, 3) := by decide +kernel
theorem dX11_tells_212 : decode cX11_tells 212 = .ok (.iload_n 3, 1) := by decide +kernel
theorem dX11_tells_213 : decode cX11_tells 213 = .ok (.aload_n 0, 1) := by decide +kernel
theorem dX11_tells_214 : decode cX11_tells 214 = .ok (.getfield 40, 3) := by decide +kernel
theorem dX11_tells_217 : decode cX11_tells 217 = .ok (.iload_n 3, 1) := by decide +kernel
theorem dX11_tells_218 : decode cX11_tells 218 = .ok (.iaload, 1) := by decide +kernel
theorem dX11_tells_219 : decode cX11_tells 219 = .ok (.iastore, 1) := by decide +kernel
theorem dX11_tells_220 : decode cX11_tells 220 = .ok (.iinc 3 1, 3) := by decide +kernel
theorem dX11_tells_223 : decode cX11_tells 223 = .ok (.goto (-20), 3) := by decide +kernel
theorem dX11_tells_226 : decode cX11_tells 226 = .ok (.iconst 1, 1) := by decide +kernel
theorem dX11_tells_227 : decode cX11_tells 227 = .ok (.ireturn, 1) := by decide +kernel
set_option maxRecDepth 20000 in
theorem ggX11_said_X11_in : GoodIn wsX11_said wsX11_in := goodIn_r _ [7] (by decide +kernel) (by decide +kernel)
set_option maxRecDepth 20000 in
theorem gX11_said_X11_in : GoodIn wsX11_said (va_wsS RX11 58 yX11_in wsX11_in) := goodIn_app (goodIn_of _ (by decide +kernel)) ggX11_said_X11_in
set_option maxRecDepth 20000 in
theorem ggX11_said_X11_begins : GoodIn wsX11_said wsX11_begins := goodIn_r _ [11, 12, 2, 3, 13, 19, 20, 21, 22, 23, 24, 25, 26, 27, 28, 29, 30, 31, 32, 33, 34, 35, 36, 37, 38, 39] (by decide +kernel) (by decide +kernel)
set_option maxRecDepth 20000 in
theorem gX11_said_X11_begins : GoodIn wsX11_said (wsV RX11 149 RX11 yX11_begins wsX11_begins) := goodIn_app (goodIn_of _ (by decide +kernel)) ggX11_said_X11_begins
set_option maxRecDepth 20000 in
theorem ggX11_said_X11_tells : GoodIn wsX11_said wsX11_tells := goodIn_r _ [17, 2, 3, 18, 19, 20, 21, 22, 23, 24, 25, 26, 27, 28, 29, 30, 31, 32, 33, 34, 35, 36, 37, 38, 39] (by decide +kernel) (by decide +kernel)
set_option maxRecDepth 20000 in
theorem gX11_said_X11_tells : GoodIn wsX11_said (wsV RX11 152 RX11 yX11_tells wsX11_tells) := goodIn_app (goodIn_of _ (by decide +kernel)) ggX11_said_X11_tells
theorem dX11_said_0 : decode cX11_said 0 = .ok (.iload_n 2, 1) := by decide +kernel
theorem dX11_said_1 : decode cX11_said 1 = .ok (.i2l, 1) := by decide +kernel
theorem dX11_said_2 : decode cX11_said 2 = .ok (.lconst 0, 1) := by decide +kernel
theorem dX11_said_3 : decode cX11_said 3 = .ok (.ldc2_w 147, 3) := by decide +kernel
theorem dX11_said_6 : decode cX11_said 6 = .ok (.invokestatic 58, 3) := by decide +kernel
theorem dX11_said_9 : decode cX11_said 9 = .ok (.ifCond .eq 8, 3) := by decide +kernel
theorem dX11_said_12 : decode cX11_said 12 = .ok (.iload_n 3, 1) := by decide +kernel
theorem dX11_said_13 : decode cX11_said 13 = .ok (.iconst (-1), 1) := by decide +kernel
theorem dX11_said_14 : decode cX11_said 14 = .ok (.if_icmp .ge 5, 3) := by decide +kernel
theorem dX11_said_17 : decode cX11_said 17 = .ok (.iconst (-1), 1) := by decide +kernel
theorem dX11_said_18 : decode cX11_said 18 = .ok (.ireturn, 1) := by decide +kernel
theorem dX11_said_19 : decode cX11_said 19 = .ok (.aload_n 0, 1) := by decide +kernel
theorem dX11_said_20 : decode cX11_said 20 = .ok (.invokevirtual 149, 3) := by decide +kernel
theorem dX11_said_23 : decode cX11_said 23 = .ok (.iconst 0, 1) := by decide +kernel
theorem dX11_said_24 : decode cX11_said 24 = .ok (.istore 4, 2) := by decide +kernel
theorem dX11_said_26 : decode cX11_said 26 = .ok (.iload 4, 2) := by decide +kernel
theorem dX11_said_28 : decode cX11_said 28 = .ok (.iload_n 2, 1) := by decide +kernel
theorem dX11_said_29 : decode cX11_said 29 = .ok (.if_icmp .ge 20, 3) := by decide +kernel
theorem dX11_said_32 : decode cX11_said 32 = .ok (.aload_n 0, 1) := by decide +kernel
theorem dX11_said_33 : decode cX11_said 33 = .ok (.iload_n 1, 1) := by decide +kernel
theorem dX11_said_34 : decode cX11_said 34 = .ok (.invokevirtual 152, 3) := by decide +kernel
theorem dX11_said_37 : decode cX11_said 37 = .ok (.ifCond .ne 6, 3) := by decide +kernel
theorem dX11_said_40 : decode cX11_said 40 = .ok (.bipush (-2), 2) := by decide +kernel
theorem dX11_said_42 : decode cX11_said 42 = .ok (.ireturn, 1) := by decide +kernel
theorem dX11_said_43 : decode cX11_said 43 = .ok (.iinc 4 1, 3) := by decide +kernel
theorem dX11_said_46 : decode cX11_said 46 = .ok (.goto (-20), 3) := by decide +kernel
theorem dX11_said_49 : decode cX11_said 49 = .ok (.iload_n 3, 1) := by decide +kernel
theorem dX11_said_50 : decode cX11_said 50 = .ok (.ifCond .ge 10, 3) := by decide +kernel
theorem dX11_said_53 : decode cX11_said 53 = .ok (.aload_n 0, 1) := by decide +kernel
theorem dX11_said_54 : decode cX11_said 54 = .ok (.getfield 144, 3) := by decide +kernel
theorem dX11_said_57 : decode cX11_said 57 = .ok (.goto 22, 3) := by decide +kernel
theorem dX11_said_60 : decode cX11_said 60 = .ok (.iload_n 3, 1) := by decide +kernel
theorem dX11_said_61 : decode cX11_said 61 = .ok (.aload_n 0, 1) := by decide +kernel
theorem dX11_said_62 : decode cX11_said 62 = .ok (.getfield 144, 3) := by decide +kernel
theorem dX11_said_65 : decode cX11_said 65 = .ok (.if_icmp .ge 12, 3) := by decide +kernel
theorem dX11_said_68 : decode cX11_said 68 = .ok (.aload_n 0, 1) := by decide +kernel
theorem dX11_said_69 : decode cX11_said 69 = .ok (.getfield 37, 3) := by decide +kernel
theorem dX11_said_72 : decode cX11_said 72 = .ok (.iload_n 3, 1) := by decide +kernel
theorem dX11_said_73 : decode cX11_said 73 = .ok (.iaload, 1) := by decide +kernel
theorem dX11_said_74 : decode cX11_said 74 = .ok (.goto 5, 3) := by decide +kernel
theorem dX11_said_77 : decode cX11_said 77 = .ok (.bipush (-4), 2) := by decide +kernel
theorem dX11_said_79 : decode cX11_said 79 = .ok (.ireturn, 1) := by decide +kernel
theorem dX11_untells_0 : decode cX11_untells 0 = .ok (.iconst 0, 1) := by decide +kernel
theorem dX11_untells_1 : decode cX11_untells 1 = .ok (.istore_n 1, 1) := by decide +kernel
theorem dX11_untells_2 : decode cX11_untells 2 = .ok (.aload_n 0, 1) := by decide +kernel
theorem dX11_untells_3 : decode cX11_untells 3 = .ok (.getfield 144, 3) := by decide +kernel
theorem dX11_untells_6 : decode cX11_untells 6 = .ok (.iconst 2, 1) := by decide +kernel
theorem dX11_untells_7 : decode cX11_untells 7 = .ok (.irem, 1) := by decide +kernel
theorem dX11_untells_8 : decode cX11_untells 8 = .ok (.iconst 1, 1) := by decide +kernel
theorem dX11_untells_9 : decode cX11_untells 9 = .ok (.if_icmp .ne 5, 3) := by decide +kernel
theorem dX11_untells_12 : decode cX11_untells 12 = .ok (.iconst 0, 1) := by decide +kernel
theorem dX11_untells_13 : decode cX11_untells 13 = .ok (.ireturn, 1) := by decide +kernel
theorem dX11_untells_14 : decode cX11_untells 14 = .ok (.iconst 0, 1) := by decide +kernel
theorem dX11_untells_15 : decode cX11_untells 15 = .ok (.istore_n 2, 1) := by decide +kernel
theorem dX11_untells_16 : decode cX11_untells 16 = .ok (.iload_n 2, 1) := by decide +kernel
theorem dX11_untells_17 : decode cX11_untells 17 = .ok (.aload_n 0, 1) := by decide +kernel
theorem dX11_untells_18 : decode cX11_untells 18 = .ok (.getfield 144, 3) := by decide +kernel
theorem dX11_untells_21 : decode cX11_untells 21 = .ok (.if_icmp .ge 43, 3) := by decide +kernel
theorem dX11_untells_24 : decode cX11_untells 24 = .ok (.iload_n 2, 1) := by decide +kernel
theorem dX11_untells_25 : decode cX11_untells 25 = .ok (.ifCond .le 24, 3) := by decide +kernel
theorem dX11_untells_28 : decode cX11_untells 28 = .ok (.aload_n 0, 1) := by decide +kernel
theorem dX11_untells_29 : decode cX11_untells 29 = .ok (.getfield 37, 3) := by decide +kernel
theorem dX11_untells_32 : decode cX11_untells 32 = .ok (.iload_n 2, 1) := by decide +kernel
theorem dX11_untells_33 : decode cX11_untells 33 = .ok (.iconst 1, 1) := by decide +kernel
theorem dX11_untells_34 : decode cX11_untells 34 = .ok (.iadd, 1) := by decide +kernel
theorem dX11_untells_35 : decode cX11_untells 35 = .ok (.iaload, 1) := by decide +kernel
theorem dX11_untells_36 : decode cX11_untells 36 = .ok (.aload_n 0, 1) := by decide +kernel
theorem dX11_untells_37 : decode cX11_untells 37 = .ok (.getfield 37, 3) := by decide +kernel
theorem dX11_untells_40 : decode cX11_untells 40 = .ok (.iload_n 2, 1) := by decide +kernel
theorem dX11_untells_41 : decode cX11_untells 41 = .ok (.iconst 1, 1) := by decide +kernel
theorem dX11_untells_42 : decode cX11_untells 42 = .ok (.isub, 1) := by decide +kernel
theorem dX11_untells_43 : decode cX11_untells 43 = .ok (.iaload, 1) := by decide +kernel
theorem dX11_untells_44 : decode cX11_untells 44 = .ok (.if_icmp .ne 5, 3) := by decide +kernel
theorem dX11_untells_47 : decode cX11_untells 47 = .ok (.iconst 0, 1) := by decide +kernel
theorem dX11_untells_48 : decode cX11_untells 48 = .ok (.ireturn, 1) := by decide +kernel
theorem dX11_untells_49 : decode cX11_untells 49 = .ok (.iload_n 1, 1) := by decide +kernel
theorem dX11_untells_50 : decode cX11_untells 50 = .ok (.aload_n 0, 1) := by decide +kernel
theorem dX11_untells_51 : decode cX11_untells 51 = .ok (.getfield 37, 3) := by decide +kernel
theorem dX11_untells_54 : decode cX11_untells 54 = .ok (.iload_n 2, 1) := by decide +kernel
theorem dX11_untells_55 : decode cX11_untells 55 = .ok (.iaload, 1) := by decide +kernel
theorem dX11_untells_56 : decode cX11_untells 56 = .ok (.iadd, 1) := by decide +kernel
theorem dX11_untells_57 : decode cX11_untells 57 = .ok (.istore_n 1, 1) := by decide +kernel
theorem dX11_untells_58 : decode cX11_untells 58 = .ok (.iinc 2 2, 3) := by decide +kernel
theorem dX11_untells_61 : decode cX11_untells 61 = .ok (.goto (-45), 3) := by decide +kernel
theorem dX11_untells_64 : decode cX11_untells 64 = .ok (.iload_n 1, 1) := by decide +kernel
theorem dX11_untells_65 : decode cX11_untells 65 = .ok (.sipush 5000, 3) := by decide +kernel
theorem dX11_untells_68 : decode cX11_untells 68 = .ok (.if_icmp .le 5, 3) := by decide +kernel
theorem dX11_untells_71 : decode cX11_untells 71 = .ok (.iconst 0, 1) := by decide +kernel
theorem dX11_untells_72 : decode cX11_untells 72 = .ok (.ireturn, 1) := by decide +kernel
theorem dX11_untells_73 : decode cX11_untells 73 = .ok (.iconst 0, 1) := by decide +kernel
theorem dX11_untells_74 : decode cX11_untells 74 = .ok (.istore_n 2, 1) := by decide +kernel
theorem dX11_untells_75 : decode cX11_untells 75 = .ok (.iconst 0, 1) := by decide +kernel
theorem dX11_untells_76 : decode cX11_untells 76 = .ok (.istore_n 3, 1) := by decide +kernel
theorem dX11_untells_77 : decode cX11_untells 77 = .ok (.iload_n 3, 1) := by decide +kernel
theorem dX11_untells_78 : decode cX11_untells 78 = .ok (.aload_n 0, 1) := by decide +kernel
theorem dX11_untells_79 : decode cX11_untells 79 = .ok (.getfield 144, 3) := by decide +kernel
theorem dX11_untells_82 : decode cX11_untells 82 = .ok (.if_icmp .ge 46, 3) := by decide +kernel
theorem dX11_untells_85 : decode cX11_untells 85 = .ok (.iconst 0, 1) := by decide +kernel
theorem dX11_untells_86 : decode cX11_untells 86 = .ok (.istore 4, 2) := by decide +kernel
theorem dX11_untells_88 : decode cX11_untells 88 = .ok (.iload 4, 2) := by decide +kernel
theorem dX11_untells_90 : decode cX11_untells 90 = .ok (.aload_n 0, 1) := by decide +kernel
theorem dX11_untells_91 : decode cX11_untells 91 = .ok (.getfield 37, 3) := by decide +kernel
theorem dX11_untells_94 : decode cX11_untells 94 = .ok (.iload_n 3, 1) := by decide +kernel
theorem dX11_untells_95 : decode cX11_untells 95 = .ok (.iaload, 1) := by decide +kernel
theorem dX11_untells_96 : decode cX11_untells 96 = .ok (.if_icmp .ge 26, 3) := by decide +kernel
theorem dX11_untells_99 : decode cX11_untells 99 = .ok (.aload_n 0, 1) := by decide +kernel
theorem dX11_untells_100 : decode cX11_untells 100 = .ok (.getfield 40, 3) := by decide +kernel
theorem dX11_untells_103 : decode cX11_untells 103 = .ok (.iload_n 2, 1) := by decide +kernel
theorem dX11_untells_104 : decode cX11_untells 104 = .ok (.aload_n 0, 1) := by decide +kernel
theorem dX11_untells_105 : decode cX11_untells 105 = .ok (.getfield 37, 3) := by decide +kernel
theorem dX11_untells_108 : decode cX11_untells 108 = .ok (.iload_n 3, 1) := by decide +kernel
theorem dX11_untells_109 : decode cX11_untells 109 = .ok (.iconst 1, 1) := by decide +kernel
theorem dX11_untells_110 : decode cX11_untells 110 = .ok (.iadd, 1) := by decide +kernel
theorem dX11_untells_111 : decode cX11_untells 111 = .ok (.iaload, 1) := by decide +kernel
theorem dX11_untells_112 : decode cX11_untells 112 = .ok (.iastore, 1) := by decide +kernel
theorem dX11_untells_113 : decode cX11_untells 113 = .ok (.iinc 2 1, 3) := by decide +kernel
theorem dX11_untells_116 : decode cX11_untells 116 = .ok (.iinc 4 1, 3) := by decide +kernel
theorem dX11_untells_119 : decode cX11_untells 119 = .ok (.goto (-31), 3) := by decide +kernel
theorem dX11_untells_122 : decode cX11_untells 122 = .ok (.iinc 3 2, 3) := by decide +kernel
theorem dX11_untells_125 : decode cX11_untells 125 = .ok (.goto (-48), 3) := by decide +kernel
theorem dX11_untells_128 : decode cX11_untells 128 = .ok (.aload_n 0, 1) := by decide +kernel
theorem dX11_untells_129 : decode cX11_untells 129 = .ok (.iload_n 1, 1) := by decide +kernel
theorem dX11_untells_130 : decode cX11_untells 130 = .ok (.putfield 144, 3) := by decide +kernel
theorem dX11_untells_133 : decode cX11_untells 133 = .ok (.iconst 0, 1) := by decide +kernel
theorem dX11_untells_134 : decode cX11_untells 134 = .ok (.istore_n 3, 1) := by decide +kernel
theorem dX11_untells_135 : decode cX11_untells 135 = .ok (.iload_n 3, 1) := by decide +kernel
theorem dX11_untells_136 : decode cX11_untells 136 = .ok (.iload_n 1, 1) := by decide +kernel
theorem dX11_untells_137 : decode cX11_untells 137 = .ok (.if_icmp .ge 21, 3) := by decide +kernel
theorem dX11_untells_140 : decode cX11_untells 140 = .ok (.aload_n 0, 1) := by decide +kernel
theorem dX11_untells_141 : decode cX11_untells 141 = .ok (.getfield 37, 3) := by decide +kernel
theorem dX11_untells_144 : decode cX11_untells 144 = .ok (.iload_n 3, 1) := by decide +kernel
theorem dX11_untells_145 : decode cX11_untells 145 = .ok (.aload_n 0, 1) := by decide +kernel
theorem dX11_untells_146 : decode cX11_untells 146 = .ok (.getfield 40, 3) := by decide +kernel
theorem dX11_untells_149 : decode cX11_untells 149 = .ok (.iload_n 3, 1) := by decide +kernel
theorem dX11_untells_150 : decode cX11_untells 150 = .ok (.iaload, 1) := by decide +kernel
theorem dX11_untells_151 : decode cX11_untells 151 = .ok (.iastore, 1) := by decide +kernel
theorem dX11_untells_152 : decode cX11_untells 152 = .ok (.iinc 3 1, 3) := by decide +kernel
theorem dX11_untells_155 : decode cX11_untells 155 = .ok (.goto (-20), 3) := by decide +kernel
theorem dX11_untells_158 : decode cX11_untells 158 = .ok (.iconst 1, 1) := by decide +kernel
theorem dX11_untells_159 : decode cX11_untells 159 = .ok (.ireturn, 1) := by decide +kernel
set_option maxRecDepth 20000 in
theorem ggX11_unsaid_X11_begins : GoodIn wsX11_unsaid wsX11_begins := goodIn_r _ [7, 8, 1, 2, 9, 15, 16, 17, 18, 19, 20, 21, 22, 23, 24, 25, 26, 27, 28, 29, 30, 31, 32, 33, 34, 35] (by decide +kernel) (by decide +kernel)
set_option maxRecDepth 20000 in
theorem gX11_unsaid_X11_begins : GoodIn wsX11_unsaid (wsV RX11 149 RX11 yX11_begins wsX11_begins) := goodIn_app (goodIn_of _ (by decide +kernel)) ggX11_unsaid_X11_begins
set_option maxRecDepth 20000 in
theorem ggX11_unsaid_X11_untells : GoodIn wsX11_unsaid wsX11_untells := goodIn_r _ [13, 1, 2, 14, 15, 16, 17, 18, 19, 20, 21, 22, 23, 24, 25, 26, 27, 28, 29, 30, 31, 32, 33, 34, 35] (by decide +kernel) (by decide +kernel)
set_option maxRecDepth 20000 in
theorem gX11_unsaid_X11_untells : GoodIn wsX11_unsaid (wsV RX11 156 RX11 yX11_untells wsX11_untells) := goodIn_app (goodIn_of _ (by decide +kernel)) ggX11_unsaid_X11_untells
theorem dX11_unsaid_0 : decode cX11_unsaid 0 = .ok (.iload_n 1, 1) := by decide +kernel
theorem dX11_unsaid_1 : decode cX11_unsaid 1 = .ok (.iconst (-1), 1) := by decide +kernel
theorem dX11_unsaid_2 : decode cX11_unsaid 2 = .ok (.if_icmp .ge 5, 3) := by decide +kernel
theorem dX11_unsaid_5 : decode cX11_unsaid 5 = .ok (.iconst (-1), 1) := by decide +kernel
theorem dX11_unsaid_6 : decode cX11_unsaid 6 = .ok (.ireturn, 1) := by decide +kernel
theorem dX11_unsaid_7 : decode cX11_unsaid 7 = .ok (.aload_n 0, 1) := by decide +kernel
theorem dX11_unsaid_8 : decode cX11_unsaid 8 = .ok (.invokevirtual 149, 3) := by decide +kernel
theorem dX11_unsaid_11 : decode cX11_unsaid 11 = .ok (.aload_n 0, 1) := by decide +kernel
theorem dX11_unsaid_12 : decode cX11_unsaid 12 = .ok (.invokevirtual 156, 3) := by decide +kernel
theorem dX11_unsaid_15 : decode cX11_unsaid 15 = .ok (.ifCond .ne 6, 3) := by decide +kernel
theorem dX11_unsaid_18 : decode cX11_unsaid 18 = .ok (.bipush (-2), 2) := by decide +kernel
theorem dX11_unsaid_20 : decode cX11_unsaid 20 = .ok (.ireturn, 1) := by decide +kernel
theorem dX11_unsaid_21 : decode cX11_unsaid 21 = .ok (.iload_n 1, 1) := by decide +kernel
theorem dX11_unsaid_22 : decode cX11_unsaid 22 = .ok (.ifCond .ge 10, 3) := by decide +kernel
theorem dX11_unsaid_25 : decode cX11_unsaid 25 = .ok (.aload_n 0, 1) := by decide +kernel
theorem dX11_unsaid_26 : decode cX11_unsaid 26 = .ok (.getfield 144, 3) := by decide +kernel
theorem dX11_unsaid_29 : decode cX11_unsaid 29 = .ok (.goto 22, 3) := by decide +kernel
theorem dX11_unsaid_32 : decode cX11_unsaid 32 = .ok (.iload_n 1, 1) := by decide +kernel
theorem dX11_unsaid_33 : decode cX11_unsaid 33 = .ok (.aload_n 0, 1) := by decide +kernel
theorem dX11_unsaid_34 : decode cX11_unsaid 34 = .ok (.getfield 144, 3) := by decide +kernel
theorem dX11_unsaid_37 : decode cX11_unsaid 37 = .ok (.if_icmp .ge 12, 3) := by decide +kernel
theorem dX11_unsaid_40 : decode cX11_unsaid 40 = .ok (.aload_n 0, 1) := by decide +kernel
theorem dX11_unsaid_41 : decode cX11_unsaid 41 = .ok (.getfield 37, 3) := by decide +kernel
theorem dX11_unsaid_44 : decode cX11_unsaid 44 = .ok (.iload_n 1, 1) := by decide +kernel
theorem dX11_unsaid_45 : decode cX11_unsaid 45 = .ok (.iaload, 1) := by decide +kernel
theorem dX11_unsaid_46 : decode cX11_unsaid 46 = .ok (.goto 5, 3) := by decide +kernel
theorem dX11_unsaid_49 : decode cX11_unsaid 49 = .ok (.bipush (-4), 2) := by decide +kernel
theorem dX11_unsaid_51 : decode cX11_unsaid 51 = .ok (.ireturn, 1) := by decide +kernel
set_option maxRecDepth 20000 in
theorem ggX11_backs_X11_begins : GoodIn wsX11_backs wsX11_begins := goodIn_r _ [5, 6, 7, 8, 9, 15, 16, 17, 18, 19, 20, 21, 22, 23, 24, 25, 26, 27, 28, 29, 30, 31, 32, 33, 34, 35] (by decide +kernel) (by decide +kernel)
set_option maxRecDepth 20000 in
theorem gX11_backs_X11_begins : GoodIn wsX11_backs (wsV RX11 149 RX11 yX11_begins wsX11_begins) := goodIn_app (goodIn_of _ (by decide +kernel)) ggX11_backs_X11_begins
set_option maxRecDepth 20000 in
theorem ggX11_backs_X11_untells : GoodIn wsX11_backs wsX11_untells := goodIn_r _ [13, 7, 8, 14, 15, 16, 17, 18, 19, 20, 21, 22, 23, 24, 25, 26, 27, 28, 29, 30, 31, 32, 33, 34, 35] (by decide +kernel) (by decide +kernel)
set_option maxRecDepth 20000 in
theorem gX11_backs_X11_untells : GoodIn wsX11_backs (wsV RX11 156 RX11 yX11_untells wsX11_untells) := goodIn_app (goodIn_of _ (by decide +kernel)) ggX11_backs_X11_untells
theorem dX11_backs_0 : decode cX11_backs 0 = .ok (.aload_n 0, 1) := by decide +kernel
theorem dX11_backs_1 : decode cX11_backs 1 = .ok (.invokevirtual 149, 3) := by decide +kernel
theorem dX11_backs_4 : decode cX11_backs 4 = .ok (.iconst 0, 1) := by decide +kernel
theorem dX11_backs_5 : decode cX11_backs 5 = .ok (.istore_n 1, 1) := by decide +kernel
theorem dX11_backs_6 : decode cX11_backs 6 = .ok (.iload_n 1, 1) := by decide +kernel
theorem dX11_backs_7 : decode cX11_backs 7 = .ok (.bipush 20, 2) := by decide +kernel
theorem dX11_backs_9 : decode cX11_backs 9 = .ok (.if_icmp .ge 16, 3) := by decide +kernel
theorem dX11_backs_12 : decode cX11_backs 12 = .ok (.aload_n 0, 1) := by decide +kernel
theorem dX11_backs_13 : decode cX11_backs 13 = .ok (.invokevirtual 156, 3) := by decide +kernel
theorem dX11_backs_16 : decode cX11_backs 16 = .ok (.ifCond .eq 9, 3) := by decide +kernel
theorem dX11_backs_19 : decode cX11_backs 19 = .ok (.iinc 1 1, 3) := by decide +kernel
theorem dX11_backs_22 : decode cX11_backs 22 = .ok (.goto (-16), 3) := by decide +kernel
theorem dX11_backs_25 : decode cX11_backs 25 = .ok (.iload_n 1, 1) := by decide +kernel
theorem dX11_backs_26 : decode cX11_backs 26 = .ok (.ireturn, 1) := by decide +kernel
theorem dX11_areLike_0 : decode cX11_areLike 0 = .ok (.aload_n 0, 1) := by decide +kernel
theorem dX11_areLike_1 : decode cX11_areLike 1 = .ok (.getfield 43, 3) := by decide +kernel
theorem dX11_areLike_4 : decode cX11_areLike 4 = .ok (.iload_n 1, 1) := by decide +kernel
theorem dX11_areLike_5 : decode cX11_areLike 5 = .ok (.iaload, 1) := by decide +kernel
theorem dX11_areLike_6 : decode cX11_areLike 6 = .ok (.aload_n 0, 1) := by decide +kernel
theorem dX11_areLike_7 : decode cX11_areLike 7 = .ok (.getfield 43, 3) := by decide +kernel
theorem dX11_areLike_10 : decode cX11_areLike 10 = .ok (.iload_n 2, 1) := by decide +kernel
theorem dX11_areLike_11 : decode cX11_areLike 11 = .ok (.iaload, 1) := by decide +kernel
theorem dX11_areLike_12 : decode cX11_areLike 12 = .ok (.if_icmp .ne 7, 3) := by decide +kernel
theorem dX11_areLike_15 : decode cX11_areLike 15 = .ok (.iconst 1, 1) := by decide +kernel
theorem dX11_areLike_16 : decode cX11_areLike 16 = .ok (.goto 4, 3) := by decide +kernel
theorem dX11_areLike_19 : decode cX11_areLike 19 = .ok (.iconst 0, 1) := by decide +kernel
theorem dX11_areLike_20 : decode cX11_areLike 20 = .ok (.istore_n 3, 1) := by decide +kernel
theorem dX11_areLike_21 : decode cX11_areLike 21 = .ok (.iconst 0, 1) := by decide +kernel
theorem dX11_areLike_22 : decode cX11_areLike 22 = .ok (.istore 4, 2) := by decide +kernel
theorem dX11_areLike_24 : decode cX11_areLike 24 = .ok (.iload_n 3, 1) := by decide +kernel
theorem dX11_areLike_25 : decode cX11_areLike 25 = .ok (.ifCond .eq 53, 3) := by decide +kernel
theorem dX11_areLike_28 : decode cX11_areLike 28 = .ok (.iload 4, 2) := by decide +kernel
theorem dX11_areLike_30 : decode cX11_areLike 30 = .ok (.aload_n 0, 1) := by decide +kernel
theorem dX11_areLike_31 : decode cX11_areLike 31 = .ok (.getfield 43, 3) := by decide +kernel
theorem dX11_areLike_34 : decode cX11_areLike 34 = .ok (.iload_n 1, 1) := by decide +kernel
theorem dX11_areLike_35 : decode cX11_areLike 35 = .ok (.iaload, 1) := by decide +kernel
theorem dX11_areLike_36 : decode cX11_areLike 36 = .ok (.if_icmp .ge 42, 3) := by decide +kernel
theorem dX11_areLike_39 : decode cX11_areLike 39 = .ok (.aload_n 0, 1) := by decide +kernel
theorem dX11_areLike_40 : decode cX11_areLike 40 = .ok (.getfield 46, 3) := by decide +kernel
theorem dX11_areLike_43 : decode cX11_areLike 43 = .ok (.bipush 40, 2) := by decide +kernel
theorem dX11_areLike_45 : decode cX11_areLike 45 = .ok (.iload_n 1, 1) := by decide +kernel
theorem dX11_areLike_46 : decode cX11_areLike 46 = .ok (.imul, 1) := by decide +kernel
theorem dX11_areLike_47 : decode cX11_areLike 47 = .ok (.iload 4, 2) := by decide +kernel
theorem dX11_areLike_49 : decode cX11_areLike 49 = .ok (.iadd, 1) := by decide +kernel
theorem dX11_areLike_50 : decode cX11_areLike 50 = .ok (.iaload, 1) := by decide +kernel
theorem dX11_areLike_51 : decode cX11_areLike 51 = .ok (.aload_n 0, 1) := by decide +kernel
theorem dX11_areLike_52 : decode cX11_areLike 52 = .ok (.getfield 46, 3) := by decide +kernel
theorem dX11_areLike_55 : decode cX11_areLike 55 = .ok (.bipush 40, 2) := by decide +kernel
theorem dX11_areLike_57 : decode cX11_areLike 57 = .ok (.iload_n 2, 1) := by decide +kernel
theorem dX11_areLike_58 : decode cX11_areLike 58 = .ok (.imul, 1) := by decide +kernel
theorem dX11_areLike_59 : decode cX11_areLike 59 = .ok (.iload 4, 2) := by decide +kernel
theorem dX11_areLike_61 : decode cX11_areLike 61 = .ok (.iadd, 1) := by decide +kernel
theorem dX11_areLike_62 : decode cX11_areLike 62 = .ok (.iaload, 1) := by decide +kernel
theorem dX11_areLike_63 : decode cX11_areLike 63 = .ok (.if_icmp .ne 7, 3) := by decide +kernel
theorem dX11_areLike_66 : decode cX11_areLike 66 = .ok (.iconst 1, 1) := by decide +kernel
theorem dX11_areLike_67 : decode cX11_areLike 67 = .ok (.goto 4, 3) := by decide +kernel
theorem dX11_areLike_70 : decode cX11_areLike 70 = .ok (.iconst 0, 1) := by decide +kernel
theorem dX11_areLike_71 : decode cX11_areLike 71 = .ok (.istore_n 3, 1) := by decide +kernel
theorem dX11_areLike_72 : decode cX11_areLike 72 = .ok (.iinc 4 1, 3) := by decide +kernel
theorem dX11_areLike_75 : decode cX11_areLike 75 = .ok (.goto (-51), 3) := by decide +kernel
theorem dX11_areLike_78 : decode cX11_areLike 78 = .ok (.iload_n 3, 1) := by decide +kernel
theorem dX11_areLike_79 : decode cX11_areLike 79 = .ok (.ireturn, 1) := by decide +kernel
set_option maxRecDepth 20000 in
theorem ggX11_round_X11_in : GoodIn wsX11_round wsX11_in := goodIn_r _ [8] (by decide +kernel) (by decide +kernel)
set_option maxRecDepth 20000 in
theorem gX11_round_X11_in : GoodIn wsX11_round (va_wsS RX11 58 yX11_in wsX11_in) := goodIn_app (goodIn_of _ (by decide +kernel)) ggX11_round_X11_in
set_option maxRecDepth 20000 in
theorem ggX11_round_X11_begins : GoodIn wsX11_round wsX11_begins := goodIn_r _ [12, 13, 2, 4, 14, 24, 25, 26, 27, 28, 29, 30, 31, 32, 33, 34, 35, 36, 37, 38, 39, 40, 41, 42, 43, 44] (by decide +kernel) (by decide +kernel)
set_option maxRecDepth 20000 in
theorem gX11_round_X11_begins : GoodIn wsX11_round (wsV RX11 149 RX11 yX11_begins wsX11_begins) := goodIn_app (goodIn_of _ (by decide +kernel)) ggX11_round_X11_begins
set_option maxRecDepth 20000 in
theorem ggX11_round_X11_tells : GoodIn wsX11_round wsX11_tells := goodIn_r _ [18, 2, 4, 19, 24, 25, 26, 27, 28, 29, 30, 31, 32, 33, 34, 35, 36, 37, 38, 39, 40, 41, 42, 43, 44] (by decide +kernel) (by decide +kernel)
set_option maxRecDepth 20000 in
theorem gX11_round_X11_tells : GoodIn wsX11_round (wsV RX11 152 RX11 yX11_tells wsX11_tells) := goodIn_app (goodIn_of _ (by decide +kernel)) ggX11_round_X11_tells
set_option maxRecDepth 20000 in
theorem ggX11_round_X11_areLike : GoodIn wsX11_round wsX11_areLike := goodIn_r _ [23, 1, 3, 24, 25, 26, 27, 28, 29, 30, 31, 32, 33, 34, 35, 36, 37, 38, 39, 40, 41, 42, 43, 44] (by decide +kernel) (by decide +kernel)
set_option maxRecDepth 20000 in
theorem gX11_round_X11_areLike : GoodIn wsX11_round (wsV RX11 159 RX11 yX11_areLike wsX11_areLike) := goodIn_app (goodIn_of _ (by decide +kernel)) ggX11_round_X11_areLike
theorem dX11_round_0 : decode cX11_round 0 = .ok (.iload_n 1, 1) := by decide +kernel
theorem dX11_round_1 : decode cX11_round 1 = .ok (.i2l, 1) := by decide +kernel
theorem dX11_round_2 : decode cX11_round 2 = .ok (.lconst 0, 1) := by decide +kernel
theorem dX11_round_3 : decode cX11_round 3 = .ok (.lconst 1, 1) := by decide +kernel
theorem dX11_round_4 : decode cX11_round 4 = .ok (.invokestatic 58, 3) := by decide +kernel
theorem dX11_round_7 : decode cX11_round 7 = .ok (.ifCond .ne 5, 3) := by decide +kernel
theorem dX11_round_10 : decode cX11_round 10 = .ok (.iconst (-1), 1) := by decide +kernel
theorem dX11_round_11 : decode cX11_round 11 = .ok (.ireturn, 1) := by decide +kernel
theorem dX11_round_12 : decode cX11_round 12 = .ok (.aload_n 0, 1) := by decide +kernel
theorem dX11_round_13 : decode cX11_round 13 = .ok (.invokevirtual 149, 3) := by decide +kernel
theorem dX11_round_16 : decode cX11_round 16 = .ok (.iconst 0, 1) := by decide +kernel
theorem dX11_round_17 : decode cX11_round 17 = .ok (.istore_n 2, 1) := by decide +kernel
theorem dX11_round_18 : decode cX11_round 18 = .ok (.iload_n 2, 1) := by decide +kernel
theorem dX11_round_19 : decode cX11_round 19 = .ok (.bipush 60, 2) := by decide +kernel
theorem dX11_round_21 : decode cX11_round 21 = .ok (.if_icmp .gt 101, 3) := by decide +kernel
theorem dX11_round_24 : decode cX11_round 24 = .ok (.iload_n 2, 1) := by decide +kernel
theorem dX11_round_25 : decode cX11_round 25 = .ok (.ifCond .le 14, 3) := by decide +kernel
theorem dX11_round_28 : decode cX11_round 28 = .ok (.aload_n 0, 1) := by decide +kernel
theorem dX11_round_29 : decode cX11_round 29 = .ok (.iconst 1, 1) := by decide +kernel
theorem dX11_round_30 : decode cX11_round 30 = .ok (.invokevirtual 152, 3) := by decide +kernel
theorem dX11_round_33 : decode cX11_round 33 = .ok (.ifCond .ne 6, 3) := by decide +kernel
theorem dX11_round_36 : decode cX11_round 36 = .ok (.bipush (-2), 2) := by decide +kernel
theorem dX11_round_38 : decode cX11_round 38 = .ok (.ireturn, 1) := by decide +kernel
theorem dX11_round_39 : decode cX11_round 39 = .ok (.aload_n 0, 1) := by decide +kernel
theorem dX11_round_40 : decode cX11_round 40 = .ok (.getfield 43, 3) := by decide +kernel
theorem dX11_round_43 : decode cX11_round 43 = .ok (.iload_n 2, 1) := by decide +kernel
theorem dX11_round_44 : decode cX11_round 44 = .ok (.aload_n 0, 1) := by decide +kernel
theorem dX11_round_45 : decode cX11_round 45 = .ok (.getfield 144, 3) := by decide +kernel
theorem dX11_round_48 : decode cX11_round 48 = .ok (.iastore, 1) := by decide +kernel
theorem dX11_round_49 : decode cX11_round 49 = .ok (.iconst 0, 1) := by decide +kernel
theorem dX11_round_50 : decode cX11_round 50 = .ok (.istore_n 3, 1) := by decide +kernel
theorem dX11_round_51 : decode cX11_round 51 = .ok (.iload_n 3, 1) := by decide +kernel
theorem dX11_round_52 : decode cX11_round 52 = .ok (.aload_n 0, 1) := by decide +kernel
theorem dX11_round_53 : decode cX11_round 53 = .ok (.getfield 144, 3) := by decide +kernel
theorem dX11_round_56 : decode cX11_round 56 = .ok (.if_icmp .ge 26, 3) := by decide +kernel
theorem dX11_round_59 : decode cX11_round 59 = .ok (.aload_n 0, 1) := by decide +kernel
theorem dX11_round_60 : decode cX11_round 60 = .ok (.getfield 46, 3) := by decide +kernel
theorem dX11_round_63 : decode cX11_round 63 = .ok (.bipush 40, 2) := by decide +kernel
theorem dX11_round_65 : decode cX11_round 65 = .ok (.iload_n 2, 1) := by decide +kernel
theorem dX11_round_66 : decode cX11_round 66 = .ok (.imul, 1) := by decide +kernel
theorem dX11_round_67 : decode cX11_round 67 = .ok (.iload_n 3, 1) := by decide +kernel
theorem dX11_round_68 : decode cX11_round 68 = .ok (.iadd, 1) := by decide +kernel
theorem dX11_round_69 : decode cX11_round 69 = .ok (.aload_n 0, 1) := by decide +kernel
theorem dX11_round_70 : decode cX11_round 70 = .ok (.getfield 37, 3) := by decide +kernel
theorem dX11_round_73 : decode cX11_round 73 = .ok (.iload_n 3, 1) := by decide +kernel
theorem dX11_round_74 : decode cX11_round 74 = .ok (.iaload, 1) := by decide +kernel
theorem dX11_round_75 : decode cX11_round 75 = .ok (.iastore, 1) := by decide +kernel
theorem dX11_round_76 : decode cX11_round 76 = .ok (.iinc 3 1, 3) := by decide +kernel
theorem dX11_round_79 : decode cX11_round 79 = .ok (.goto (-28), 3) := by decide +kernel
theorem dX11_round_82 : decode cX11_round 82 = .ok (.iconst 0, 1) := by decide +kernel
theorem dX11_round_83 : decode cX11_round 83 = .ok (.istore_n 3, 1) := by decide +kernel
theorem dX11_round_84 : decode cX11_round 84 = .ok (.iload_n 3, 1) := by decide +kernel
theorem dX11_round_85 : decode cX11_round 85 = .ok (.iload_n 2, 1) := by decide +kernel
theorem dX11_round_86 : decode cX11_round 86 = .ok (.if_icmp .ge 30, 3) := by decide +kernel
theorem dX11_round_89 : decode cX11_round 89 = .ok (.aload_n 0, 1) := by decide +kernel
theorem dX11_round_90 : decode cX11_round 90 = .ok (.iload_n 3, 1) := by decide +kernel
theorem dX11_round_91 : decode cX11_round 91 = .ok (.iload_n 2, 1) := by decide +kernel
theorem dX11_round_92 : decode cX11_round 92 = .ok (.invokevirtual 159, 3) := by decide +kernel
theorem dX11_round_95 : decode cX11_round 95 = .ok (.ifCond .eq 15, 3) := by decide +kernel
theorem dX11_round_98 : decode cX11_round 98 = .ok (.iload_n 1, 1) := by decide +kernel
theorem dX11_round_99 : decode cX11_round 99 = .ok (.ifCond .ne 7, 3) := by decide +kernel
theorem dX11_round_102 : decode cX11_round 102 = .ok (.iload_n 3, 1) := by decide +kernel
theorem dX11_round_103 : decode cX11_round 103 = .ok (.goto 6, 3) := by decide +kernel
theorem dX11_round_106 : decode cX11_round 106 = .ok (.iload_n 2, 1) := by decide +kernel
theorem dX11_round_107 : decode cX11_round 107 = .ok (.iload_n 3, 1) := by decide +kernel
theorem dX11_round_108 : decode cX11_round 108 = .ok (.isub, 1) := by decide +kernel
theorem dX11_round_109 : decode cX11_round 109 = .ok (.ireturn, 1) := by decide +kernel
theorem dX11_round_110 : decode cX11_round 110 = .ok (.iinc 3 1, 3) := by decide +kernel
theorem dX11_round_113 : decode cX11_round 113 = .ok (.goto (-29), 3) := by decide +kernel
theorem dX11_round_116 : decode cX11_round 116 = .ok (.iinc 2 1, 3) := by decide +kernel
theorem dX11_round_119 : decode cX11_round 119 = .ok (.goto (-101), 3) := by decide +kernel
theorem dX11_round_122 : decode cX11_round 122 = .ok (.bipush (-2), 2) := by decide +kernel
theorem dX11_round_124 : decode cX11_round 124 = .ok (.ireturn, 1) := by decide +kernel
theorem dX11_isTeller_0 : decode cX11_isTeller 0 = .ok (.iconst 1, 1) := by decide +kernel
theorem dX11_isTeller_1 : decode cX11_isTeller 1 = .ok (.istore_n 2, 1) := by decide +kernel
theorem dX11_isTeller_2 : decode cX11_isTeller 2 = .ok (.iconst 0, 1) := by decide +kernel
theorem dX11_isTeller_3 : decode cX11_isTeller 3 = .ok (.istore_n 3, 1) := by decide +kernel
theorem dX11_isTeller_4 : decode cX11_isTeller 4 = .ok (.iload_n 3, 1) := by decide +kernel
theorem dX11_isTeller_5 : decode cX11_isTeller 5 = .ok (.iload_n 1, 1) := by decide +kernel
theorem dX11_isTeller_6 : decode cX11_isTeller 6 = .ok (.if_icmp .ge 69, 3) := by decide +kernel
theorem dX11_isTeller_9 : decode cX11_isTeller 9 = .ok (.iload_n 2, 1) := by decide +kernel
theorem dX11_isTeller_10 : decode cX11_isTeller 10 = .ok (.ifCond .eq 65, 3) := by decide +kernel
theorem dX11_isTeller_13 : decode cX11_isTeller 13 = .ok (.iconst 0, 1) := by decide +kernel
theorem dX11_isTeller_14 : decode cX11_isTeller 14 = .ok (.istore 4, 2) := by decide +kernel
theorem dX11_isTeller_16 : decode cX11_isTeller 16 = .ok (.iconst 0, 1) := by decide +kernel
theorem dX11_isTeller_17 : decode cX11_isTeller 17 = .ok (.istore 5, 2) := by decide +kernel
theorem dX11_isTeller_19 : decode cX11_isTeller 19 = .ok (.iload 5, 2) := by decide +kernel
theorem dX11_isTeller_21 : decode cX11_isTeller 21 = .ok (.iload_n 1, 1) := by decide +kernel
theorem dX11_isTeller_22 : decode cX11_isTeller 22 = .ok (.if_icmp .ge 30, 3) := by decide +kernel
theorem dX11_isTeller_25 : decode cX11_isTeller 25 = .ok (.iload 4, 2) := by decide +kernel
theorem dX11_isTeller_27 : decode cX11_isTeller 27 = .ok (.aload_n 0, 1) := by decide +kernel
theorem dX11_isTeller_28 : decode cX11_isTeller 28 = .ok (.getfield 49, 3) := by decide +kernel
theorem dX11_isTeller_31 : decode cX11_isTeller 31 = .ok (.iload 5, 2) := by decide +kernel
theorem dX11_isTeller_33 : decode cX11_isTeller 33 = .ok (.iaload, 1) := by decide +kernel
theorem dX11_isTeller_34 : decode cX11_isTeller 34 = .ok (.iload_n 3, 1) := by decide +kernel
theorem dX11_isTeller_35 : decode cX11_isTeller 35 = .ok (.if_icmp .ne 7, 3) := by decide +kernel
theorem dX11_isTeller_38 : decode cX11_isTeller 38 = .ok (.iconst 1, 1) := by decide +kernel
theorem dX11_isTeller_39 : decode cX11_isTeller 39 = .ok (.goto 4, 3) := by decide +kernel
theorem dX11_isTeller_42 : decode cX11_isTeller 42 = .ok (.iconst 0, 1) := by decide +kernel
theorem dX11_isTeller_43 : decode cX11_isTeller 43 = .ok (.iadd, 1) := by decide +kernel
theorem dX11_isTeller_44 : decode cX11_isTeller 44 = .ok (.istore 4, 2) := by decide +kernel
theorem dX11_isTeller_46 : decode cX11_isTeller 46 = .ok (.iinc 5 1, 3) := by decide +kernel
theorem dX11_isTeller_49 : decode cX11_isTeller 49 = .ok (.goto (-30), 3) := by decide +kernel
theorem dX11_isTeller_52 : decode cX11_isTeller 52 = .ok (.iload 4, 2) := by decide +kernel
theorem dX11_isTeller_54 : decode cX11_isTeller 54 = .ok (.aload_n 0, 1) := by decide +kernel
theorem dX11_isTeller_55 : decode cX11_isTeller 55 = .ok (.getfield 49, 3) := by decide +kernel
theorem dX11_isTeller_58 : decode cX11_isTeller 58 = .ok (.iload_n 3, 1) := by decide +kernel
theorem dX11_isTeller_59 : decode cX11_isTeller 59 = .ok (.iaload, 1) := by decide +kernel
theorem dX11_isTeller_60 : decode cX11_isTeller 60 = .ok (.if_icmp .ne 7, 3) := by decide +kernel
theorem dX11_isTeller_63 : decode cX11_isTeller 63 = .ok (.iconst 1, 1) := by decide +kernel
theorem dX11_isTeller_64 : decode cX11_isTeller 64 = .ok (.goto 4, 3) := by decide +kernel
theorem dX11_isTeller_67 : decode cX11_isTeller 67 = .ok (.iconst 0, 1) := by decide +kernel
theorem dX11_isTeller_68 : decode cX11_isTeller 68 = .ok (.istore_n 2, 1) := by decide +kernel
theorem dX11_isTeller_69 : decode cX11_isTeller 69 = .ok (.iinc 3 1, 3) := by decide +kernel
theorem dX11_isTeller_72 : decode cX11_isTeller 72 = .ok (.goto (-68), 3) := by decide +kernel
theorem dX11_isTeller_75 : decode cX11_isTeller 75 = .ok (.iload_n 2, 1) := by decide +kernel
theorem dX11_isTeller_76 : decode cX11_isTeller 76 = .ok (.ireturn, 1) := by decide +kernel
theorem dX11_code_0 : decode cX11_code 0 = .ok (.lconst 0, 1) := by decide +kernel
theorem dX11_code_1 : decode cX11_code 1 = .ok (.lstore_n 2, 1) := by decide +kernel
theorem dX11_code_2 : decode cX11_code 2 = .ok (.iconst 0, 1) := by decide +kernel
theorem dX11_code_3 : decode cX11_code 3 = .ok (.istore 4, 2) := by decide +kernel
theorem dX11_code_5 : decode cX11_code 5 = .ok (.iload 4, 2) := by decide +kernel
theorem dX11_code_7 : decode cX11_code 7 = .ok (.iload_n 1, 1) := by decide +kernel
theorem dX11_code_8 : decode cX11_code 8 = .ok (.if_icmp .ge 24, 3) := by decide +kernel
theorem dX11_code_11 : decode cX11_code 11 = .ok (.ldc2_w 163, 3) := by decide +kernel
theorem dX11_code_14 : decode cX11_code 14 = .ok (.lload_n 2, 1) := by decide +kernel
theorem dX11_code_15 : decode cX11_code 15 = .ok (.lmul, 1) := by decide +kernel
theorem dX11_code_16 : decode cX11_code 16 = .ok (.aload_n 0, 1) := by decide +kernel
theorem dX11_code_17 : decode cX11_code 17 = .ok (.getfield 49, 3) := by decide +kernel
theorem dX11_code_20 : decode cX11_code 20 = .ok (.iload 4, 2) := by decide +kernel
theorem dX11_code_22 : decode cX11_code 22 = .ok (.iaload, 1) := by decide +kernel
theorem dX11_code_23 : decode cX11_code 23 = .ok (.i2l, 1) := by decide +kernel
theorem dX11_code_24 : decode cX11_code 24 = .ok (.ladd, 1) := by decide +kernel
theorem dX11_code_25 : decode cX11_code 25 = .ok (.lstore_n 2, 1) := by decide +kernel
theorem dX11_code_26 : decode cX11_code 26 = .ok (.iinc 4 1, 3) := by decide +kernel
theorem dX11_code_29 : decode cX11_code 29 = .ok (.goto (-24), 3) := by decide +kernel
theorem dX11_code_32 : decode cX11_code 32 = .ok (.lload_n 2, 1) := by decide +kernel
theorem dX11_code_33 : decode cX11_code 33 = .ok (.lreturn, 1) := by decide +kernel
set_option maxRecDepth 20000 in
theorem ggX11_tellers_X11_in : GoodIn wsX11_tellers wsX11_in := goodIn_r _ [9] (by decide +kernel) (by decide +kernel)
set_option maxRecDepth 20000 in
theorem gX11_tellers_X11_in : GoodIn wsX11_tellers (va_wsS RX11 58 yX11_in wsX11_in) := goodIn_app (goodIn_of _ (by decide +kernel)) ggX11_tellers_X11_in
set_option maxRecDepth 20000 in
theorem ggX11_tellers_X11_isTeller : GoodIn wsX11_tellers wsX11_isTeller := goodIn_r _ [13, 4, 18, 19, 20, 21, 22, 23, 24, 25, 26, 27, 28, 29, 30, 31, 32, 33, 34, 35, 36, 37, 38] (by decide +kernel) (by decide +kernel)
set_option maxRecDepth 20000 in
theorem gX11_tellers_X11_isTeller : GoodIn wsX11_tellers (wsV RX11 167 RX11 yX11_isTeller wsX11_isTeller) := goodIn_app (goodIn_of _ (by decide +kernel)) ggX11_tellers_X11_isTeller
set_option maxRecDepth 20000 in
theorem ggX11_tellers_X11_code : GoodIn wsX11_tellers wsX11_code := goodIn_r _ [17, 2, 4, 18, 19, 20, 21, 22, 23, 24, 25, 26, 27, 28, 29, 30, 31, 32, 33, 34, 35, 36, 37, 38] (by decide +kernel) (by decide +kernel)
set_option maxRecDepth 20000 in
theorem gX11_tellers_X11_code : GoodIn wsX11_tellers (wsV RX11 170 RX11 yX11_code wsX11_code) := goodIn_app (goodIn_of _ (by decide +kernel)) ggX11_tellers_X11_code
theorem dX11_tellers_0 : decode cX11_tellers 0 = .ok (.iload_n 1, 1) := by decide +kernel
theorem dX11_tellers_1 : decode cX11_tellers 1 = .ok (.i2l, 1) := by decide +kernel
theorem dX11_tellers_2 : decode cX11_tellers 2 = .ok (.ldc2_w 72, 3) := by decide +kernel
theorem dX11_tellers_5 : decode cX11_tellers 5 = .ok (.ldc2_w 163, 3) := by decide +kernel
theorem dX11_tellers_8 : decode cX11_tellers 8 = .ok (.invokestatic 58, 3) := by decide +kernel
theorem dX11_tellers_11 : decode cX11_tellers 11 = .ok (.ifCond .eq 8, 3) := by decide +kernel
theorem dX11_tellers_14 : decode cX11_tellers 14 = .ok (.iload_n 2, 1) := by decide +kernel
theorem dX11_tellers_15 : decode cX11_tellers 15 = .ok (.iconst (-1), 1) := by decide +kernel
theorem dX11_tellers_16 : decode cX11_tellers 16 = .ok (.if_icmp .ge 7, 3) := by decide +kernel
theorem dX11_tellers_19 : decode cX11_tellers 19 = .ok (.ldc2_w 165, 3) := by decide +kernel
theorem dX11_tellers_22 : decode cX11_tellers 22 = .ok (.lreturn, 1) := by decide +kernel
theorem dX11_tellers_23 : decode cX11_tellers 23 = .ok (.iconst 0, 1) := by decide +kernel
theorem dX11_tellers_24 : decode cX11_tellers 24 = .ok (.istore_n 3, 1) := by decide +kernel
theorem dX11_tellers_25 : decode cX11_tellers 25 = .ok (.iconst 0, 1) := by decide +kernel
theorem dX11_tellers_26 : decode cX11_tellers 26 = .ok (.istore 4, 2) := by decide +kernel
theorem dX11_tellers_28 : decode cX11_tellers 28 = .ok (.iconst 0, 1) := by decide +kernel
theorem dX11_tellers_29 : decode cX11_tellers 29 = .ok (.istore 5, 2) := by decide +kernel
theorem dX11_tellers_31 : decode cX11_tellers 31 = .ok (.aload_n 0, 1) := by decide +kernel
theorem dX11_tellers_32 : decode cX11_tellers 32 = .ok (.getfield 49, 3) := by decide +kernel
theorem dX11_tellers_35 : decode cX11_tellers 35 = .ok (.iconst 0, 1) := by decide +kernel
theorem dX11_tellers_36 : decode cX11_tellers 36 = .ok (.iconst (-1), 1) := by decide +kernel
theorem dX11_tellers_37 : decode cX11_tellers 37 = .ok (.iastore, 1) := by decide +kernel
theorem dX11_tellers_38 : decode cX11_tellers 38 = .ok (.iload 4, 2) := by decide +kernel
theorem dX11_tellers_40 : decode cX11_tellers 40 = .ok (.ifCond .lt 139, 3) := by decide +kernel
theorem dX11_tellers_43 : decode cX11_tellers 43 = .ok (.aload_n 0, 1) := by decide +kernel
theorem dX11_tellers_44 : decode cX11_tellers 44 = .ok (.getfield 49, 3) := by decide +kernel
theorem dX11_tellers_47 : decode cX11_tellers 47 = .ok (.iload 4, 2) := by decide +kernel
theorem dX11_tellers_49 : decode cX11_tellers 49 = .ok (.dup2, 1) := by decide +kernel
theorem dX11_tellers_50 : decode cX11_tellers 50 = .ok (.iaload, 1) := by decide +kernel
theorem dX11_tellers_51 : decode cX11_tellers 51 = .ok (.iconst 1, 1) := by decide +kernel
theorem dX11_tellers_52 : decode cX11_tellers 52 = .ok (.iadd, 1) := by decide +kernel
theorem dX11_tellers_53 : decode cX11_tellers 53 = .ok (.iastore, 1) := by decide +kernel
theorem dX11_tellers_54 : decode cX11_tellers 54 = .ok (.aload_n 0, 1) := by decide +kernel
theorem dX11_tellers_55 : decode cX11_tellers 55 = .ok (.getfield 49, 3) := by decide +kernel
theorem dX11_tellers_58 : decode cX11_tellers 58 = .ok (.iload 4, 2) := by decide +kernel
theorem dX11_tellers_60 : decode cX11_tellers 60 = .ok (.iaload, 1) := by decide +kernel
theorem dX11_tellers_61 : decode cX11_tellers 61 = .ok (.iload_n 1, 1) := by decide +kernel
theorem dX11_tellers_62 : decode cX11_tellers 62 = .ok (.if_icmp .eq 17, 3) := by decide +kernel
theorem dX11_tellers_65 : decode cX11_tellers 65 = .ok (.iload 5, 2) := by decide +kernel
theorem dX11_tellers_67 : decode cX11_tellers 67 = .ok (.aload_n 0, 1) := by decide +kernel
theorem dX11_tellers_68 : decode cX11_tellers 68 = .ok (.getfield 49, 3) := by decide +kernel
theorem dX11_tellers_71 : decode cX11_tellers 71 = .ok (.iload 4, 2) := by decide +kernel
theorem dX11_tellers_73 : decode cX11_tellers 73 = .ok (.iaload, 1) := by decide +kernel
theorem dX11_tellers_74 : decode cX11_tellers 74 = .ok (.iadd, 1) := by decide +kernel
theorem dX11_tellers_75 : decode cX11_tellers 75 = .ok (.iload_n 1, 1) := by decide +kernel
theorem dX11_tellers_76 : decode cX11_tellers 76 = .ok (.if_icmp .le 30, 3) := by decide +kernel
theorem dX11_tellers_79 : decode cX11_tellers 79 = .ok (.iinc 4 (-1), 3) := by decide +kernel
theorem dX11_tellers_82 : decode cX11_tellers 82 = .ok (.iload 5, 2) := by decide +kernel
theorem dX11_tellers_84 : decode cX11_tellers 84 = .ok (.iload 4, 2) := by decide +kernel
theorem dX11_tellers_86 : decode cX11_tellers 86 = .ok (.ifCond .lt 13, 3) := by decide +kernel
theorem dX11_tellers_89 : decode cX11_tellers 89 = .ok (.aload_n 0, 1) := by decide +kernel
theorem dX11_tellers_90 : decode cX11_tellers 90 = .ok (.getfield 49, 3) := by decide +kernel
theorem dX11_tellers_93 : decode cX11_tellers 93 = .ok (.iload 4, 2) := by decide +kernel
theorem dX11_tellers_95 : decode cX11_tellers 95 = .ok (.iaload, 1) := by decide +kernel
theorem dX11_tellers_96 : decode cX11_tellers 96 = .ok (.goto 4, 3) := by decide +kernel
theorem dX11_tellers_99 : decode cX11_tellers 99 = .ok (.iconst 0, 1) := by decide +kernel
theorem dX11_tellers_100 : decode cX11_tellers 100 = .ok (.isub, 1) := by decide +kernel
theorem dX11_tellers_101 : decode cX11_tellers 101 = .ok (.istore 5, 2) := by decide +kernel
theorem dX11_tellers_103 : decode cX11_tellers 103 = .ok (.goto (-65), 3) := by decide +kernel
theorem dX11_tellers_106 : decode cX11_tellers 106 = .ok (.iload 4, 2) := by decide +kernel
theorem dX11_tellers_108 : decode cX11_tellers 108 = .ok (.iload_n 1, 1) := by decide +kernel
theorem dX11_tellers_109 : decode cX11_tellers 109 = .ok (.iconst 1, 1) := by decide +kernel
theorem dX11_tellers_110 : decode cX11_tellers 110 = .ok (.isub, 1) := by decide +kernel
theorem dX11_tellers_111 : decode cX11_tellers 111 = .ok (.if_icmp .ge 29, 3) := by decide +kernel
theorem dX11_tellers_114 : decode cX11_tellers 114 = .ok (.iload 5, 2) := by decide +kernel
theorem dX11_tellers_116 : decode cX11_tellers 116 = .ok (.aload_n 0, 1) := by decide +kernel
theorem dX11_tellers_117 : decode cX11_tellers 117 = .ok (.getfield 49, 3) := by decide +kernel
theorem dX11_tellers_120 : decode cX11_tellers 120 = .ok (.iload 4, 2) := by decide +kernel
theorem dX11_tellers_122 : decode cX11_tellers 122 = .ok (.iaload, 1) := by decide +kernel
theorem dX11_tellers_123 : decode cX11_tellers 123 = .ok (.iadd, 1) := by decide +kernel
theorem dX11_tellers_124 : decode cX11_tellers 124 = .ok (.istore 5, 2) := by decide +kernel
theorem dX11_tellers_126 : decode cX11_tellers 126 = .ok (.iinc 4 1, 3) := by decide +kernel
theorem dX11_tellers_129 : decode cX11_tellers 129 = .ok (.aload_n 0, 1) := by decide +kernel
theorem dX11_tellers_130 : decode cX11_tellers 130 = .ok (.getfield 49, 3) := by decide +kernel
theorem dX11_tellers_133 : decode cX11_tellers 133 = .ok (.iload 4, 2) := by decide +kernel
theorem dX11_tellers_135 : decode cX11_tellers 135 = .ok (.iconst (-1), 1) := by decide +kernel
theorem dX11_tellers_136 : decode cX11_tellers 136 = .ok (.iastore, 1) := by decide +kernel
theorem dX11_tellers_137 : decode cX11_tellers 137 = .ok (.goto (-99), 3) := by decide +kernel
theorem dX11_tellers_140 : decode cX11_tellers 140 = .ok (.iload 5, 2) := by decide +kernel
theorem dX11_tellers_142 : decode cX11_tellers 142 = .ok (.aload_n 0, 1) := by decide +kernel
theorem dX11_tellers_143 : decode cX11_tellers 143 = .ok (.getfield 49, 3) := by decide +kernel
theorem dX11_tellers_146 : decode cX11_tellers 146 = .ok (.iload 4, 2) := by decide +kernel
theorem dX11_tellers_148 : decode cX11_tellers 148 = .ok (.iaload, 1) := by decide +kernel
theorem dX11_tellers_149 : decode cX11_tellers 149 = .ok (.iadd, 1) := by decide +kernel
theorem dX11_tellers_150 : decode cX11_tellers 150 = .ok (.iload_n 1, 1) := by decide +kernel
theorem dX11_tellers_151 : decode cX11_tellers 151 = .ok (.if_icmp .ne (-113), 3) := by decide +kernel
theorem dX11_tellers_154 : decode cX11_tellers 154 = .ok (.aload_n 0, 1) := by decide +kernel
theorem dX11_tellers_155 : decode cX11_tellers 155 = .ok (.iload_n 1, 1) := by decide +kernel
theorem dX11_tellers_156 : decode cX11_tellers 156 = .ok (.invokevirtual 167, 3) := by decide +kernel
theorem dX11_tellers_159 : decode cX11_tellers 159 = .ok (.ifCond .eq (-121), 3) := by decide +kernel
theorem dX11_tellers_162 : decode cX11_tellers 162 = .ok (.iload_n 3, 1) := by decide +kernel
theorem dX11_tellers_163 : decode cX11_tellers 163 = .ok (.iload_n 2, 1) := by decide +kernel
theorem dX11_tellers_164 : decode cX11_tellers 164 = .ok (.if_icmp .ne 9, 3) := by decide +kernel
theorem dX11_tellers_167 : decode cX11_tellers 167 = .ok (.aload_n 0, 1) := by decide +kernel
theorem dX11_tellers_168 : decode cX11_tellers 168 = .ok (.iload_n 1, 1) := by decide +kernel
theorem dX11_tellers_169 : decode cX11_tellers 169 = .ok (.invokevirtual 170, 3) := by decide +kernel
theorem dX11_tellers_172 : decode cX11_tellers 172 = .ok (.lreturn, 1) := by decide +kernel
theorem dX11_tellers_173 : decode cX11_tellers 173 = .ok (.iinc 3 1, 3) := by decide +kernel
theorem dX11_tellers_176 : decode cX11_tellers 176 = .ok (.goto (-138), 3) := by decide +kernel
theorem dX11_tellers_179 : decode cX11_tellers 179 = .ok (.iload_n 2, 1) := by decide +kernel
theorem dX11_tellers_180 : decode cX11_tellers 180 = .ok (.ifCond .ge 8, 3) := by decide +kernel
theorem dX11_tellers_183 : decode cX11_tellers 183 = .ok (.iload_n 3, 1) := by decide +kernel
theorem dX11_tellers_184 : decode cX11_tellers 184 = .ok (.i2l, 1) := by decide +kernel
theorem dX11_tellers_185 : decode cX11_tellers 185 = .ok (.goto 6, 3) := by decide +kernel
theorem dX11_tellers_188 : decode cX11_tellers 188 = .ok (.ldc2_w 174, 3) := by decide +kernel
theorem dX11_tellers_191 : decode cX11_tellers 191 = .ok (.lreturn, 1) := by decide +kernel
theorem dX11_count_0 : decode cX11_count 0 = .ok (.iload_n 1, 1) := by decide +kernel
theorem dX11_count_1 : decode cX11_count 1 = .ok (.ifCond .ne 10, 3) := by decide +kernel
theorem dX11_count_4 : decode cX11_count 4 = .ok (.aload_n 0, 1) := by decide +kernel
theorem dX11_count_5 : decode cX11_count 5 = .ok (.getfield 62, 3) := by decide +kernel
theorem dX11_count_8 : decode cX11_count 8 = .ok (.goto 28, 3) := by decide +kernel
theorem dX11_count_11 : decode cX11_count 11 = .ok (.iload_n 1, 1) := by decide +kernel
theorem dX11_count_12 : decode cX11_count 12 = .ok (.iconst 1, 1) := by decide +kernel
theorem dX11_count_13 : decode cX11_count 13 = .ok (.if_icmp .ne 10, 3) := by decide +kernel
theorem dX11_count_16 : decode cX11_count 16 = .ok (.aload_n 0, 1) := by decide +kernel
theorem dX11_count_17 : decode cX11_count 17 = .ok (.getfield 133, 3) := by decide +kernel
theorem dX11_count_20 : decode cX11_count 20 = .ok (.goto 16, 3) := by decide +kernel
theorem dX11_count_23 : decode cX11_count 23 = .ok (.iload_n 1, 1) := by decide +kernel
theorem dX11_count_24 : decode cX11_count 24 = .ok (.iconst 2, 1) := by decide +kernel
theorem dX11_count_25 : decode cX11_count 25 = .ok (.if_icmp .ne 10, 3) := by decide +kernel
theorem dX11_count_28 : decode cX11_count 28 = .ok (.aload_n 0, 1) := by decide +kernel
theorem dX11_count_29 : decode cX11_count 29 = .ok (.getfield 141, 3) := by decide +kernel
theorem dX11_count_32 : decode cX11_count 32 = .ok (.goto 4, 3) := by decide +kernel
theorem dX11_count_35 : decode cX11_count 35 = .ok (.iconst (-1), 1) := by decide +kernel
theorem dX11_count_36 : decode cX11_count 36 = .ok (.ireturn, 1) := by decide +kernel
