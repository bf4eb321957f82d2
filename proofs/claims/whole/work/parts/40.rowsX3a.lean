theorem dX3_init_0 : decode cX3_init 0 = .ok (.aload_n 0, 1) := by decide +kernel
theorem dX3_init_1 : decode cX3_init 1 = .ok (.invokespecial 1, 3) := by decide +kernel
theorem dX3_init_4 : decode cX3_init 4 = .ok (.aload_n 0, 1) := by decide +kernel
theorem dX3_init_5 : decode cX3_init 5 = .ok (.bipush 6, 2) := by decide +kernel
theorem dX3_init_7 : decode cX3_init 7 = .ok (.newarray .int, 2) := by decide +kernel
theorem dX3_init_9 : decode cX3_init 9 = .ok (.putfield 7, 3) := by decide +kernel
theorem dX3_init_12 : decode cX3_init 12 = .ok (.aload_n 0, 1) := by decide +kernel
theorem dX3_init_13 : decode cX3_init 13 = .ok (.bipush 6, 2) := by decide +kernel
theorem dX3_init_15 : decode cX3_init 15 = .ok (.newarray .int, 2) := by decide +kernel
theorem dX3_init_17 : decode cX3_init 17 = .ok (.putfield 13, 3) := by decide +kernel
theorem dX3_init_20 : decode cX3_init 20 = .ok (.aload_n 0, 1) := by decide +kernel
theorem dX3_init_21 : decode cX3_init 21 = .ok (.bipush 6, 2) := by decide +kernel
theorem dX3_init_23 : decode cX3_init 23 = .ok (.newarray .int, 2) := by decide +kernel
theorem dX3_init_25 : decode cX3_init 25 = .ok (.putfield 16, 3) := by decide +kernel
theorem dX3_init_28 : decode cX3_init 28 = .ok (.aload_n 0, 1) := by decide +kernel
theorem dX3_init_29 : decode cX3_init 29 = .ok (.bipush 6, 2) := by decide +kernel
theorem dX3_init_31 : decode cX3_init 31 = .ok (.newarray .int, 2) := by decide +kernel
theorem dX3_init_33 : decode cX3_init 33 = .ok (.putfield 19, 3) := by decide +kernel
theorem dX3_init_36 : decode cX3_init 36 = .ok (.aload_n 0, 1) := by decide +kernel
theorem dX3_init_37 : decode cX3_init 37 = .ok (.bipush 6, 2) := by decide +kernel
theorem dX3_init_39 : decode cX3_init 39 = .ok (.newarray .int, 2) := by decide +kernel
theorem dX3_init_41 : decode cX3_init 41 = .ok (.putfield 22, 3) := by decide +kernel
theorem dX3_init_44 : decode cX3_init 44 = .ok (.aload_n 0, 1) := by decide +kernel
theorem dX3_init_45 : decode cX3_init 45 = .ok (.bipush 6, 2) := by decide +kernel
theorem dX3_init_47 : decode cX3_init 47 = .ok (.newarray .int, 2) := by decide +kernel
theorem dX3_init_49 : decode cX3_init 49 = .ok (.putfield 25, 3) := by decide +kernel
theorem dX3_init_52 : decode cX3_init 52 = .ok (.aload_n 0, 1) := by decide +kernel
theorem dX3_init_53 : decode cX3_init 53 = .ok (.bipush 6, 2) := by decide +kernel
theorem dX3_init_55 : decode cX3_init 55 = .ok (.newarray .int, 2) := by decide +kernel
theorem dX3_init_57 : decode cX3_init 57 = .ok (.putfield 28, 3) := by decide +kernel
theorem dX3_init_60 : decode cX3_init 60 = .ok (.aload_n 0, 1) := by decide +kernel
theorem dX3_init_61 : decode cX3_init 61 = .ok (.bipush 6, 2) := by decide +kernel
theorem dX3_init_63 : decode cX3_init 63 = .ok (.newarray .int, 2) := by decide +kernel
theorem dX3_init_65 : decode cX3_init 65 = .ok (.putfield 31, 3) := by decide +kernel
theorem dX3_init_68 : decode cX3_init 68 = .ok (.aload_n 0, 1) := by decide +kernel
theorem dX3_init_69 : decode cX3_init 69 = .ok (.bipush 6, 2) := by decide +kernel
theorem dX3_init_71 : decode cX3_init 71 = .ok (.newarray .int, 2) := by decide +kernel
theorem dX3_init_73 : decode cX3_init 73 = .ok (.putfield 34, 3) := by decide +kernel
theorem dX3_init_76 : decode cX3_init 76 = .ok (.aload_n 0, 1) := by decide +kernel
theorem dX3_init_77 : decode cX3_init 77 = .ok (.bipush 6, 2) := by decide +kernel
theorem dX3_init_79 : decode cX3_init 79 = .ok (.newarray .int, 2) := by decide +kernel
theorem dX3_init_81 : decode cX3_init 81 = .ok (.putfield 37, 3) := by decide +kernel
theorem dX3_init_84 : decode cX3_init 84 = .ok (.aload_n 0, 1) := by decide +kernel
theorem dX3_init_85 : decode cX3_init 85 = .ok (.bipush 6, 2) := by decide +kernel
theorem dX3_init_87 : decode cX3_init 87 = .ok (.newarray .int, 2) := by decide +kernel
theorem dX3_init_89 : decode cX3_init 89 = .ok (.putfield 40, 3) := by decide +kernel
theorem dX3_init_92 : decode cX3_init 92 = .ok (.aload_n 0, 1) := by decide +kernel
theorem dX3_init_93 : decode cX3_init 93 = .ok (.bipush 8, 2) := by decide +kernel
theorem dX3_init_95 : decode cX3_init 95 = .ok (.newarray .int, 2) := by decide +kernel
theorem dX3_init_97 : decode cX3_init 97 = .ok (.putfield 43, 3) := by decide +kernel
theorem dX3_init_100 : decode cX3_init 100 = .ok (.aload_n 0, 1) := by decide +kernel
theorem dX3_init_101 : decode cX3_init 101 = .ok (.bipush 8, 2) := by decide +kernel
theorem dX3_init_103 : decode cX3_init 103 = .ok (.newarray .int, 2) := by decide +kernel
theorem dX3_init_105 : decode cX3_init 105 = .ok (.putfield 46, 3) := by decide +kernel
theorem dX3_init_108 : decode cX3_init 108 = .ok (.aload_n 0, 1) := by decide +kernel
theorem dX3_init_109 : decode cX3_init 109 = .ok (.iconst 4, 1) := by decide +kernel
theorem dX3_init_110 : decode cX3_init 110 = .ok (.newarray .int, 2) := by decide +kernel
theorem dX3_init_112 : decode cX3_init 112 = .ok (.putfield 49, 3) := by decide +kernel
theorem dX3_init_115 : decode cX3_init 115 = .ok (.aload_n 0, 1) := by decide +kernel
theorem dX3_init_116 : decode cX3_init 116 = .ok (.iconst 4, 1) := by decide +kernel
theorem dX3_init_117 : decode cX3_init 117 = .ok (.newarray .int, 2) := by decide +kernel
theorem dX3_init_119 : decode cX3_init 119 = .ok (.putfield 52, 3) := by decide +kernel
theorem dX3_init_122 : decode cX3_init 122 = .ok (.aload_n 0, 1) := by decide +kernel
theorem dX3_init_123 : decode cX3_init 123 = .ok (.sipush 240, 3) := by decide +kernel
theorem dX3_init_126 : decode cX3_init 126 = .ok (.newarray .int, 2) := by decide +kernel
theorem dX3_init_128 : decode cX3_init 128 = .ok (.putfield 55, 3) := by decide +kernel
theorem dX3_init_131 : decode cX3_init 131 = .ok (.aload_n 0, 1) := by decide +kernel
theorem dX3_init_132 : decode cX3_init 132 = .ok (.bipush 60, 2) := by decide +kernel
theorem dX3_init_134 : decode cX3_init 134 = .ok (.newarray .int, 2) := by decide +kernel
theorem dX3_init_136 : decode cX3_init 136 = .ok (.putfield 58, 3) := by decide +kernel
theorem dX3_init_139 : decode cX3_init 139 = .ok (.iconst 0, 1) := by decide +kernel
theorem dX3_init_140 : decode cX3_init 140 = .ok (.istore_n 1, 1) := by decide +kernel
theorem dX3_init_141 : decode cX3_init 141 = .ok (.iload_n 1, 1) := by decide +kernel
theorem dX3_init_142 : decode cX3_init 142 = .ok (.iconst 4, 1) := by decide +kernel
theorem dX3_init_143 : decode cX3_init 143 = .ok (.if_icmp .ge 16, 3) := by decide +kernel
theorem dX3_init_146 : decode cX3_init 146 = .ok (.aload_n 0, 1) := by decide +kernel
theorem dX3_init_147 : decode cX3_init 147 = .ok (.getfield 49, 3) := by decide +kernel
theorem dX3_init_150 : decode cX3_init 150 = .ok (.iload_n 1, 1) := by decide +kernel
theorem dX3_init_151 : decode cX3_init 151 = .ok (.iconst (-1), 1) := by decide +kernel
theorem dX3_init_152 : decode cX3_init 152 = .ok (.iastore, 1) := by decide +kernel
theorem dX3_init_153 : decode cX3_init 153 = .ok (.iinc 1 1, 3) := by decide +kernel
theorem dX3_init_156 : decode cX3_init 156 = .ok (.goto (-15), 3) := by decide +kernel
theorem dX3_init_159 : decode cX3_init 159 = .ok (.return_, 1) := by decide +kernel
theorem dX3_in_0 : decode cX3_in 0 = .ok (.lload_n 0, 1) := by decide +kernel
theorem dX3_in_1 : decode cX3_in 1 = .ok (.lload_n 2, 1) := by decide +kernel
theorem dX3_in_2 : decode cX3_in 2 = .ok (.lcmp, 1) := by decide +kernel
theorem dX3_in_3 : decode cX3_in 3 = .ok (.ifCond .lt 14, 3) := by decide +kernel
theorem dX3_in_6 : decode cX3_in 6 = .ok (.lload_n 0, 1) := by decide +kernel
theorem dX3_in_7 : decode cX3_in 7 = .ok (.lload 4, 2) := by decide +kernel
theorem dX3_in_9 : decode cX3_in 9 = .ok (.lcmp, 1) := by decide +kernel
theorem dX3_in_10 : decode cX3_in 10 = .ok (.ifCond .gt 7, 3) := by decide +kernel
theorem dX3_in_13 : decode cX3_in 13 = .ok (.iconst 1, 1) := by decide +kernel
theorem dX3_in_14 : decode cX3_in 14 = .ok (.goto 4, 3) := by decide +kernel
theorem dX3_in_17 : decode cX3_in 17 = .ok (.iconst 0, 1) := by decide +kernel
theorem dX3_in_18 : decode cX3_in 18 = .ok (.ireturn, 1) := by decide +kernel
theorem dX3_lost_0 : decode cX3_lost 0 = .ok (.ldc2_w 61, 3) := by decide +kernel
theorem dX3_lost_3 : decode cX3_lost 3 = .ok (.lreturn, 1) := by decide +kernel
theorem dX3_isIn_0 : decode cX3_isIn 0 = .ok (.iload_n 0, 1) := by decide +kernel
theorem dX3_isIn_1 : decode cX3_isIn 1 = .ok (.iload_n 1, 1) := by decide +kernel
theorem dX3_isIn_2 : decode cX3_isIn 2 = .ok (.ishr, 1) := by decide +kernel
theorem dX3_isIn_3 : decode cX3_isIn 3 = .ok (.iconst 1, 1) := by decide +kernel
theorem dX3_isIn_4 : decode cX3_isIn 4 = .ok (.iand, 1) := by decide +kernel
theorem dX3_isIn_5 : decode cX3_isIn 5 = .ok (.iconst 1, 1) := by decide +kernel
theorem dX3_isIn_6 : decode cX3_isIn 6 = .ok (.if_icmp .ne 7, 3) := by decide +kernel
theorem dX3_isIn_9 : decode cX3_isIn 9 = .ok (.iconst 1, 1) := by decide +kernel
theorem dX3_isIn_10 : decode cX3_isIn 10 = .ok (.goto 4, 3) := by decide +kernel
theorem dX3_isIn_13 : decode cX3_isIn 13 = .ok (.iconst 0, 1) := by decide +kernel
theorem dX3_isIn_14 : decode cX3_isIn 14 = .ok (.ireturn, 1) := by decide +kernel
theorem dX3_bits_0 : decode cX3_bits 0 = .ok (.iconst 0, 1) := by decide +kernel
theorem dX3_bits_1 : decode cX3_bits 1 = .ok (.istore_n 1, 1) := by decide +kernel
theorem dX3_bits_2 : decode cX3_bits 2 = .ok (.iload_n 0, 1) := by decide +kernel
theorem dX3_bits_3 : decode cX3_bits 3 = .ok (.istore_n 2, 1) := by decide +kernel
theorem dX3_bits_4 : decode cX3_bits 4 = .ok (.iload_n 2, 1) := by decide +kernel
theorem dX3_bits_5 : decode cX3_bits 5 = .ok (.ifCond .le 16, 3) := by decide +kernel
theorem dX3_bits_8 : decode cX3_bits 8 = .ok (.iload_n 1, 1) := by decide +kernel
theorem dX3_bits_9 : decode cX3_bits 9 = .ok (.iload_n 2, 1) := by decide +kernel
theorem dX3_bits_10 : decode cX3_bits 10 = .ok (.iconst 1, 1) := by decide +kernel
theorem dX3_bits_11 : decode cX3_bits 11 = .ok (.iand, 1) := by decide +kernel
theorem dX3_bits_12 : decode cX3_bits 12 = .ok (.iadd, 1) := by decide +kernel
theorem dX3_bits_13 : decode cX3_bits 13 = .ok (.istore_n 1, 1) := by decide +kernel
theorem dX3_bits_14 : decode cX3_bits 14 = .ok (.iload_n 2, 1) := by decide +kernel
theorem dX3_bits_15 : decode cX3_bits 15 = .ok (.iconst 1, 1) := by decide +kernel
theorem dX3_bits_16 : decode cX3_bits 16 = .ok (.ishr, 1) := by decide +kernel
theorem dX3_bits_17 : decode cX3_bits 17 = .ok (.istore_n 2, 1) := by decide +kernel
theorem dX3_bits_18 : decode cX3_bits 18 = .ok (.goto (-14), 3) := by decide +kernel
theorem dX3_bits_21 : decode cX3_bits 21 = .ok (.iload_n 1, 1) := by decide +kernel
theorem dX3_bits_22 : decode cX3_bits 22 = .ok (.ireturn, 1) := by decide +kernel
theorem dX3_share_0 : decode cX3_share 0 = .ok (.lload_n 0, 1) := by decide +kernel
theorem dX3_share_1 : decode cX3_share 1 = .ok (.lstore 5, 2) := by decide +kernel
theorem dX3_share_3 : decode cX3_share 3 = .ok (.lload_n 2, 1) := by decide +kernel
theorem dX3_share_4 : decode cX3_share 4 = .ok (.lstore 7, 2) := by decide +kernel
theorem dX3_share_6 : decode cX3_share 6 = .ok (.lload 7, 2) := by decide +kernel
theorem dX3_share_8 : decode cX3_share 8 = .ok (.lconst 0, 1) := by decide +kernel
theorem dX3_share_9 : decode cX3_share 9 = .ok (.lcmp, 1) := by decide +kernel
theorem dX3_share_10 : decode cX3_share 10 = .ok (.ifCond .eq 21, 3) := by decide +kernel
theorem dX3_share_13 : decode cX3_share 13 = .ok (.lload 5, 2) := by decide +kernel
theorem dX3_share_15 : decode cX3_share 15 = .ok (.lload 7, 2) := by decide +kernel
theorem dX3_share_17 : decode cX3_share 17 = .ok (.lrem, 1) := by decide +kernel
theorem dX3_share_18 : decode cX3_share 18 = .ok (.lstore 9, 2) := by decide +kernel
theorem dX3_share_20 : decode cX3_share 20 = .ok (.lload 7, 2) := by decide +kernel
theorem dX3_share_22 : decode cX3_share 22 = .ok (.lstore 5, 2) := by decide +kernel
theorem dX3_share_24 : decode cX3_share 24 = .ok (.lload 9, 2) := by decide +kernel
theorem dX3_share_26 : decode cX3_share 26 = .ok (.lstore 7, 2) := by decide +kernel
theorem dX3_share_28 : decode cX3_share 28 = .ok (.goto (-22), 3) := by decide +kernel
theorem dX3_share_31 : decode cX3_share 31 = .ok (.iload 4, 2) := by decide +kernel
theorem dX3_share_33 : decode cX3_share 33 = .ok (.ifCond .ne 7, 3) := by decide +kernel
theorem dX3_share_36 : decode cX3_share 36 = .ok (.lload_n 0, 1) := by decide +kernel
theorem dX3_share_37 : decode cX3_share 37 = .ok (.goto 4, 3) := by decide +kernel
theorem dX3_share_40 : decode cX3_share 40 = .ok (.lload_n 2, 1) := by decide +kernel
theorem dX3_share_41 : decode cX3_share 41 = .ok (.lload 5, 2) := by decide +kernel
theorem dX3_share_43 : decode cX3_share 43 = .ok (.ldiv, 1) := by decide +kernel
theorem dX3_share_44 : decode cX3_share 44 = .ok (.lreturn, 1) := by decide +kernel
theorem dX3_refused_0 : decode cX3_refused 0 = .ok (.aload_n 0, 1) := by decide +kernel
theorem dX3_refused_1 : decode cX3_refused 1 = .ok (.iconst 0, 1) := by decide +kernel
theorem dX3_refused_2 : decode cX3_refused 2 = .ok (.putfield 63, 3) := by decide +kernel
theorem dX3_refused_5 : decode cX3_refused 5 = .ok (.iload_n 1, 1) := by decide +kernel
theorem dX3_refused_6 : decode cX3_refused 6 = .ok (.ireturn, 1) := by decide +kernel
theorem dX3_failed_0 : decode cX3_failed 0 = .ok (.aload_n 0, 1) := by decide +kernel
theorem dX3_failed_1 : decode cX3_failed 1 = .ok (.iload_n 1, 1) := by decide +kernel
theorem dX3_failed_2 : decode cX3_failed 2 = .ok (.putfield 63, 3) := by decide +kernel
theorem dX3_failed_5 : decode cX3_failed 5 = .ok (.bipush (-10), 2) := by decide +kernel
theorem dX3_failed_7 : decode cX3_failed 7 = .ok (.iload_n 1, 1) := by decide +kernel
theorem dX3_failed_8 : decode cX3_failed 8 = .ok (.isub, 1) := by decide +kernel
theorem dX3_failed_9 : decode cX3_failed 9 = .ok (.ireturn, 1) := by decide +kernel
set_option maxRecDepth 20000 in
theorem ggX3_failedLong_X3_lost : GoodIn wsX3_failedLong wsX3_lost := goodIn_r _ [5, 6] (by decide +kernel) (by decide +kernel)
set_option maxRecDepth 20000 in
theorem gX3_failedLong_X3_lost : GoodIn wsX3_failedLong (va_wsS RX3 67 yX3_lost wsX3_lost) := goodIn_app (goodIn_of _ (by decide +kernel)) ggX3_failedLong_X3_lost
theorem dX3_failedLong_0 : decode cX3_failedLong 0 = .ok (.aload_n 0, 1) := by decide +kernel
theorem dX3_failedLong_1 : decode cX3_failedLong 1 = .ok (.iload_n 1, 1) := by decide +kernel
theorem dX3_failedLong_2 : decode cX3_failedLong 2 = .ok (.putfield 63, 3) := by decide +kernel
theorem dX3_failedLong_5 : decode cX3_failedLong 5 = .ok (.invokestatic 67, 3) := by decide +kernel
theorem dX3_failedLong_8 : decode cX3_failedLong 8 = .ok (.lreturn, 1) := by decide +kernel
set_option maxRecDepth 20000 in
theorem ggX3_noHouse_X3_in : GoodIn wsX3_noHouse wsX3_in := goodIn_r _ [4] (by decide +kernel) (by decide +kernel)
set_option maxRecDepth 20000 in
theorem gX3_noHouse_X3_in : GoodIn wsX3_noHouse (va_wsS RX3 71 yX3_in wsX3_in) := goodIn_app (goodIn_of _ (by decide +kernel)) ggX3_noHouse_X3_in
theorem dX3_noHouse_0 : decode cX3_noHouse 0 = .ok (.iload_n 0, 1) := by decide +kernel
theorem dX3_noHouse_1 : decode cX3_noHouse 1 = .ok (.i2l, 1) := by decide +kernel
theorem dX3_noHouse_2 : decode cX3_noHouse 2 = .ok (.lconst 0, 1) := by decide +kernel
theorem dX3_noHouse_3 : decode cX3_noHouse 3 = .ok (.lconst 1, 1) := by decide +kernel
theorem dX3_noHouse_4 : decode cX3_noHouse 4 = .ok (.invokestatic 71, 3) := by decide +kernel
theorem dX3_noHouse_7 : decode cX3_noHouse 7 = .ok (.ifCond .ne 7, 3) := by decide +kernel
theorem dX3_noHouse_10 : decode cX3_noHouse 10 = .ok (.iconst 1, 1) := by decide +kernel
theorem dX3_noHouse_11 : decode cX3_noHouse 11 = .ok (.goto 4, 3) := by decide +kernel
theorem dX3_noHouse_14 : decode cX3_noHouse 14 = .ok (.iconst 0, 1) := by decide +kernel
theorem dX3_noHouse_15 : decode cX3_noHouse 15 = .ok (.ireturn, 1) := by decide +kernel
set_option maxRecDepth 20000 in
theorem ggX3_noSquare_X3_in : GoodIn wsX3_noSquare wsX3_in := goodIn_r _ [5] (by decide +kernel) (by decide +kernel)
set_option maxRecDepth 20000 in
theorem gX3_noSquare_X3_in : GoodIn wsX3_noSquare (va_wsS RX3 71 yX3_in wsX3_in) := goodIn_app (goodIn_of _ (by decide +kernel)) ggX3_noSquare_X3_in
theorem dX3_noSquare_0 : decode cX3_noSquare 0 = .ok (.iload_n 1, 1) := by decide +kernel
theorem dX3_noSquare_1 : decode cX3_noSquare 1 = .ok (.i2l, 1) := by decide +kernel
theorem dX3_noSquare_2 : decode cX3_noSquare 2 = .ok (.lconst 0, 1) := by decide +kernel
theorem dX3_noSquare_3 : decode cX3_noSquare 3 = .ok (.aload_n 0, 1) := by decide +kernel
theorem dX3_noSquare_4 : decode cX3_noSquare 4 = .ok (.getfield 75, 3) := by decide +kernel
theorem dX3_noSquare_7 : decode cX3_noSquare 7 = .ok (.i2l, 1) := by decide +kernel
theorem dX3_noSquare_8 : decode cX3_noSquare 8 = .ok (.lconst 1, 1) := by decide +kernel
theorem dX3_noSquare_9 : decode cX3_noSquare 9 = .ok (.lsub, 1) := by decide +kernel
theorem dX3_noSquare_10 : decode cX3_noSquare 10 = .ok (.invokestatic 71, 3) := by decide +kernel
theorem dX3_noSquare_13 : decode cX3_noSquare 13 = .ok (.ifCond .ne 7, 3) := by decide +kernel
theorem dX3_noSquare_16 : decode cX3_noSquare 16 = .ok (.iconst 1, 1) := by decide +kernel
theorem dX3_noSquare_17 : decode cX3_noSquare 17 = .ok (.goto 4, 3) := by decide +kernel
theorem dX3_noSquare_20 : decode cX3_noSquare 20 = .ok (.iconst 0, 1) := by decide +kernel
theorem dX3_noSquare_21 : decode cX3_noSquare 21 = .ok (.ireturn, 1) := by decide +kernel
set_option maxRecDepth 20000 in
theorem ggX3_noThing_X3_in : GoodIn wsX3_noThing wsX3_in := goodIn_r _ [5] (by decide +kernel) (by decide +kernel)
set_option maxRecDepth 20000 in
theorem gX3_noThing_X3_in : GoodIn wsX3_noThing (va_wsS RX3 71 yX3_in wsX3_in) := goodIn_app (goodIn_of _ (by decide +kernel)) ggX3_noThing_X3_in
theorem dX3_noThing_0 : decode cX3_noThing 0 = .ok (.iload_n 1, 1) := by decide +kernel
theorem dX3_noThing_1 : decode cX3_noThing 1 = .ok (.i2l, 1) := by decide +kernel
theorem dX3_noThing_2 : decode cX3_noThing 2 = .ok (.lconst 0, 1) := by decide +kernel
theorem dX3_noThing_3 : decode cX3_noThing 3 = .ok (.aload_n 0, 1) := by decide +kernel
theorem dX3_noThing_4 : decode cX3_noThing 4 = .ok (.getfield 78, 3) := by decide +kernel
theorem dX3_noThing_7 : decode cX3_noThing 7 = .ok (.i2l, 1) := by decide +kernel
theorem dX3_noThing_8 : decode cX3_noThing 8 = .ok (.lconst 1, 1) := by decide +kernel
theorem dX3_noThing_9 : decode cX3_noThing 9 = .ok (.lsub, 1) := by decide +kernel
theorem dX3_noThing_10 : decode cX3_noThing 10 = .ok (.invokestatic 71, 3) := by decide +kernel
theorem dX3_noThing_13 : decode cX3_noThing 13 = .ok (.ifCond .ne 7, 3) := by decide +kernel
theorem dX3_noThing_16 : decode cX3_noThing 16 = .ok (.iconst 1, 1) := by decide +kernel
theorem dX3_noThing_17 : decode cX3_noThing 17 = .ok (.goto 4, 3) := by decide +kernel
theorem dX3_noThing_20 : decode cX3_noThing 20 = .ok (.iconst 0, 1) := by decide +kernel
theorem dX3_noThing_21 : decode cX3_noThing 21 = .ok (.ireturn, 1) := by decide +kernel
theorem dX3_codeAt_0 : decode cX3_codeAt 0 = .ok (.aload_n 0, 1) := by decide +kernel
theorem dX3_codeAt_1 : decode cX3_codeAt 1 = .ok (.getfield 81, 3) := by decide +kernel
theorem dX3_codeAt_4 : decode cX3_codeAt 4 = .ok (.iload_n 2, 1) := by decide +kernel
theorem dX3_codeAt_5 : decode cX3_codeAt 5 = .ok (.if_icmp .ge 17, 3) := by decide +kernel
theorem dX3_codeAt_8 : decode cX3_codeAt 8 = .ok (.aload_n 0, 1) := by decide +kernel
theorem dX3_codeAt_9 : decode cX3_codeAt 9 = .ok (.getfield 55, 3) := by decide +kernel
theorem dX3_codeAt_12 : decode cX3_codeAt 12 = .ok (.iload_n 1, 1) := by decide +kernel
theorem dX3_codeAt_13 : decode cX3_codeAt 13 = .ok (.aload_n 0, 1) := by decide +kernel
theorem dX3_codeAt_14 : decode cX3_codeAt 14 = .ok (.getfield 81, 3) := by decide +kernel
theorem dX3_codeAt_17 : decode cX3_codeAt 17 = .ok (.iadd, 1) := by decide +kernel
theorem dX3_codeAt_18 : decode cX3_codeAt 18 = .ok (.iaload, 1) := by decide +kernel
theorem dX3_codeAt_19 : decode cX3_codeAt 19 = .ok (.goto 5, 3) := by decide +kernel
theorem dX3_codeAt_22 : decode cX3_codeAt 22 = .ok (.bipush (-9), 2) := by decide +kernel
theorem dX3_codeAt_24 : decode cX3_codeAt 24 = .ok (.ireturn, 1) := by decide +kernel
set_option maxRecDepth 20000 in
theorem ggX3_figure_X3_codeAt : GoodIn wsX3_figure wsX3_codeAt := goodIn_r _ [6, 1, 7, 11, 12, 13, 14, 15, 16, 17, 18, 19, 20, 21, 22, 23, 24, 25, 26, 27, 28, 29, 30, 31, 32, 33, 34, 35, 36] (by decide +kernel) (by decide +kernel)
set_option maxRecDepth 20000 in
theorem gX3_figure_X3_codeAt : GoodIn wsX3_figure (wsV RX3 84 RX3 yX3_codeAt wsX3_codeAt) := goodIn_app (goodIn_of _ (by decide +kernel)) ggX3_figure_X3_codeAt
set_option maxRecDepth 20000 in
theorem ggX3_figure_X3_in : GoodIn wsX3_figure wsX3_in := goodIn_r _ [10] (by decide +kernel) (by decide +kernel)
set_option maxRecDepth 20000 in
theorem gX3_figure_X3_in : GoodIn wsX3_figure (va_wsS RX3 71 yX3_in wsX3_in) := goodIn_app (goodIn_of _ (by decide +kernel)) ggX3_figure_X3_in
theorem dX3_figure_0 : decode cX3_figure 0 = .ok (.aload_n 0, 1) := by decide +kernel
theorem dX3_figure_1 : decode cX3_figure 1 = .ok (.iload_n 1, 1) := by decide +kernel
theorem dX3_figure_2 : decode cX3_figure 2 = .ok (.iload_n 2, 1) := by decide +kernel
theorem dX3_figure_3 : decode cX3_figure 3 = .ok (.invokevirtual 84, 3) := by decide +kernel
theorem dX3_figure_6 : decode cX3_figure 6 = .ok (.bipush 48, 2) := by decide +kernel
theorem dX3_figure_8 : decode cX3_figure 8 = .ok (.isub, 1) := by decide +kernel
theorem dX3_figure_9 : decode cX3_figure 9 = .ok (.istore 4, 2) := by decide +kernel
theorem dX3_figure_11 : decode cX3_figure 11 = .ok (.iload 4, 2) := by decide +kernel
theorem dX3_figure_13 : decode cX3_figure 13 = .ok (.i2l, 1) := by decide +kernel
theorem dX3_figure_14 : decode cX3_figure 14 = .ok (.lconst 0, 1) := by decide +kernel
theorem dX3_figure_15 : decode cX3_figure 15 = .ok (.iload_n 3, 1) := by decide +kernel
theorem dX3_figure_16 : decode cX3_figure 16 = .ok (.i2l, 1) := by decide +kernel
theorem dX3_figure_17 : decode cX3_figure 17 = .ok (.invokestatic 71, 3) := by decide +kernel
theorem dX3_figure_20 : decode cX3_figure 20 = .ok (.istore 5, 2) := by decide +kernel
theorem dX3_figure_22 : decode cX3_figure 22 = .ok (.aload_n 0, 1) := by decide +kernel
theorem dX3_figure_23 : decode cX3_figure 23 = .ok (.dup, 1) := by decide +kernel
theorem dX3_figure_24 : decode cX3_figure 24 = .ok (.getfield 81, 3) := by decide +kernel
theorem dX3_figure_27 : decode cX3_figure 27 = .ok (.iload 5, 2) := by decide +kernel
theorem dX3_figure_29 : decode cX3_figure 29 = .ok (.ifCond .eq 7, 3) := by decide +kernel
theorem dX3_figure_32 : decode cX3_figure 32 = .ok (.iconst 1, 1) := by decide +kernel
theorem dX3_figure_33 : decode cX3_figure 33 = .ok (.goto 4, 3) := by decide +kernel
theorem dX3_figure_36 : decode cX3_figure 36 = .ok (.iconst 0, 1) := by decide +kernel
theorem dX3_figure_37 : decode cX3_figure 37 = .ok (.iadd, 1) := by decide +kernel
theorem dX3_figure_38 : decode cX3_figure 38 = .ok (.putfield 81, 3) := by decide +kernel
theorem dX3_figure_41 : decode cX3_figure 41 = .ok (.iload 5, 2) := by decide +kernel
theorem dX3_figure_43 : decode cX3_figure 43 = .ok (.ifCond .eq 8, 3) := by decide +kernel
theorem dX3_figure_46 : decode cX3_figure 46 = .ok (.iload 4, 2) := by decide +kernel
theorem dX3_figure_48 : decode cX3_figure 48 = .ok (.goto 5, 3) := by decide +kernel
theorem dX3_figure_51 : decode cX3_figure 51 = .ok (.bipush (-9), 2) := by decide +kernel
theorem dX3_figure_53 : decode cX3_figure 53 = .ok (.ireturn, 1) := by decide +kernel
set_option maxRecDepth 20000 in
theorem ggX3_readsSquares_X3_figure : GoodIn wsX3_readsSquares wsX3_figure := goodIn_r _ [7, 8, 9, 10, 11, 6, 12, 13, 14, 15, 16, 17, 18, 19, 20, 21, 22, 23, 24, 25, 26, 27, 28, 29, 30, 31, 32, 33, 34, 35, 36, 37, 38, 39, 40, 41, 42] (by decide +kernel) (by decide +kernel)
set_option maxRecDepth 20000 in
theorem gX3_readsSquares_X3_figure : GoodIn wsX3_readsSquares (wsV RX3 91 RX3 yX3_figure wsX3_figure) := goodIn_app (goodIn_of _ (by decide +kernel)) ggX3_readsSquares_X3_figure
theorem dX3_readsSquares_0 : decode cX3_readsSquares 0 = .ok (.iconst 1, 1) := by decide +kernel
theorem dX3_readsSquares_1 : decode cX3_readsSquares 1 = .ok (.istore_n 3, 1) := by decide +kernel
theorem dX3_readsSquares_2 : decode cX3_readsSquares 2 = .ok (.aload_n 0, 1) := by decide +kernel
theorem dX3_readsSquares_3 : decode cX3_readsSquares 3 = .ok (.getfield 88, 3) := by decide +kernel
theorem dX3_readsSquares_6 : decode cX3_readsSquares 6 = .ok (.bipush 6, 2) := by decide +kernel
theorem dX3_readsSquares_8 : decode cX3_readsSquares 8 = .ok (.if_icmp .ge 56, 3) := by decide +kernel
theorem dX3_readsSquares_11 : decode cX3_readsSquares 11 = .ok (.iload_n 3, 1) := by decide +kernel
theorem dX3_readsSquares_12 : decode cX3_readsSquares 12 = .ok (.ifCond .eq 52, 3) := by decide +kernel
theorem dX3_readsSquares_15 : decode cX3_readsSquares 15 = .ok (.aload_n 0, 1) := by decide +kernel
theorem dX3_readsSquares_16 : decode cX3_readsSquares 16 = .ok (.iload_n 1, 1) := by decide +kernel
theorem dX3_readsSquares_17 : decode cX3_readsSquares 17 = .ok (.iload_n 2, 1) := by decide +kernel
theorem dX3_readsSquares_18 : decode cX3_readsSquares 18 = .ok (.bipush 9, 2) := by decide +kernel
theorem dX3_readsSquares_20 : decode cX3_readsSquares 20 = .ok (.invokevirtual 91, 3) := by decide +kernel
theorem dX3_readsSquares_23 : decode cX3_readsSquares 23 = .ok (.istore 4, 2) := by decide +kernel
theorem dX3_readsSquares_25 : decode cX3_readsSquares 25 = .ok (.iload 4, 2) := by decide +kernel
theorem dX3_readsSquares_27 : decode cX3_readsSquares 27 = .ok (.ifCond .lt 7, 3) := by decide +kernel
theorem dX3_readsSquares_30 : decode cX3_readsSquares 30 = .ok (.iconst 1, 1) := by decide +kernel
theorem dX3_readsSquares_31 : decode cX3_readsSquares 31 = .ok (.goto 4, 3) := by decide +kernel
theorem dX3_readsSquares_34 : decode cX3_readsSquares 34 = .ok (.iconst 0, 1) := by decide +kernel
theorem dX3_readsSquares_35 : decode cX3_readsSquares 35 = .ok (.istore_n 3, 1) := by decide +kernel
theorem dX3_readsSquares_36 : decode cX3_readsSquares 36 = .ok (.iload_n 3, 1) := by decide +kernel
theorem dX3_readsSquares_37 : decode cX3_readsSquares 37 = .ok (.ifCond .eq 24, 3) := by decide +kernel
theorem dX3_readsSquares_40 : decode cX3_readsSquares 40 = .ok (.aload_n 0, 1) := by decide +kernel
theorem dX3_readsSquares_41 : decode cX3_readsSquares 41 = .ok (.getfield 25, 3) := by decide +kernel
theorem dX3_readsSquares_44 : decode cX3_readsSquares 44 = .ok (.aload_n 0, 1) := by decide +kernel
theorem dX3_readsSquares_45 : decode cX3_readsSquares 45 = .ok (.getfield 88, 3) := by decide +kernel
theorem dX3_readsSquares_48 : decode cX3_readsSquares 48 = .ok (.iload 4, 2) := by decide +kernel
theorem dX3_readsSquares_50 : decode cX3_readsSquares 50 = .ok (.iastore, 1) := by decide +kernel
theorem dX3_readsSquares_51 : decode cX3_readsSquares 51 = .ok (.aload_n 0, 1) := by decide +kernel
theorem dX3_readsSquares_52 : decode cX3_readsSquares 52 = .ok (.dup, 1) := by decide +kernel
theorem dX3_readsSquares_53 : decode cX3_readsSquares 53 = .ok (.getfield 88, 3) := by decide +kernel
theorem dX3_readsSquares_56 : decode cX3_readsSquares 56 = .ok (.iconst 1, 1) := by decide +kernel
theorem dX3_readsSquares_57 : decode cX3_readsSquares 57 = .ok (.iadd, 1) := by decide +kernel
theorem dX3_readsSquares_58 : decode cX3_readsSquares 58 = .ok (.putfield 88, 3) := by decide +kernel
theorem dX3_readsSquares_61 : decode cX3_readsSquares 61 = .ok (.goto (-59), 3) := by decide +kernel
theorem dX3_readsSquares_64 : decode cX3_readsSquares 64 = .ok (.aload_n 0, 1) := by decide +kernel
theorem dX3_readsSquares_65 : decode cX3_readsSquares 65 = .ok (.getfield 88, 3) := by decide +kernel
theorem dX3_readsSquares_68 : decode cX3_readsSquares 68 = .ok (.iconst 1, 1) := by decide +kernel
theorem dX3_readsSquares_69 : decode cX3_readsSquares 69 = .ok (.if_icmp .le 7, 3) := by decide +kernel
theorem dX3_readsSquares_72 : decode cX3_readsSquares 72 = .ok (.iconst 1, 1) := by decide +kernel
theorem dX3_readsSquares_73 : decode cX3_readsSquares 73 = .ok (.goto 4, 3) := by decide +kernel
theorem dX3_readsSquares_76 : decode cX3_readsSquares 76 = .ok (.iconst 0, 1) := by decide +kernel
theorem dX3_readsSquares_77 : decode cX3_readsSquares 77 = .ok (.ireturn, 1) := by decide +kernel
set_option maxRecDepth 20000 in
theorem ggX3_readsThing_X3_codeAt : GoodIn wsX3_readsThing wsX3_codeAt := goodIn_r _ [12, 2, 13, 21, 22, 23, 24, 25, 26, 27, 28, 29, 30, 31, 32, 33, 34, 35, 36, 37, 38, 39, 40, 41, 42, 43, 44, 45, 46] (by decide +kernel) (by decide +kernel)
set_option maxRecDepth 20000 in
theorem gX3_readsThing_X3_codeAt : GoodIn wsX3_readsThing (wsV RX3 84 RX3 yX3_codeAt wsX3_codeAt) := goodIn_app (goodIn_of _ (by decide +kernel)) ggX3_readsThing_X3_codeAt
set_option maxRecDepth 20000 in
theorem ggX3_readsThing_X3_figure : GoodIn wsX3_readsThing wsX3_figure := goodIn_r _ [17, 2, 8, 9, 10, 11, 12, 13, 18, 19, 20, 21, 22, 23, 24, 25, 26, 27, 28, 29, 30, 31, 32, 33, 34, 35, 36, 37, 38, 39, 40, 41, 42, 43, 44, 45, 46] (by decide +kernel) (by decide +kernel)
set_option maxRecDepth 20000 in
theorem gX3_readsThing_X3_figure : GoodIn wsX3_readsThing (wsV RX3 91 RX3 yX3_figure wsX3_figure) := goodIn_app (goodIn_of _ (by decide +kernel)) ggX3_readsThing_X3_figure
theorem dX3_readsThing_0 : decode cX3_readsThing 0 = .ok (.aload_n 0, 1) := by decide +kernel
theorem dX3_readsThing_1 : decode cX3_readsThing 1 = .ok (.getfield 95, 3) := by decide +kernel
theorem dX3_readsThing_4 : decode cX3_readsThing 4 = .ok (.bipush 6, 2) := by decide +kernel
theorem dX3_readsThing_6 : decode cX3_readsThing 6 = .ok (.if_icmp .eq 14, 3) := by decide +kernel
theorem dX3_readsThing_9 : decode cX3_readsThing 9 = .ok (.aload_n 0, 1) := by decide +kernel
theorem dX3_readsThing_10 : decode cX3_readsThing 10 = .ok (.iload_n 1, 1) := by decide +kernel
theorem dX3_readsThing_11 : decode cX3_readsThing 11 = .ok (.iload_n 2, 1) := by decide +kernel
theorem dX3_readsThing_12 : decode cX3_readsThing 12 = .ok (.invokevirtual 84, 3) := by decide +kernel
theorem dX3_readsThing_15 : decode cX3_readsThing 15 = .ok (.bipush 59, 2) := by decide +kernel
theorem dX3_readsThing_17 : decode cX3_readsThing 17 = .ok (.if_icmp .eq 5, 3) := by decide +kernel
theorem dX3_readsThing_20 : decode cX3_readsThing 20 = .ok (.iconst 0, 1) := by decide +kernel
theorem dX3_readsThing_21 : decode cX3_readsThing 21 = .ok (.ireturn, 1) := by decide +kernel
theorem dX3_readsThing_22 : decode cX3_readsThing 22 = .ok (.aload_n 0, 1) := by decide +kernel
theorem dX3_readsThing_23 : decode cX3_readsThing 23 = .ok (.dup, 1) := by decide +kernel
theorem dX3_readsThing_24 : decode cX3_readsThing 24 = .ok (.getfield 81, 3) := by decide +kernel
theorem dX3_readsThing_27 : decode cX3_readsThing 27 = .ok (.iconst 1, 1) := by decide +kernel
theorem dX3_readsThing_28 : decode cX3_readsThing 28 = .ok (.iadd, 1) := by decide +kernel
theorem dX3_readsThing_29 : decode cX3_readsThing 29 = .ok (.putfield 81, 3) := by decide +kernel
theorem dX3_readsThing_32 : decode cX3_readsThing 32 = .ok (.aload_n 0, 1) := by decide +kernel
theorem dX3_readsThing_33 : decode cX3_readsThing 33 = .ok (.iload_n 1, 1) := by decide +kernel
theorem dX3_readsThing_34 : decode cX3_readsThing 34 = .ok (.iload_n 2, 1) := by decide +kernel
theorem dX3_readsThing_35 : decode cX3_readsThing 35 = .ok (.invokevirtual 84, 3) := by decide +kernel
theorem dX3_readsThing_38 : decode cX3_readsThing 38 = .ok (.istore_n 3, 1) := by decide +kernel
theorem dX3_readsThing_39 : decode cX3_readsThing 39 = .ok (.iload_n 3, 1) := by decide +kernel
theorem dX3_readsThing_40 : decode cX3_readsThing 40 = .ok (.bipush 102, 2) := by decide +kernel
theorem dX3_readsThing_42 : decode cX3_readsThing 42 = .ok (.if_icmp .eq 17, 3) := by decide +kernel
theorem dX3_readsThing_45 : decode cX3_readsThing 45 = .ok (.iload_n 3, 1) := by decide +kernel
theorem dX3_readsThing_46 : decode cX3_readsThing 46 = .ok (.bipush 115, 2) := by decide +kernel
theorem dX3_readsThing_48 : decode cX3_readsThing 48 = .ok (.if_icmp .eq 11, 3) := by decide +kernel
theorem dX3_readsThing_51 : decode cX3_readsThing 51 = .ok (.iload_n 3, 1) := by decide +kernel
theorem dX3_readsThing_52 : decode cX3_readsThing 52 = .ok (.bipush 103, 2) := by decide +kernel
theorem dX3_readsThing_54 : decode cX3_readsThing 54 = .ok (.if_icmp .eq 5, 3) := by decide +kernel
theorem dX3_readsThing_57 : decode cX3_readsThing 57 = .ok (.iconst 0, 1) := by decide +kernel
theorem dX3_readsThing_58 : decode cX3_readsThing 58 = .ok (.ireturn, 1) := by decide +kernel
theorem dX3_readsThing_59 : decode cX3_readsThing 59 = .ok (.aload_n 0, 1) := by decide +kernel
theorem dX3_readsThing_60 : decode cX3_readsThing 60 = .ok (.dup, 1) := by decide +kernel
theorem dX3_readsThing_61 : decode cX3_readsThing 61 = .ok (.getfield 81, 3) := by decide +kernel
theorem dX3_readsThing_64 : decode cX3_readsThing 64 = .ok (.iconst 1, 1) := by decide +kernel
theorem dX3_readsThing_65 : decode cX3_readsThing 65 = .ok (.iadd, 1) := by decide +kernel
theorem dX3_readsThing_66 : decode cX3_readsThing 66 = .ok (.putfield 81, 3) := by decide +kernel
theorem dX3_readsThing_69 : decode cX3_readsThing 69 = .ok (.aload_n 0, 1) := by decide +kernel
theorem dX3_readsThing_70 : decode cX3_readsThing 70 = .ok (.iload_n 1, 1) := by decide +kernel
theorem dX3_readsThing_71 : decode cX3_readsThing 71 = .ok (.iload_n 2, 1) := by decide +kernel
theorem dX3_readsThing_72 : decode cX3_readsThing 72 = .ok (.iconst 1, 1) := by decide +kernel
theorem dX3_readsThing_73 : decode cX3_readsThing 73 = .ok (.invokevirtual 91, 3) := by decide +kernel
theorem dX3_readsThing_76 : decode cX3_readsThing 76 = .ok (.istore 4, 2) := by decide +kernel
theorem dX3_readsThing_78 : decode cX3_readsThing 78 = .ok (.iload 4, 2) := by decide +kernel
theorem dX3_readsThing_80 : decode cX3_readsThing 80 = .ok (.ifCond .ge 8, 3) := by decide +kernel
theorem dX3_readsThing_83 : decode cX3_readsThing 83 = .ok (.bipush (-9), 2) := by decide +kernel
theorem dX3_readsThing_85 : decode cX3_readsThing 85 = .ok (.goto 15, 3) := by decide +kernel
theorem dX3_readsThing_88 : decode cX3_readsThing 88 = .ok (.aload_n 0, 1) := by decide +kernel
theorem dX3_readsThing_89 : decode cX3_readsThing 89 = .ok (.iload_n 1, 1) := by decide +kernel
theorem dX3_readsThing_90 : decode cX3_readsThing 90 = .ok (.iload_n 2, 1) := by decide +kernel
theorem dX3_readsThing_91 : decode cX3_readsThing 91 = .ok (.aload_n 0, 1) := by decide +kernel
theorem dX3_readsThing_92 : decode cX3_readsThing 92 = .ok (.getfield 88, 3) := by decide +kernel
theorem dX3_readsThing_95 : decode cX3_readsThing 95 = .ok (.iconst 1, 1) := by decide +kernel
theorem dX3_readsThing_96 : decode cX3_readsThing 96 = .ok (.isub, 1) := by decide +kernel
theorem dX3_readsThing_97 : decode cX3_readsThing 97 = .ok (.invokevirtual 91, 3) := by decide +kernel
theorem dX3_readsThing_100 : decode cX3_readsThing 100 = .ok (.istore 5, 2) := by decide +kernel
theorem dX3_readsThing_102 : decode cX3_readsThing 102 = .ok (.iload 5, 2) := by decide +kernel
theorem dX3_readsThing_104 : decode cX3_readsThing 104 = .ok (.ifCond .ge 8, 3) := by decide +kernel
theorem dX3_readsThing_107 : decode cX3_readsThing 107 = .ok (.bipush (-9), 2) := by decide +kernel
theorem dX3_readsThing_109 : decode cX3_readsThing 109 = .ok (.goto 11, 3) := by decide +kernel
theorem dX3_readsThing_112 : decode cX3_readsThing 112 = .ok (.aload_n 0, 1) := by decide +kernel
theorem dX3_readsThing_113 : decode cX3_readsThing 113 = .ok (.iload_n 1, 1) := by decide +kernel
theorem dX3_readsThing_114 : decode cX3_readsThing 114 = .ok (.iload_n 2, 1) := by decide +kernel
theorem dX3_readsThing_115 : decode cX3_readsThing 115 = .ok (.bipush 9, 2) := by decide +kernel
theorem dX3_readsThing_117 : decode cX3_readsThing 117 = .ok (.invokevirtual 91, 3) := by decide +kernel
theorem dX3_readsThing_120 : decode cX3_readsThing 120 = .ok (.istore 6, 2) := by decide +kernel
theorem dX3_readsThing_122 : decode cX3_readsThing 122 = .ok (.iload 6, 2) := by decide +kernel
theorem dX3_readsThing_124 : decode cX3_readsThing 124 = .ok (.ifCond .ge 5, 3) := by decide +kernel
theorem dX3_readsThing_127 : decode cX3_readsThing 127 = .ok (.iconst 0, 1) := by decide +kernel
theorem dX3_readsThing_128 : decode cX3_readsThing 128 = .ok (.ireturn, 1) := by decide +kernel
theorem dX3_readsThing_129 : decode cX3_readsThing 129 = .ok (.aload_n 0, 1) := by decide +kernel
theorem dX3_readsThing_130 : decode cX3_readsThing 130 = .ok (.getfield 28, 3) := by decide +kernel
theorem dX3_readsThing_133 : decode cX3_readsThing 133 = .ok (.aload_n 0, 1) := by decide +kernel
theorem dX3_readsThing_134 : decode cX3_readsThing 134 = .ok (.getfield 95, 3) := by decide +kernel
theorem dX3_readsThing_137 : decode cX3_readsThing 137 = .ok (.iload_n 3, 1) := by decide +kernel
theorem dX3_readsThing_138 : decode cX3_readsThing 138 = .ok (.bipush 102, 2) := by decide +kernel
theorem dX3_readsThing_140 : decode cX3_readsThing 140 = .ok (.if_icmp .ne 7, 3) := by decide +kernel
theorem dX3_readsThing_143 : decode cX3_readsThing 143 = .ok (.iconst 0, 1) := by decide +kernel
theorem dX3_readsThing_144 : decode cX3_readsThing 144 = .ok (.goto 14, 3) := by decide +kernel
theorem dX3_readsThing_147 : decode cX3_readsThing 147 = .ok (.iload_n 3, 1) := by decide +kernel
theorem dX3_readsThing_148 : decode cX3_readsThing 148 = .ok (.bipush 115, 2) := by decide +kernel
theorem dX3_readsThing_150 : decode cX3_readsThing 150 = .ok (.if_icmp .ne 7, 3) := by decide +kernel
theorem dX3_readsThing_153 : decode cX3_readsThing 153 = .ok (.iconst 1, 1) := by decide +kernel
theorem dX3_readsThing_154 : decode cX3_readsThing 154 = .ok (.goto 4, 3) := by decide +kernel
theorem dX3_readsThing_157 : decode cX3_readsThing 157 = .ok (.iconst 2, 1) := by decide +kernel
theorem dX3_readsThing_158 : decode cX3_readsThing 158 = .ok (.iastore, 1) := by decide +kernel
theorem dX3_readsThing_159 : decode cX3_readsThing 159 = .ok (.aload_n 0, 1) := by decide +kernel
theorem dX3_readsThing_160 : decode cX3_readsThing 160 = .ok (.getfield 31, 3) := by decide +kernel
theorem dX3_readsThing_163 : decode cX3_readsThing 163 = .ok (.aload_n 0, 1) := by decide +kernel
theorem dX3_readsThing_164 : decode cX3_readsThing 164 = .ok (.getfield 95, 3) := by decide +kernel
theorem dX3_readsThing_167 : decode cX3_readsThing 167 = .ok (.iload 4, 2) := by decide +kernel
theorem dX3_readsThing_169 : decode cX3_readsThing 169 = .ok (.iastore, 1) := by decide +kernel
theorem dX3_readsThing_170 : decode cX3_readsThing 170 = .ok (.aload_n 0, 1) := by decide +kernel
theorem dX3_readsThing_171 : decode cX3_readsThing 171 = .ok (.getfield 34, 3) := by decide +kernel
theorem dX3_readsThing_174 : decode cX3_readsThing 174 = .ok (.aload_n 0, 1) := by decide +kernel
theorem dX3_readsThing_175 : decode cX3_readsThing 175 = .ok (.getfield 95, 3) := by decide +kernel
theorem dX3_readsThing_178 : decode cX3_readsThing 178 = .ok (.iload 5, 2) := by decide +kernel
theorem dX3_readsThing_180 : decode cX3_readsThing 180 = .ok (.iastore, 1) := by decide +kernel
theorem dX3_readsThing_181 : decode cX3_readsThing 181 = .ok (.aload_n 0, 1) := by decide +kernel
theorem dX3_readsThing_182 : decode cX3_readsThing 182 = .ok (.getfield 37, 3) := by decide +kernel
theorem dX3_readsThing_185 : decode cX3_readsThing 185 = .ok (.aload_n 0, 1) := by decide +kernel
theorem dX3_readsThing_186 : decode cX3_readsThing 186 = .ok (.getfield 95, 3) := by decide +kernel
theorem dX3_readsThing_189 : decode cX3_readsThing 189 = .ok (.iload 6, 2) := by decide +kernel
theorem dX3_readsThing_191 : decode cX3_readsThing 191 = .ok (.iastore, 1) := by decide +kernel
theorem dX3_readsThing_192 : decode cX3_readsThing 192 = .ok (.aload_n 0, 1) := by decide +kernel
theorem dX3_readsThing_193 : decode cX3_readsThing 193 = .ok (.dup, 1) := by decide +kernel
theorem dX3_readsThing_194 : decode cX3_readsThing 194 = .ok (.getfield 95, 3) := by decide +kernel
theorem dX3_readsThing_197 : decode cX3_readsThing 197 = .ok (.iconst 1, 1) := by decide +kernel
theorem dX3_readsThing_198 : decode cX3_readsThing 198 = .ok (.iadd, 1) := by decide +kernel
theorem dX3_readsThing_199 : decode cX3_readsThing 199 = .ok (.putfield 95, 3) := by decide +kernel
theorem dX3_readsThing_202 : decode cX3_readsThing 202 = .ok (.iconst 1, 1) := by decide +kernel
theorem dX3_readsThing_203 : decode cX3_readsThing 203 = .ok (.ireturn, 1) := by decide +kernel
set_option maxRecDepth 20000 in
theorem ggX3_readsTable_X3_codeAt : GoodIn wsX3_readsTable wsX3_codeAt := goodIn_r _ [8, 1, 9, 30, 31, 32, 33, 34, 35, 36, 37, 38, 39, 40, 41, 42, 43, 44, 45, 46, 47, 48, 49, 50, 51, 52, 53, 54, 55] (by decide +kernel) (by decide +kernel)
set_option maxRecDepth 20000 in
theorem gX3_readsTable_X3_codeAt : GoodIn wsX3_readsTable (wsV RX3 84 RX3 yX3_codeAt wsX3_codeAt) := goodIn_app (goodIn_of _ (by decide +kernel)) ggX3_readsTable_X3_codeAt
set_option maxRecDepth 20000 in
theorem ggX3_readsTable_X3_readsSquares : GoodIn wsX3_readsTable wsX3_readsSquares := goodIn_r _ [13, 2, 14, 15, 16, 17, 7, 18, 1, 4, 5, 6, 8, 9, 19, 20, 21, 30, 31, 32, 33, 34, 35, 36, 37, 38, 39, 40, 41, 42, 43, 44, 45, 46, 47, 48, 49, 50, 51, 52, 53, 54, 55] (by decide +kernel) (by decide +kernel)
set_option maxRecDepth 20000 in
theorem gX3_readsTable_X3_readsSquares : GoodIn wsX3_readsTable (wsV RX3 98 RX3 yX3_readsSquares wsX3_readsSquares) := goodIn_app (goodIn_of _ (by decide +kernel)) ggX3_readsTable_X3_readsSquares
set_option maxRecDepth 20000 in
theorem ggX3_readsTable_X3_readsThing : GoodIn wsX3_readsTable wsX3_readsThing := goodIn_r _ [25, 3, 1, 2, 26, 27, 28, 29, 4, 5, 6, 7, 8, 9, 15, 16, 17, 18, 19, 20, 21, 30, 31, 32, 33, 34, 35, 36, 37, 38, 39, 40, 41, 42, 43, 44, 45, 46, 47, 48, 49, 50, 51, 52, 53, 54, 55] (by decide +kernel) (by decide +kernel)
set_option maxRecDepth 20000 in
theorem gX3_readsTable_X3_readsThing : GoodIn wsX3_readsTable (wsV RX3 102 RX3 yX3_readsThing wsX3_readsThing) := goodIn_app (goodIn_of _ (by decide +kernel)) ggX3_readsTable_X3_readsThing
theorem dX3_readsTable_0 : decode cX3_readsTable 0 = .ok (.aload_n 0, 1) := by decide +kernel
theorem dX3_readsTable_1 : decode cX3_readsTable 1 = .ok (.iconst 0, 1) := by decide +kernel
theorem dX3_readsTable_2 : decode cX3_readsTable 2 = .ok (.putfield 81, 3) := by decide +kernel
theorem dX3_readsTable_5 : decode cX3_readsTable 5 = .ok (.aload_n 0, 1) := by decide +kernel
theorem dX3_readsTable_6 : decode cX3_readsTable 6 = .ok (.iconst 0, 1) := by decide +kernel
theorem dX3_readsTable_7 : decode cX3_readsTable 7 = .ok (.putfield 88, 3) := by decide +kernel
theorem dX3_readsTable_10 : decode cX3_readsTable 10 = .ok (.aload_n 0, 1) := by decide +kernel
theorem dX3_readsTable_11 : decode cX3_readsTable 11 = .ok (.iconst 0, 1) := by decide +kernel
theorem dX3_readsTable_12 : decode cX3_readsTable 12 = .ok (.putfield 95, 3) := by decide +kernel
theorem dX3_readsTable_15 : decode cX3_readsTable 15 = .ok (.aload_n 0, 1) := by decide +kernel
theorem dX3_readsTable_16 : decode cX3_readsTable 16 = .ok (.iload_n 1, 1) := by decide +kernel
theorem dX3_readsTable_17 : decode cX3_readsTable 17 = .ok (.iload_n 2, 1) := by decide +kernel
theorem dX3_readsTable_18 : decode cX3_readsTable 18 = .ok (.invokevirtual 84, 3) := by decide +kernel
theorem dX3_readsTable_21 : decode cX3_readsTable 21 = .ok (.bipush 116, 2) := by decide +kernel
theorem dX3_readsTable_23 : decode cX3_readsTable 23 = .ok (.if_icmp .ne 7, 3) := by decide +kernel
theorem dX3_readsTable_26 : decode cX3_readsTable 26 = .ok (.iconst 1, 1) := by decide +kernel
theorem dX3_readsTable_27 : decode cX3_readsTable 27 = .ok (.goto 4, 3) := by decide +kernel
theorem dX3_readsTable_30 : decode cX3_readsTable 30 = .ok (.iconst 0, 1) := by decide +kernel
theorem dX3_readsTable_31 : decode cX3_readsTable 31 = .ok (.istore_n 3, 1) := by decide +kernel
theorem dX3_readsTable_32 : decode cX3_readsTable 32 = .ok (.aload_n 0, 1) := by decide +kernel
theorem dX3_readsTable_33 : decode cX3_readsTable 33 = .ok (.dup, 1) := by decide +kernel
theorem dX3_readsTable_34 : decode cX3_readsTable 34 = .ok (.getfield 81, 3) := by decide +kernel
theorem dX3_readsTable_37 : decode cX3_readsTable 37 = .ok (.iload_n 3, 1) := by decide +kernel
theorem dX3_readsTable_38 : decode cX3_readsTable 38 = .ok (.ifCond .eq 7, 3) := by decide +kernel
theorem dX3_readsTable_41 : decode cX3_readsTable 41 = .ok (.iconst 1, 1) := by decide +kernel
theorem dX3_readsTable_42 : decode cX3_readsTable 42 = .ok (.goto 4, 3) := by decide +kernel
theorem dX3_readsTable_45 : decode cX3_readsTable 45 = .ok (.iconst 0, 1) := by decide +kernel
theorem dX3_readsTable_46 : decode cX3_readsTable 46 = .ok (.iadd, 1) := by decide +kernel
theorem dX3_readsTable_47 : decode cX3_readsTable 47 = .ok (.putfield 81, 3) := by decide +kernel
theorem dX3_readsTable_50 : decode cX3_readsTable 50 = .ok (.iload_n 3, 1) := by decide +kernel
theorem dX3_readsTable_51 : decode cX3_readsTable 51 = .ok (.ifCond .eq 16, 3) := by decide +kernel
theorem dX3_readsTable_54 : decode cX3_readsTable 54 = .ok (.aload_n 0, 1) := by decide +kernel
theorem dX3_readsTable_55 : decode cX3_readsTable 55 = .ok (.iload_n 1, 1) := by decide +kernel
theorem dX3_readsTable_56 : decode cX3_readsTable 56 = .ok (.iload_n 2, 1) := by decide +kernel
theorem dX3_readsTable_57 : decode cX3_readsTable 57 = .ok (.invokevirtual 98, 3) := by decide +kernel
theorem dX3_readsTable_60 : decode cX3_readsTable 60 = .ok (.ifCond .eq 7, 3) := by decide +kernel
theorem dX3_readsTable_63 : decode cX3_readsTable 63 = .ok (.iconst 1, 1) := by decide +kernel
theorem dX3_readsTable_64 : decode cX3_readsTable 64 = .ok (.goto 4, 3) := by decide +kernel
theorem dX3_readsTable_67 : decode cX3_readsTable 67 = .ok (.iconst 0, 1) := by decide +kernel
theorem dX3_readsTable_68 : decode cX3_readsTable 68 = .ok (.istore_n 3, 1) := by decide +kernel
theorem dX3_readsTable_69 : decode cX3_readsTable 69 = .ok (.iload_n 3, 1) := by decide +kernel
theorem dX3_readsTable_70 : decode cX3_readsTable 70 = .ok (.ifCond .eq 28, 3) := by decide +kernel
theorem dX3_readsTable_73 : decode cX3_readsTable 73 = .ok (.aload_n 0, 1) := by decide +kernel
theorem dX3_readsTable_74 : decode cX3_readsTable 74 = .ok (.getfield 95, 3) := by decide +kernel
theorem dX3_readsTable_77 : decode cX3_readsTable 77 = .ok (.ifCond .eq 11, 3) := by decide +kernel
theorem dX3_readsTable_80 : decode cX3_readsTable 80 = .ok (.aload_n 0, 1) := by decide +kernel
theorem dX3_readsTable_81 : decode cX3_readsTable 81 = .ok (.getfield 81, 3) := by decide +kernel
theorem dX3_readsTable_84 : decode cX3_readsTable 84 = .ok (.iload_n 2, 1) := by decide +kernel
theorem dX3_readsTable_85 : decode cX3_readsTable 85 = .ok (.if_icmp .ge 13, 3) := by decide +kernel
theorem dX3_readsTable_88 : decode cX3_readsTable 88 = .ok (.aload_n 0, 1) := by decide +kernel
theorem dX3_readsTable_89 : decode cX3_readsTable 89 = .ok (.iload_n 1, 1) := by decide +kernel
theorem dX3_readsTable_90 : decode cX3_readsTable 90 = .ok (.iload_n 2, 1) := by decide +kernel
theorem dX3_readsTable_91 : decode cX3_readsTable 91 = .ok (.invokevirtual 102, 3) := by decide +kernel
theorem dX3_readsTable_94 : decode cX3_readsTable 94 = .ok (.istore_n 3, 1) := by decide +kernel
theorem dX3_readsTable_95 : decode cX3_readsTable 95 = .ok (.goto (-26), 3) := by decide +kernel
theorem dX3_readsTable_98 : decode cX3_readsTable 98 = .ok (.iload_n 3, 1) := by decide +kernel
theorem dX3_readsTable_99 : decode cX3_readsTable 99 = .ok (.ireturn, 1) := by decide +kernel
set_option maxRecDepth 20000 in
theorem ggX3_cellsBarred_X3_failed : GoodIn wsX3_cellsBarred wsX3_failed := goodIn_r _ [7, 8, 12, 13, 14, 15, 16, 17, 18, 19, 20, 21, 22, 23, 24, 25, 26, 27, 28, 29, 30, 31, 32, 33, 34, 35, 36, 37] (by decide +kernel) (by decide +kernel)
set_option maxRecDepth 20000 in
theorem gX3_cellsBarred_X3_failed : GoodIn wsX3_cellsBarred (wsV RX3 105 RX3 yX3_failed wsX3_failed) := goodIn_app (goodIn_of _ (by decide +kernel)) ggX3_cellsBarred_X3_failed
set_option maxRecDepth 20000 in
theorem ggX3_cellsBarred_X3_isBeyond : GoodIn wsX3_cellsBarred wsX3_isBeyond := goodIn_r _ [11] (by decide +kernel) (by decide +kernel)
set_option maxRecDepth 20000 in
theorem gX3_cellsBarred_X3_isBeyond : GoodIn wsX3_cellsBarred (va_wsS RX3 109 yX3_isBeyond wsX3_isBeyond) := goodIn_app (goodIn_of _ (by decide +kernel)) ggX3_cellsBarred_X3_isBeyond
theorem dX3_cellsBarred_0 : decode cX3_cellsBarred 0 = .ok (.aload_n 0, 1) := by decide +kernel
theorem dX3_cellsBarred_1 : decode cX3_cellsBarred 1 = .ok (.getfield 49, 3) := by decide +kernel
theorem dX3_cellsBarred_4 : decode cX3_cellsBarred 4 = .ok (.iload_n 1, 1) := by decide +kernel
theorem dX3_cellsBarred_5 : decode cX3_cellsBarred 5 = .ok (.iaload, 1) := by decide +kernel
theorem dX3_cellsBarred_6 : decode cX3_cellsBarred 6 = .ok (.ifCond .lt 19, 3) := by decide +kernel
theorem dX3_cellsBarred_9 : decode cX3_cellsBarred 9 = .ok (.aload_n 0, 1) := by decide +kernel
theorem dX3_cellsBarred_10 : decode cX3_cellsBarred 10 = .ok (.getfield 52, 3) := by decide +kernel
theorem dX3_cellsBarred_13 : decode cX3_cellsBarred 13 = .ok (.iload_n 1, 1) := by decide +kernel
theorem dX3_cellsBarred_14 : decode cX3_cellsBarred 14 = .ok (.iaload, 1) := by decide +kernel
theorem dX3_cellsBarred_15 : decode cX3_cellsBarred 15 = .ok (.iload_n 2, 1) := by decide +kernel
theorem dX3_cellsBarred_16 : decode cX3_cellsBarred 16 = .ok (.if_icmp .eq 9, 3) := by decide +kernel
theorem dX3_cellsBarred_19 : decode cX3_cellsBarred 19 = .ok (.aload_n 0, 1) := by decide +kernel
theorem dX3_cellsBarred_20 : decode cX3_cellsBarred 20 = .ok (.iconst 2, 1) := by decide +kernel
theorem dX3_cellsBarred_21 : decode cX3_cellsBarred 21 = .ok (.invokevirtual 105, 3) := by decide +kernel
theorem dX3_cellsBarred_24 : decode cX3_cellsBarred 24 = .ok (.ireturn, 1) := by decide +kernel
theorem dX3_cellsBarred_25 : decode cX3_cellsBarred 25 = .ok (.aload_n 0, 1) := by decide +kernel
theorem dX3_cellsBarred_26 : decode cX3_cellsBarred 26 = .ok (.getfield 49, 3) := by decide +kernel
theorem dX3_cellsBarred_29 : decode cX3_cellsBarred 29 = .ok (.iload_n 1, 1) := by decide +kernel
theorem dX3_cellsBarred_30 : decode cX3_cellsBarred 30 = .ok (.iaload, 1) := by decide +kernel
theorem dX3_cellsBarred_31 : decode cX3_cellsBarred 31 = .ok (.ifCond .ge 9, 3) := by decide +kernel
theorem dX3_cellsBarred_34 : decode cX3_cellsBarred 34 = .ok (.aload_n 0, 1) := by decide +kernel
theorem dX3_cellsBarred_35 : decode cX3_cellsBarred 35 = .ok (.iconst 1, 1) := by decide +kernel
theorem dX3_cellsBarred_36 : decode cX3_cellsBarred 36 = .ok (.invokevirtual 105, 3) := by decide +kernel
theorem dX3_cellsBarred_39 : decode cX3_cellsBarred 39 = .ok (.ireturn, 1) := by decide +kernel
theorem dX3_cellsBarred_40 : decode cX3_cellsBarred 40 = .ok (.lload 4, 2) := by decide +kernel
theorem dX3_cellsBarred_42 : decode cX3_cellsBarred 42 = .ok (.lconst 0, 1) := by decide +kernel
theorem dX3_cellsBarred_43 : decode cX3_cellsBarred 43 = .ok (.lcmp, 1) := by decide +kernel
theorem dX3_cellsBarred_44 : decode cX3_cellsBarred 44 = .ok (.ifCond .ge 9, 3) := by decide +kernel
theorem dX3_cellsBarred_47 : decode cX3_cellsBarred 47 = .ok (.aload_n 0, 1) := by decide +kernel
theorem dX3_cellsBarred_48 : decode cX3_cellsBarred 48 = .ok (.iconst 4, 1) := by decide +kernel
theorem dX3_cellsBarred_49 : decode cX3_cellsBarred 49 = .ok (.invokevirtual 105, 3) := by decide +kernel
theorem dX3_cellsBarred_52 : decode cX3_cellsBarred 52 = .ok (.ireturn, 1) := by decide +kernel
theorem dX3_cellsBarred_53 : decode cX3_cellsBarred 53 = .ok (.iload_n 3, 1) := by decide +kernel
theorem dX3_cellsBarred_54 : decode cX3_cellsBarred 54 = .ok (.lload 4, 2) := by decide +kernel
theorem dX3_cellsBarred_56 : decode cX3_cellsBarred 56 = .ok (.aload_n 0, 1) := by decide +kernel
theorem dX3_cellsBarred_57 : decode cX3_cellsBarred 57 = .ok (.getfield 49, 3) := by decide +kernel
theorem dX3_cellsBarred_60 : decode cX3_cellsBarred 60 = .ok (.iload_n 1, 1) := by decide +kernel
theorem dX3_cellsBarred_61 : decode cX3_cellsBarred 61 = .ok (.iaload, 1) := by decide +kernel
theorem dX3_cellsBarred_62 : decode cX3_cellsBarred 62 = .ok (.invokestatic 109, 3) := by decide +kernel
theorem dX3_cellsBarred_65 : decode cX3_cellsBarred 65 = .ok (.ifCond .eq 11, 3) := by decide +kernel
theorem dX3_cellsBarred_68 : decode cX3_cellsBarred 68 = .ok (.aload_n 0, 1) := by decide +kernel
theorem dX3_cellsBarred_69 : decode cX3_cellsBarred 69 = .ok (.iconst 3, 1) := by decide +kernel
theorem dX3_cellsBarred_70 : decode cX3_cellsBarred 70 = .ok (.invokevirtual 105, 3) := by decide +kernel
theorem dX3_cellsBarred_73 : decode cX3_cellsBarred 73 = .ok (.goto 4, 3) := by decide +kernel
theorem dX3_cellsBarred_76 : decode cX3_cellsBarred 76 = .ok (.iconst 0, 1) := by decide +kernel
theorem dX3_cellsBarred_77 : decode cX3_cellsBarred 77 = .ok (.ireturn, 1) := by decide +kernel
set_option maxRecDepth 20000 in
theorem ggX3_table_X3_noSheet : GoodIn wsX3_table wsX3_noSheet := goodIn_r _ [22, 23, 24, 25, 21, 26] (by decide +kernel) (by decide +kernel)
set_option maxRecDepth 20000 in
theorem gX3_table_X3_noSheet : GoodIn wsX3_table (va_wsS RX3 113 yX3_noSheet wsX3_noSheet) := goodIn_app (goodIn_of _ (by decide +kernel)) ggX3_table_X3_noSheet
set_option maxRecDepth 20000 in
theorem ggX3_table_X3_refused : GoodIn wsX3_table wsX3_refused := goodIn_r _ [30, 31, 66, 67, 68, 69, 70, 71, 72, 73, 74, 75, 76, 77, 78, 79, 80, 81, 82, 83, 84, 85, 86, 87, 88, 89, 90, 91] (by decide +kernel) (by decide +kernel)
set_option maxRecDepth 20000 in
theorem gX3_table_X3_refused : GoodIn wsX3_table (wsV RX3 117 RX3 yX3_refused wsX3_refused) := goodIn_app (goodIn_of _ (by decide +kernel)) ggX3_table_X3_refused
set_option maxRecDepth 20000 in
theorem ggX3_table_X3_in : GoodIn wsX3_table wsX3_in := goodIn_r _ [26] (by decide +kernel) (by decide +kernel)
set_option maxRecDepth 20000 in
theorem gX3_table_X3_in : GoodIn wsX3_table (va_wsS RX3 71 yX3_in wsX3_in) := goodIn_app (goodIn_of _ (by decide +kernel)) ggX3_table_X3_in
set_option maxRecDepth 20000 in
theorem ggX3_table_X3_cellsBarred : GoodIn wsX3_table wsX3_cellsBarred := goodIn_r _ [35, 36, 37, 38, 39, 40, 21, 41, 31, 42, 43, 44, 66, 67, 68, 69, 70, 71, 72, 73, 74, 75, 76, 77, 78, 79, 80, 81, 82, 83, 84, 85, 86, 87, 88, 89, 90, 91] (by decide +kernel) (by decide +kernel)
set_option maxRecDepth 20000 in
theorem gX3_table_X3_cellsBarred : GoodIn wsX3_table (wsV RX3 122 RX3 yX3_cellsBarred wsX3_cellsBarred) := goodIn_app (goodIn_of _ (by decide +kernel)) ggX3_table_X3_cellsBarred
set_option maxRecDepth 20000 in
theorem ggX3_table_X3_readsTable : GoodIn wsX3_table wsX3_readsTable := goodIn_r _ [48, 2, 3, 5, 49, 50, 51, 21, 52, 53, 54, 55, 56, 57, 8, 58, 59, 60, 61, 24, 25, 26, 62, 63, 64, 65, 10, 12, 14, 16, 66, 67, 68, 69, 70, 71, 72, 73, 74, 75, 76, 77, 78, 79, 80, 81, 82, 83, 84, 85, 86, 87, 88, 89, 90, 91] (by decide +kernel) (by decide +kernel)
set_option maxRecDepth 20000 in
theorem gX3_table_X3_readsTable : GoodIn wsX3_table (wsV RX3 126 RX3 yX3_readsTable wsX3_readsTable) := goodIn_app (goodIn_of _ (by decide +kernel)) ggX3_table_X3_readsTable
theorem dX3_table_0 : decode cX3_table 0 = .ok (.iload_n 1, 1) := by decide +kernel
theorem dX3_table_1 : decode cX3_table 1 = .ok (.invokestatic 113, 3) := by decide +kernel
theorem dX3_table_4 : decode cX3_table 4 = .ok (.ifCond .eq 9, 3) := by decide +kernel
theorem dX3_table_7 : decode cX3_table 7 = .ok (.aload_n 0, 1) := by decide +kernel
theorem dX3_table_8 : decode cX3_table 8 = .ok (.iconst (-1), 1) := by decide +kernel
theorem dX3_table_9 : decode cX3_table 9 = .ok (.invokevirtual 117, 3) := by decide +kernel
theorem dX3_table_12 : decode cX3_table 12 = .ok (.ireturn, 1) := by decide +kernel
theorem dX3_table_13 : decode cX3_table 13 = .ok (.iload_n 2, 1) := by decide +kernel
theorem dX3_table_14 : decode cX3_table 14 = .ok (.i2l, 1) := by decide +kernel
theorem dX3_table_15 : decode cX3_table 15 = .ok (.lconst 0, 1) := by decide +kernel
theorem dX3_table_16 : decode cX3_table 16 = .ok (.ldc2_w 120, 3) := by decide +kernel
theorem dX3_table_19 : decode cX3_table 19 = .ok (.invokestatic 71, 3) := by decide +kernel
theorem dX3_table_22 : decode cX3_table 22 = .ok (.ifCond .ne 10, 3) := by decide +kernel
theorem dX3_table_25 : decode cX3_table 25 = .ok (.aload_n 0, 1) := by decide +kernel
theorem dX3_table_26 : decode cX3_table 26 = .ok (.bipush (-2), 2) := by decide +kernel
theorem dX3_table_28 : decode cX3_table 28 = .ok (.invokevirtual 117, 3) := by decide +kernel
theorem dX3_table_31 : decode cX3_table 31 = .ok (.ireturn, 1) := by decide +kernel
theorem dX3_table_32 : decode cX3_table 32 = .ok (.aload_n 0, 1) := by decide +kernel
theorem dX3_table_33 : decode cX3_table 33 = .ok (.iload_n 1, 1) := by decide +kernel
theorem dX3_table_34 : decode cX3_table 34 = .ok (.iload_n 2, 1) := by decide +kernel
theorem dX3_table_35 : decode cX3_table 35 = .ok (.iload_n 3, 1) := by decide +kernel
theorem dX3_table_36 : decode cX3_table 36 = .ok (.iload 4, 2) := by decide +kernel
theorem dX3_table_38 : decode cX3_table 38 = .ok (.i2l, 1) := by decide +kernel
theorem dX3_table_39 : decode cX3_table 39 = .ok (.invokevirtual 122, 3) := by decide +kernel
theorem dX3_table_42 : decode cX3_table 42 = .ok (.istore 5, 2) := by decide +kernel
theorem dX3_table_44 : decode cX3_table 44 = .ok (.iload 5, 2) := by decide +kernel
theorem dX3_table_46 : decode cX3_table 46 = .ok (.ifCond .ge 6, 3) := by decide +kernel
theorem dX3_table_49 : decode cX3_table 49 = .ok (.iload 5, 2) := by decide +kernel
theorem dX3_table_51 : decode cX3_table 51 = .ok (.ireturn, 1) := by decide +kernel
theorem dX3_table_52 : decode cX3_table 52 = .ok (.aload_n 0, 1) := by decide +kernel
theorem dX3_table_53 : decode cX3_table 53 = .ok (.bipush 60, 2) := by decide +kernel
theorem dX3_table_55 : decode cX3_table 55 = .ok (.iload_n 1, 1) := by decide +kernel
theorem dX3_table_56 : decode cX3_table 56 = .ok (.imul, 1) := by decide +kernel
theorem dX3_table_57 : decode cX3_table 57 = .ok (.iload_n 3, 1) := by decide +kernel
theorem dX3_table_58 : decode cX3_table 58 = .ok (.iadd, 1) := by decide +kernel
theorem dX3_table_59 : decode cX3_table 59 = .ok (.iload 4, 2) := by decide +kernel
theorem dX3_table_61 : decode cX3_table 61 = .ok (.invokevirtual 126, 3) := by decide +kernel
theorem dX3_table_64 : decode cX3_table 64 = .ok (.ifCond .ne 15, 3) := by decide +kernel
theorem dX3_table_67 : decode cX3_table 67 = .ok (.aload_n 0, 1) := by decide +kernel
theorem dX3_table_68 : decode cX3_table 68 = .ok (.bipush (-100), 2) := by decide +kernel
theorem dX3_table_70 : decode cX3_table 70 = .ok (.aload_n 0, 1) := by decide +kernel
theorem dX3_table_71 : decode cX3_table 71 = .ok (.getfield 81, 3) := by decide +kernel
theorem dX3_table_74 : decode cX3_table 74 = .ok (.isub, 1) := by decide +kernel
theorem dX3_table_75 : decode cX3_table 75 = .ok (.invokevirtual 117, 3) := by decide +kernel
theorem dX3_table_78 : decode cX3_table 78 = .ok (.ireturn, 1) := by decide +kernel
theorem dX3_table_79 : decode cX3_table 79 = .ok (.aload_n 0, 1) := by decide +kernel
theorem dX3_table_80 : decode cX3_table 80 = .ok (.aload_n 0, 1) := by decide +kernel
theorem dX3_table_81 : decode cX3_table 81 = .ok (.getfield 88, 3) := by decide +kernel
theorem dX3_table_84 : decode cX3_table 84 = .ok (.putfield 75, 3) := by decide +kernel
theorem dX3_table_87 : decode cX3_table 87 = .ok (.aload_n 0, 1) := by decide +kernel
theorem dX3_table_88 : decode cX3_table 88 = .ok (.aload_n 0, 1) := by decide +kernel
theorem dX3_table_89 : decode cX3_table 89 = .ok (.getfield 95, 3) := by decide +kernel
theorem dX3_table_92 : decode cX3_table 92 = .ok (.putfield 78, 3) := by decide +kernel
theorem dX3_table_95 : decode cX3_table 95 = .ok (.iconst 0, 1) := by decide +kernel
theorem dX3_table_96 : decode cX3_table 96 = .ok (.istore 6, 2) := by decide +kernel
theorem dX3_table_98 : decode cX3_table 98 = .ok (.iload 6, 2) := by decide +kernel
theorem dX3_table_100 : decode cX3_table 100 = .ok (.aload_n 0, 1) := by decide +kernel
theorem dX3_table_101 : decode cX3_table 101 = .ok (.getfield 75, 3) := by decide +kernel
theorem dX3_table_104 : decode cX3_table 104 = .ok (.if_icmp .ge 23, 3) := by decide +kernel
theorem dX3_table_107 : decode cX3_table 107 = .ok (.aload_n 0, 1) := by decide +kernel
theorem dX3_table_108 : decode cX3_table 108 = .ok (.getfield 7, 3) := by decide +kernel
theorem dX3_table_111 : decode cX3_table 111 = .ok (.iload 6, 2) := by decide +kernel
theorem dX3_table_113 : decode cX3_table 113 = .ok (.aload_n 0, 1) := by decide +kernel
theorem dX3_table_114 : decode cX3_table 114 = .ok (.getfield 25, 3) := by decide +kernel
theorem dX3_table_117 : decode cX3_table 117 = .ok (.iload 6, 2) := by decide +kernel
theorem dX3_table_119 : decode cX3_table 119 = .ok (.iaload, 1) := by decide +kernel
theorem dX3_table_120 : decode cX3_table 120 = .ok (.iastore, 1) := by decide +kernel
theorem dX3_table_121 : decode cX3_table 121 = .ok (.iinc 6 1, 3) := by decide +kernel
theorem dX3_table_124 : decode cX3_table 124 = .ok (.goto (-26), 3) := by decide +kernel
theorem dX3_table_127 : decode cX3_table 127 = .ok (.iconst 0, 1) := by decide +kernel
theorem dX3_table_128 : decode cX3_table 128 = .ok (.istore 6, 2) := by decide +kernel
theorem dX3_table_130 : decode cX3_table 130 = .ok (.iload 6, 2) := by decide +kernel
theorem dX3_table_132 : decode cX3_table 132 = .ok (.aload_n 0, 1) := by decide +kernel
theorem dX3_table_133 : decode cX3_table 133 = .ok (.getfield 78, 3) := by decide +kernel
theorem dX3_table_136 : decode cX3_table 136 = .ok (.if_icmp .ge 65, 3) := by decide +kernel
theorem dX3_table_139 : decode cX3_table 139 = .ok (.aload_n 0, 1) := by decide +kernel
theorem dX3_table_140 : decode cX3_table 140 = .ok (.getfield 13, 3) := by decide +kernel
theorem dX3_table_143 : decode cX3_table 143 = .ok (.iload 6, 2) := by decide +kernel
theorem dX3_table_145 : decode cX3_table 145 = .ok (.aload_n 0, 1) := by decide +kernel
theorem dX3_table_146 : decode cX3_table 146 = .ok (.getfield 28, 3) := by decide +kernel
theorem dX3_table_149 : decode cX3_table 149 = .ok (.iload 6, 2) := by decide +kernel
theorem dX3_table_151 : decode cX3_table 151 = .ok (.iaload, 1) := by decide +kernel
theorem dX3_table_152 : decode cX3_table 152 = .ok (.iastore, 1) := by decide +kernel
theorem dX3_table_153 : decode cX3_table 153 = .ok (.aload_n 0, 1) := by decide +kernel
theorem dX3_table_154 : decode cX3_table 154 = .ok (.getfield 16, 3) := by decide +kernel
theorem dX3_table_157 : decode cX3_table 157 = .ok (.iload 6, 2) := by decide +kernel
theorem dX3_table_159 : decode cX3_table 159 = .ok (.aload_n 0, 1) := by decide +kernel
theorem dX3_table_160 : decode cX3_table 160 = .ok (.getfield 31, 3) := by decide +kernel
theorem dX3_table_163 : decode cX3_table 163 = .ok (.iload 6, 2) := by decide +kernel
theorem dX3_table_165 : decode cX3_table 165 = .ok (.iaload, 1) := by decide +kernel
theorem dX3_table_166 : decode cX3_table 166 = .ok (.iastore, 1) := by decide +kernel
theorem dX3_table_167 : decode cX3_table 167 = .ok (.aload_n 0, 1) := by decide +kernel
theorem dX3_table_168 : decode cX3_table 168 = .ok (.getfield 19, 3) := by decide +kernel
theorem dX3_table_171 : decode cX3_table 171 = .ok (.iload 6, 2) := by decide +kernel
theorem dX3_table_173 : decode cX3_table 173 = .ok (.aload_n 0, 1) := by decide +kernel
theorem dX3_table_174 : decode cX3_table 174 = .ok (.getfield 34, 3) := by decide +kernel
theorem dX3_table_177 : decode cX3_table 177 = .ok (.iload 6, 2) := by decide +kernel
theorem dX3_table_179 : decode cX3_table 179 = .ok (.iaload, 1) := by decide +kernel
theorem dX3_table_180 : decode cX3_table 180 = .ok (.iastore, 1) := by decide +kernel
theorem dX3_table_181 : decode cX3_table 181 = .ok (.aload_n 0, 1) := by decide +kernel
theorem dX3_table_182 : decode cX3_table 182 = .ok (.getfield 22, 3) := by decide +kernel
theorem dX3_table_185 : decode cX3_table 185 = .ok (.iload 6, 2) := by decide +kernel
theorem dX3_table_187 : decode cX3_table 187 = .ok (.aload_n 0, 1) := by decide +kernel
theorem dX3_table_188 : decode cX3_table 188 = .ok (.getfield 37, 3) := by decide +kernel
theorem dX3_table_191 : decode cX3_table 191 = .ok (.iload 6, 2) := by decide +kernel
theorem dX3_table_193 : decode cX3_table 193 = .ok (.iaload, 1) := by decide +kernel
theorem dX3_table_194 : decode cX3_table 194 = .ok (.iastore, 1) := by decide +kernel
theorem dX3_table_195 : decode cX3_table 195 = .ok (.iinc 6 1, 3) := by decide +kernel
theorem dX3_table_198 : decode cX3_table 198 = .ok (.goto (-68), 3) := by decide +kernel
theorem dX3_table_201 : decode cX3_table 201 = .ok (.aload_n 0, 1) := by decide +kernel
theorem dX3_table_202 : decode cX3_table 202 = .ok (.iconst 0, 1) := by decide +kernel
theorem dX3_table_203 : decode cX3_table 203 = .ok (.putfield 129, 3) := by decide +kernel
theorem dX3_table_206 : decode cX3_table 206 = .ok (.aload_n 0, 1) := by decide +kernel
theorem dX3_table_207 : decode cX3_table 207 = .ok (.iconst 0, 1) := by decide +kernel
theorem dX3_table_208 : decode cX3_table 208 = .ok (.putfield 132, 3) := by decide +kernel
theorem dX3_table_211 : decode cX3_table 211 = .ok (.aload_n 0, 1) := by decide +kernel
theorem dX3_table_212 : decode cX3_table 212 = .ok (.aload_n 0, 1) := by decide +kernel
theorem dX3_table_213 : decode cX3_table 213 = .ok (.getfield 78, 3) := by decide +kernel
theorem dX3_table_216 : decode cX3_table 216 = .ok (.invokevirtual 117, 3) := by decide +kernel
theorem dX3_table_219 : decode cX3_table 219 = .ok (.ireturn, 1) := by decide +kernel
set_option maxRecDepth 20000 in
theorem ggX3_mightOf_X3_isIn : GoodIn wsX3_mightOf wsX3_isIn := goodIn_r _ [7] (by decide +kernel) (by decide +kernel)
set_option maxRecDepth 20000 in
theorem gX3_mightOf_X3_isIn : GoodIn wsX3_mightOf (va_wsS RX3 135 yX3_isIn wsX3_isIn) := goodIn_app (goodIn_of _ (by decide +kernel)) ggX3_mightOf_X3_isIn
theorem dX3_mightOf_0 : decode cX3_mightOf 0 = .ok (.aload_n 0, 1) := by decide +kernel
theorem dX3_mightOf_1 : decode cX3_mightOf 1 = .ok (.getfield 22, 3) := by decide +kernel
theorem dX3_mightOf_4 : decode cX3_mightOf 4 = .ok (.iload_n 1, 1) := by decide +kernel
theorem dX3_mightOf_5 : decode cX3_mightOf 5 = .ok (.iaload, 1) := by decide +kernel
theorem dX3_mightOf_6 : decode cX3_mightOf 6 = .ok (.istore_n 2, 1) := by decide +kernel
theorem dX3_mightOf_7 : decode cX3_mightOf 7 = .ok (.aload_n 0, 1) := by decide +kernel
theorem dX3_mightOf_8 : decode cX3_mightOf 8 = .ok (.getfield 13, 3) := by decide +kernel
theorem dX3_mightOf_11 : decode cX3_mightOf 11 = .ok (.iload_n 1, 1) := by decide +kernel
theorem dX3_mightOf_12 : decode cX3_mightOf 12 = .ok (.iaload, 1) := by decide +kernel
theorem dX3_mightOf_13 : decode cX3_mightOf 13 = .ok (.ifCond .ne 7, 3) := by decide +kernel
theorem dX3_mightOf_16 : decode cX3_mightOf 16 = .ok (.iload_n 2, 1) := by decide +kernel
theorem dX3_mightOf_17 : decode cX3_mightOf 17 = .ok (.goto 24, 3) := by decide +kernel
theorem dX3_mightOf_20 : decode cX3_mightOf 20 = .ok (.aload_n 0, 1) := by decide +kernel
theorem dX3_mightOf_21 : decode cX3_mightOf 21 = .ok (.getfield 13, 3) := by decide +kernel
theorem dX3_mightOf_24 : decode cX3_mightOf 24 = .ok (.iload_n 1, 1) := by decide +kernel
theorem dX3_mightOf_25 : decode cX3_mightOf 25 = .ok (.iaload, 1) := by decide +kernel
theorem dX3_mightOf_26 : decode cX3_mightOf 26 = .ok (.iconst 1, 1) := by decide +kernel
theorem dX3_mightOf_27 : decode cX3_mightOf 27 = .ok (.if_icmp .ne 9, 3) := by decide +kernel
theorem dX3_mightOf_30 : decode cX3_mightOf 30 = .ok (.iload_n 2, 1) := by decide +kernel
theorem dX3_mightOf_31 : decode cX3_mightOf 31 = .ok (.iconst 1, 1) := by decide +kernel
theorem dX3_mightOf_32 : decode cX3_mightOf 32 = .ok (.iadd, 1) := by decide +kernel
theorem dX3_mightOf_33 : decode cX3_mightOf 33 = .ok (.goto 8, 3) := by decide +kernel
theorem dX3_mightOf_36 : decode cX3_mightOf 36 = .ok (.iconst 2, 1) := by decide +kernel
theorem dX3_mightOf_37 : decode cX3_mightOf 37 = .ok (.iload_n 2, 1) := by decide +kernel
theorem dX3_mightOf_38 : decode cX3_mightOf 38 = .ok (.iconst 1, 1) := by decide +kernel
theorem dX3_mightOf_39 : decode cX3_mightOf 39 = .ok (.iadd, 1) := by decide +kernel
theorem dX3_mightOf_40 : decode cX3_mightOf 40 = .ok (.imul, 1) := by decide +kernel
theorem dX3_mightOf_41 : decode cX3_mightOf 41 = .ok (.istore_n 3, 1) := by decide +kernel
theorem dX3_mightOf_42 : decode cX3_mightOf 42 = .ok (.aload_n 0, 1) := by decide +kernel
theorem dX3_mightOf_43 : decode cX3_mightOf 43 = .ok (.getfield 129, 3) := by decide +kernel
theorem dX3_mightOf_46 : decode cX3_mightOf 46 = .ok (.iload_n 1, 1) := by decide +kernel
theorem dX3_mightOf_47 : decode cX3_mightOf 47 = .ok (.invokestatic 135, 3) := by decide +kernel
theorem dX3_mightOf_50 : decode cX3_mightOf 50 = .ok (.ifCond .eq 7, 3) := by decide +kernel
theorem dX3_mightOf_53 : decode cX3_mightOf 53 = .ok (.iconst 0, 1) := by decide +kernel
theorem dX3_mightOf_54 : decode cX3_mightOf 54 = .ok (.goto 4, 3) := by decide +kernel
theorem dX3_mightOf_57 : decode cX3_mightOf 57 = .ok (.iload_n 3, 1) := by decide +kernel
theorem dX3_mightOf_58 : decode cX3_mightOf 58 = .ok (.ireturn, 1) := by decide +kernel
set_option maxRecDepth 20000 in
theorem ggX3_ofThing_X3_noThing : GoodIn wsX3_ofThing wsX3_noThing := goodIn_r _ [10, 11, 12, 13, 9, 14, 22, 23, 24, 25, 26, 27, 28, 29, 30, 31, 32, 33, 34, 35, 36, 37, 38, 39, 40, 41, 42, 43, 44, 45, 46, 47] (by decide +kernel) (by decide +kernel)
set_option maxRecDepth 20000 in
theorem gX3_ofThing_X3_noThing : GoodIn wsX3_ofThing (wsV RX3 138 RX3 yX3_noThing wsX3_noThing) := goodIn_app (goodIn_of _ (by decide +kernel)) ggX3_ofThing_X3_noThing
set_option maxRecDepth 20000 in
theorem ggX3_ofThing_X3_isIn : GoodIn wsX3_ofThing wsX3_isIn := goodIn_r _ [17] (by decide +kernel) (by decide +kernel)
set_option maxRecDepth 20000 in
theorem gX3_ofThing_X3_isIn : GoodIn wsX3_ofThing (va_wsS RX3 135 yX3_isIn wsX3_isIn) := goodIn_app (goodIn_of _ (by decide +kernel)) ggX3_ofThing_X3_isIn
set_option maxRecDepth 20000 in
theorem ggX3_ofThing_X3_mightOf : GoodIn wsX3_ofThing wsX3_mightOf := goodIn_r _ [21, 5, 1, 3, 15, 16, 9, 17, 22, 23, 24, 25, 26, 27, 28, 29, 30, 31, 32, 33, 34, 35, 36, 37, 38, 39, 40, 41, 42, 43, 44, 45, 46, 47] (by decide +kernel) (by decide +kernel)
set_option maxRecDepth 20000 in
theorem gX3_ofThing_X3_mightOf : GoodIn wsX3_ofThing (wsV RX3 141 RX3 yX3_mightOf wsX3_mightOf) := goodIn_app (goodIn_of _ (by decide +kernel)) ggX3_ofThing_X3_mightOf
theorem dX3_ofThing_0 : decode cX3_ofThing 0 = .ok (.aload_n 0, 1) := by decide +kernel
theorem dX3_ofThing_1 : decode cX3_ofThing 1 = .ok (.iload_n 1, 1) := by decide +kernel
theorem dX3_ofThing_2 : decode cX3_ofThing 2 = .ok (.invokevirtual 138, 3) := by decide +kernel
theorem dX3_ofThing_5 : decode cX3_ofThing 5 = .ok (.ifCond .eq 5, 3) := by decide +kernel
theorem dX3_ofThing_8 : decode cX3_ofThing 8 = .ok (.iconst (-1), 1) := by decide +kernel
theorem dX3_ofThing_9 : decode cX3_ofThing 9 = .ok (.ireturn, 1) := by decide +kernel
theorem dX3_ofThing_10 : decode cX3_ofThing 10 = .ok (.iload_n 2, 1) := by decide +kernel
theorem dX3_ofThing_11 : decode cX3_ofThing 11 = .ok (.tableswitch 83 0 4 #[33, 40, 47, 70, 77], 33) := by decide +kernel
theorem dX3_ofThing_44 : decode cX3_ofThing 44 = .ok (.aload_n 0, 1) := by decide +kernel
theorem dX3_ofThing_45 : decode cX3_ofThing 45 = .ok (.getfield 13, 3) := by decide +kernel
theorem dX3_ofThing_48 : decode cX3_ofThing 48 = .ok (.iload_n 1, 1) := by decide +kernel
theorem dX3_ofThing_49 : decode cX3_ofThing 49 = .ok (.iaload, 1) := by decide +kernel
theorem dX3_ofThing_50 : decode cX3_ofThing 50 = .ok (.ireturn, 1) := by decide +kernel
theorem dX3_ofThing_51 : decode cX3_ofThing 51 = .ok (.aload_n 0, 1) := by decide +kernel
theorem dX3_ofThing_52 : decode cX3_ofThing 52 = .ok (.getfield 16, 3) := by decide +kernel
theorem dX3_ofThing_55 : decode cX3_ofThing 55 = .ok (.iload_n 1, 1) := by decide +kernel
theorem dX3_ofThing_56 : decode cX3_ofThing 56 = .ok (.iaload, 1) := by decide +kernel
theorem dX3_ofThing_57 : decode cX3_ofThing 57 = .ok (.ireturn, 1) := by decide +kernel
theorem dX3_ofThing_58 : decode cX3_ofThing 58 = .ok (.aload_n 0, 1) := by decide +kernel
theorem dX3_ofThing_59 : decode cX3_ofThing 59 = .ok (.getfield 129, 3) := by decide +kernel
theorem dX3_ofThing_62 : decode cX3_ofThing 62 = .ok (.iload_n 1, 1) := by decide +kernel
theorem dX3_ofThing_63 : decode cX3_ofThing 63 = .ok (.invokestatic 135, 3) := by decide +kernel
theorem dX3_ofThing_66 : decode cX3_ofThing 66 = .ok (.ifCond .eq 8, 3) := by decide +kernel
theorem dX3_ofThing_69 : decode cX3_ofThing 69 = .ok (.bipush (-9), 2) := by decide +kernel
theorem dX3_ofThing_71 : decode cX3_ofThing 71 = .ok (.goto 9, 3) := by decide +kernel
theorem dX3_ofThing_74 : decode cX3_ofThing 74 = .ok (.aload_n 0, 1) := by decide +kernel
theorem dX3_ofThing_75 : decode cX3_ofThing 75 = .ok (.getfield 19, 3) := by decide +kernel
theorem dX3_ofThing_78 : decode cX3_ofThing 78 = .ok (.iload_n 1, 1) := by decide +kernel
theorem dX3_ofThing_79 : decode cX3_ofThing 79 = .ok (.iaload, 1) := by decide +kernel
theorem dX3_ofThing_80 : decode cX3_ofThing 80 = .ok (.ireturn, 1) := by decide +kernel
theorem dX3_ofThing_81 : decode cX3_ofThing 81 = .ok (.aload_n 0, 1) := by decide +kernel
theorem dX3_ofThing_82 : decode cX3_ofThing 82 = .ok (.getfield 22, 3) := by decide +kernel
theorem dX3_ofThing_85 : decode cX3_ofThing 85 = .ok (.iload_n 1, 1) := by decide +kernel
theorem dX3_ofThing_86 : decode cX3_ofThing 86 = .ok (.iaload, 1) := by decide +kernel
theorem dX3_ofThing_87 : decode cX3_ofThing 87 = .ok (.ireturn, 1) := by decide +kernel
theorem dX3_ofThing_88 : decode cX3_ofThing 88 = .ok (.aload_n 0, 1) := by decide +kernel
theorem dX3_ofThing_89 : decode cX3_ofThing 89 = .ok (.iload_n 1, 1) := by decide +kernel
theorem dX3_ofThing_90 : decode cX3_ofThing 90 = .ok (.invokevirtual 141, 3) := by decide +kernel
theorem dX3_ofThing_93 : decode cX3_ofThing 93 = .ok (.ireturn, 1) := by decide +kernel
theorem dX3_ofThing_94 : decode cX3_ofThing 94 = .ok (.bipush (-2), 2) := by decide +kernel
theorem dX3_ofThing_96 : decode cX3_ofThing 96 = .ok (.ireturn, 1) := by decide +kernel
set_option maxRecDepth 20000 in
theorem ggX3_acres_X3_noSquare : GoodIn wsX3_acres wsX3_noSquare := goodIn_r _ [6, 7, 8, 9, 5, 10, 11, 12, 13, 14, 15, 16, 17, 18, 19, 20, 21, 22, 23, 24, 25, 26, 27, 28, 29, 30, 31, 32, 33, 34, 35, 36] (by decide +kernel) (by decide +kernel)
set_option maxRecDepth 20000 in
theorem gX3_acres_X3_noSquare : GoodIn wsX3_acres (wsV RX3 144 RX3 yX3_noSquare wsX3_noSquare) := goodIn_app (goodIn_of _ (by decide +kernel)) ggX3_acres_X3_noSquare
theorem dX3_acres_0 : decode cX3_acres 0 = .ok (.aload_n 0, 1) := by decide +kernel
theorem dX3_acres_1 : decode cX3_acres 1 = .ok (.iload_n 1, 1) := by decide +kernel
theorem dX3_acres_2 : decode cX3_acres 2 = .ok (.invokevirtual 144, 3) := by decide +kernel
theorem dX3_acres_5 : decode cX3_acres 5 = .ok (.ifCond .eq 7, 3) := by decide +kernel
theorem dX3_acres_8 : decode cX3_acres 8 = .ok (.iconst (-1), 1) := by decide +kernel
theorem dX3_acres_9 : decode cX3_acres 9 = .ok (.goto 9, 3) := by decide +kernel
theorem dX3_acres_12 : decode cX3_acres 12 = .ok (.aload_n 0, 1) := by decide +kernel
theorem dX3_acres_13 : decode cX3_acres 13 = .ok (.getfield 7, 3) := by decide +kernel
theorem dX3_acres_16 : decode cX3_acres 16 = .ok (.iload_n 1, 1) := by decide +kernel
theorem dX3_acres_17 : decode cX3_acres 17 = .ok (.iaload, 1) := by decide +kernel
theorem dX3_acres_18 : decode cX3_acres 18 = .ok (.ireturn, 1) := by decide +kernel
set_option maxRecDepth 20000 in
theorem ggX3_stain_X3_noSquare : GoodIn wsX3_stain wsX3_noSquare := goodIn_r _ [7, 8, 9, 10, 6, 11, 12, 13, 14, 15, 16, 17, 18, 19, 20, 21, 22, 23, 24, 25, 26, 27, 28, 29, 30, 31, 32, 33, 34, 35, 36, 37] (by decide +kernel) (by decide +kernel)
set_option maxRecDepth 20000 in
theorem gX3_stain_X3_noSquare : GoodIn wsX3_stain (wsV RX3 144 RX3 yX3_noSquare wsX3_noSquare) := goodIn_app (goodIn_of _ (by decide +kernel)) ggX3_stain_X3_noSquare
set_option maxRecDepth 20000 in
theorem ggX3_stain_X3_in : GoodIn wsX3_stain wsX3_in := goodIn_r _ [11] (by decide +kernel) (by decide +kernel)
set_option maxRecDepth 20000 in
theorem gX3_stain_X3_in : GoodIn wsX3_stain (va_wsS RX3 71 yX3_in wsX3_in) := goodIn_app (goodIn_of _ (by decide +kernel)) ggX3_stain_X3_in
theorem dX3_stain_0 : decode cX3_stain 0 = .ok (.aload_n 0, 1) := by decide +kernel
theorem dX3_stain_1 : decode cX3_stain 1 = .ok (.iload_n 1, 1) := by decide +kernel
theorem dX3_stain_2 : decode cX3_stain 2 = .ok (.invokevirtual 144, 3) := by decide +kernel
theorem dX3_stain_5 : decode cX3_stain 5 = .ok (.ifCond .eq 5, 3) := by decide +kernel
theorem dX3_stain_8 : decode cX3_stain 8 = .ok (.iconst (-1), 1) := by decide +kernel
theorem dX3_stain_9 : decode cX3_stain 9 = .ok (.ireturn, 1) := by decide +kernel
theorem dX3_stain_10 : decode cX3_stain 10 = .ok (.iload_n 2, 1) := by decide +kernel
theorem dX3_stain_11 : decode cX3_stain 11 = .ok (.i2l, 1) := by decide +kernel
theorem dX3_stain_12 : decode cX3_stain 12 = .ok (.lconst 0, 1) := by decide +kernel
theorem dX3_stain_13 : decode cX3_stain 13 = .ok (.ldc2_w 147, 3) := by decide +kernel
theorem dX3_stain_16 : decode cX3_stain 16 = .ok (.invokestatic 71, 3) := by decide +kernel
theorem dX3_stain_19 : decode cX3_stain 19 = .ok (.ifCond .ne 6, 3) := by decide +kernel
theorem dX3_stain_22 : decode cX3_stain 22 = .ok (.bipush (-2), 2) := by decide +kernel
theorem dX3_stain_24 : decode cX3_stain 24 = .ok (.ireturn, 1) := by decide +kernel
theorem dX3_stain_25 : decode cX3_stain 25 = .ok (.aload_n 0, 1) := by decide +kernel
theorem dX3_stain_26 : decode cX3_stain 26 = .ok (.getfield 7, 3) := by decide +kernel
theorem dX3_stain_29 : decode cX3_stain 29 = .ok (.iload_n 1, 1) := by decide +kernel
theorem dX3_stain_30 : decode cX3_stain 30 = .ok (.iaload, 1) := by decide +kernel
theorem dX3_stain_31 : decode cX3_stain 31 = .ok (.istore_n 3, 1) := by decide +kernel
theorem dX3_stain_32 : decode cX3_stain 32 = .ok (.aload_n 0, 1) := by decide +kernel
theorem dX3_stain_33 : decode cX3_stain 33 = .ok (.getfield 7, 3) := by decide +kernel
theorem dX3_stain_36 : decode cX3_stain 36 = .ok (.iload_n 1, 1) := by decide +kernel
theorem dX3_stain_37 : decode cX3_stain 37 = .ok (.iload_n 2, 1) := by decide +kernel
theorem dX3_stain_38 : decode cX3_stain 38 = .ok (.iastore, 1) := by decide +kernel
theorem dX3_stain_39 : decode cX3_stain 39 = .ok (.iload_n 3, 1) := by decide +kernel
theorem dX3_stain_40 : decode cX3_stain 40 = .ok (.ireturn, 1) := by decide +kernel
set_option maxRecDepth 20000 in
theorem ggX3_arm_X3_noThing : GoodIn wsX3_arm wsX3_noThing := goodIn_r _ [7, 8, 9, 10, 6, 11, 12, 13, 14, 15, 16, 17, 18, 19, 20, 21, 22, 23, 24, 25, 26, 27, 28, 29, 30, 31, 32, 33, 34, 35, 36, 37] (by decide +kernel) (by decide +kernel)
set_option maxRecDepth 20000 in
theorem gX3_arm_X3_noThing : GoodIn wsX3_arm (wsV RX3 138 RX3 yX3_noThing wsX3_noThing) := goodIn_app (goodIn_of _ (by decide +kernel)) ggX3_arm_X3_noThing
set_option maxRecDepth 20000 in
theorem ggX3_arm_X3_in : GoodIn wsX3_arm wsX3_in := goodIn_r _ [11] (by decide +kernel) (by decide +kernel)
set_option maxRecDepth 20000 in
theorem gX3_arm_X3_in : GoodIn wsX3_arm (va_wsS RX3 71 yX3_in wsX3_in) := goodIn_app (goodIn_of _ (by decide +kernel)) ggX3_arm_X3_in
theorem dX3_arm_0 : decode cX3_arm 0 = .ok (.aload_n 0, 1) := by decide +kernel
theorem dX3_arm_1 : decode cX3_arm 1 = .ok (.iload_n 1, 1) := by decide +kernel
theorem dX3_arm_2 : decode cX3_arm 2 = .ok (.invokevirtual 138, 3) := by decide +kernel
theorem dX3_arm_5 : decode cX3_arm 5 = .ok (.ifCond .eq 5, 3) := by decide +kernel
theorem dX3_arm_8 : decode cX3_arm 8 = .ok (.iconst (-1), 1) := by decide +kernel
theorem dX3_arm_9 : decode cX3_arm 9 = .ok (.ireturn, 1) := by decide +kernel
theorem dX3_arm_10 : decode cX3_arm 10 = .ok (.iload_n 2, 1) := by decide +kernel
theorem dX3_arm_11 : decode cX3_arm 11 = .ok (.i2l, 1) := by decide +kernel
theorem dX3_arm_12 : decode cX3_arm 12 = .ok (.lconst 0, 1) := by decide +kernel
theorem dX3_arm_13 : decode cX3_arm 13 = .ok (.ldc2_w 147, 3) := by decide +kernel
theorem dX3_arm_16 : decode cX3_arm 16 = .ok (.invokestatic 71, 3) := by decide +kernel
theorem dX3_arm_19 : decode cX3_arm 19 = .ok (.ifCond .ne 6, 3) := by decide +kernel
theorem dX3_arm_22 : decode cX3_arm 22 = .ok (.bipush (-2), 2) := by decide +kernel
theorem dX3_arm_24 : decode cX3_arm 24 = .ok (.ireturn, 1) := by decide +kernel
theorem dX3_arm_25 : decode cX3_arm 25 = .ok (.aload_n 0, 1) := by decide +kernel
theorem dX3_arm_26 : decode cX3_arm 26 = .ok (.getfield 22, 3) := by decide +kernel
theorem dX3_arm_29 : decode cX3_arm 29 = .ok (.iload_n 1, 1) := by decide +kernel
theorem dX3_arm_30 : decode cX3_arm 30 = .ok (.iaload, 1) := by decide +kernel
theorem dX3_arm_31 : decode cX3_arm 31 = .ok (.istore_n 3, 1) := by decide +kernel
theorem dX3_arm_32 : decode cX3_arm 32 = .ok (.aload_n 0, 1) := by decide +kernel
theorem dX3_arm_33 : decode cX3_arm 33 = .ok (.getfield 22, 3) := by decide +kernel
theorem dX3_arm_36 : decode cX3_arm 36 = .ok (.iload_n 1, 1) := by decide +kernel
theorem dX3_arm_37 : decode cX3_arm 37 = .ok (.iload_n 2, 1) := by decide +kernel
theorem dX3_arm_38 : decode cX3_arm 38 = .ok (.iastore, 1) := by decide +kernel
theorem dX3_arm_39 : decode cX3_arm 39 = .ok (.iload_n 3, 1) := by decide +kernel
theorem dX3_arm_40 : decode cX3_arm 40 = .ok (.ireturn, 1) := by decide +kernel
set_option maxRecDepth 20000 in
theorem ggX3_mightIn_X3_mightOf : GoodIn wsX3_mightIn wsX3_mightOf := goodIn_r _ [8, 9, 10, 11, 12, 13, 7, 14, 15, 16, 17, 18, 19, 20, 21, 22, 23, 24, 25, 26, 27, 28, 29, 30, 31, 32, 33, 34, 35, 36, 37, 38, 39, 40] (by decide +kernel) (by decide +kernel)
set_option maxRecDepth 20000 in
theorem gX3_mightIn_X3_mightOf : GoodIn wsX3_mightIn (wsV RX3 141 RX3 yX3_mightOf wsX3_mightOf) := goodIn_app (goodIn_of _ (by decide +kernel)) ggX3_mightIn_X3_mightOf
theorem dX3_mightIn_0 : decode cX3_mightIn 0 = .ok (.iconst 0, 1) := by decide +kernel
theorem dX3_mightIn_1 : decode cX3_mightIn 1 = .ok (.istore_n 3, 1) := by decide +kernel
theorem dX3_mightIn_2 : decode cX3_mightIn 2 = .ok (.iconst 0, 1) := by decide +kernel
theorem dX3_mightIn_3 : decode cX3_mightIn 3 = .ok (.istore 4, 2) := by decide +kernel
theorem dX3_mightIn_5 : decode cX3_mightIn 5 = .ok (.iload 4, 2) := by decide +kernel
theorem dX3_mightIn_7 : decode cX3_mightIn 7 = .ok (.aload_n 0, 1) := by decide +kernel
theorem dX3_mightIn_8 : decode cX3_mightIn 8 = .ok (.getfield 78, 3) := by decide +kernel
theorem dX3_mightIn_11 : decode cX3_mightIn 11 = .ok (.if_icmp .ge 44, 3) := by decide +kernel
theorem dX3_mightIn_14 : decode cX3_mightIn 14 = .ok (.iload_n 3, 1) := by decide +kernel
theorem dX3_mightIn_15 : decode cX3_mightIn 15 = .ok (.aload_n 0, 1) := by decide +kernel
theorem dX3_mightIn_16 : decode cX3_mightIn 16 = .ok (.getfield 16, 3) := by decide +kernel
theorem dX3_mightIn_19 : decode cX3_mightIn 19 = .ok (.iload 4, 2) := by decide +kernel
theorem dX3_mightIn_21 : decode cX3_mightIn 21 = .ok (.iaload, 1) := by decide +kernel
theorem dX3_mightIn_22 : decode cX3_mightIn 22 = .ok (.iload_n 1, 1) := by decide +kernel
theorem dX3_mightIn_23 : decode cX3_mightIn 23 = .ok (.if_icmp .ne 23, 3) := by decide +kernel
theorem dX3_mightIn_26 : decode cX3_mightIn 26 = .ok (.aload_n 0, 1) := by decide +kernel
theorem dX3_mightIn_27 : decode cX3_mightIn 27 = .ok (.getfield 19, 3) := by decide +kernel
theorem dX3_mightIn_30 : decode cX3_mightIn 30 = .ok (.iload 4, 2) := by decide +kernel
theorem dX3_mightIn_32 : decode cX3_mightIn 32 = .ok (.iaload, 1) := by decide +kernel
theorem dX3_mightIn_33 : decode cX3_mightIn 33 = .ok (.iload_n 2, 1) := by decide +kernel
theorem dX3_mightIn_34 : decode cX3_mightIn 34 = .ok (.if_icmp .ne 12, 3) := by decide +kernel
theorem dX3_mightIn_37 : decode cX3_mightIn 37 = .ok (.aload_n 0, 1) := by decide +kernel
theorem dX3_mightIn_38 : decode cX3_mightIn 38 = .ok (.iload 4, 2) := by decide +kernel
theorem dX3_mightIn_40 : decode cX3_mightIn 40 = .ok (.invokevirtual 141, 3) := by decide +kernel
theorem dX3_mightIn_43 : decode cX3_mightIn 43 = .ok (.goto 4, 3) := by decide +kernel
theorem dX3_mightIn_46 : decode cX3_mightIn 46 = .ok (.iconst 0, 1) := by decide +kernel
theorem dX3_mightIn_47 : decode cX3_mightIn 47 = .ok (.iadd, 1) := by decide +kernel
theorem dX3_mightIn_48 : decode cX3_mightIn 48 = .ok (.istore_n 3, 1) := by decide +kernel
theorem dX3_mightIn_49 : decode cX3_mightIn 49 = .ok (.iinc 4 1, 3) := by decide +kernel
theorem dX3_mightIn_52 : decode cX3_mightIn 52 = .ok (.goto (-47), 3) := by decide +kernel
theorem dX3_mightIn_55 : decode cX3_mightIn 55 = .ok (.iload_n 3, 1) := by decide +kernel
theorem dX3_mightIn_56 : decode cX3_mightIn 56 = .ok (.ireturn, 1) := by decide +kernel
set_option maxRecDepth 20000 in
theorem ggX3_holder_X3_mightIn : GoodIn wsX3_holder wsX3_mightIn := goodIn_r _ [5, 6, 7, 8, 9, 10, 11, 4, 12, 13, 14, 15, 16, 17, 18, 19, 20, 21, 22, 23, 24, 25, 26, 27, 28, 29, 30, 31, 32, 33, 34, 35, 36, 37, 38, 39, 40, 41, 42, 43, 44] (by decide +kernel) (by decide +kernel)
set_option maxRecDepth 20000 in
theorem gX3_holder_X3_mightIn : GoodIn wsX3_holder (wsV RX3 149 RX3 yX3_mightIn wsX3_mightIn) := goodIn_app (goodIn_of _ (by decide +kernel)) ggX3_holder_X3_mightIn
theorem dX3_holder_0 : decode cX3_holder 0 = .ok (.aload_n 0, 1) := by decide +kernel
theorem dX3_holder_1 : decode cX3_holder 1 = .ok (.iconst 0, 1) := by decide +kernel
theorem dX3_holder_2 : decode cX3_holder 2 = .ok (.iload_n 1, 1) := by decide +kernel
theorem dX3_holder_3 : decode cX3_holder 3 = .ok (.invokevirtual 149, 3) := by decide +kernel
theorem dX3_holder_6 : decode cX3_holder 6 = .ok (.istore_n 2, 1) := by decide +kernel
theorem dX3_holder_7 : decode cX3_holder 7 = .ok (.aload_n 0, 1) := by decide +kernel
theorem dX3_holder_8 : decode cX3_holder 8 = .ok (.iconst 1, 1) := by decide +kernel
theorem dX3_holder_9 : decode cX3_holder 9 = .ok (.iload_n 1, 1) := by decide +kernel
theorem dX3_holder_10 : decode cX3_holder 10 = .ok (.invokevirtual 149, 3) := by decide +kernel
theorem dX3_holder_13 : decode cX3_holder 13 = .ok (.istore_n 3, 1) := by decide +kernel
theorem dX3_holder_14 : decode cX3_holder 14 = .ok (.iload_n 2, 1) := by decide +kernel
theorem dX3_holder_15 : decode cX3_holder 15 = .ok (.iload_n 3, 1) := by decide +kernel
theorem dX3_holder_16 : decode cX3_holder 16 = .ok (.if_icmp .le 7, 3) := by decide +kernel
theorem dX3_holder_19 : decode cX3_holder 19 = .ok (.iconst 0, 1) := by decide +kernel
theorem dX3_holder_20 : decode cX3_holder 20 = .ok (.goto 14, 3) := by decide +kernel
theorem dX3_holder_23 : decode cX3_holder 23 = .ok (.iload_n 3, 1) := by decide +kernel
theorem dX3_holder_24 : decode cX3_holder 24 = .ok (.iload_n 2, 1) := by decide +kernel
theorem dX3_holder_25 : decode cX3_holder 25 = .ok (.if_icmp .le 7, 3) := by decide +kernel
theorem dX3_holder_28 : decode cX3_holder 28 = .ok (.iconst 1, 1) := by decide +kernel
theorem dX3_holder_29 : decode cX3_holder 29 = .ok (.goto 5, 3) := by decide +kernel
theorem dX3_holder_32 : decode cX3_holder 32 = .ok (.bipush (-9), 2) := by decide +kernel
theorem dX3_holder_34 : decode cX3_holder 34 = .ok (.ireturn, 1) := by decide +kernel
set_option maxRecDepth 20000 in
theorem ggX3_landOf_X3_holder : GoodIn wsX3_landOf wsX3_holder := goodIn_r _ [7, 8, 9, 10, 6, 11, 12, 13, 14, 15, 16, 17, 18, 19, 20, 21, 22, 23, 24, 25, 26, 27, 28, 29, 30, 31, 32, 33, 34, 35, 36, 37, 38, 39, 40, 41, 42, 43, 44, 45, 46, 47, 48, 49, 50] (by decide +kernel) (by decide +kernel)
set_option maxRecDepth 20000 in
theorem gX3_landOf_X3_holder : GoodIn wsX3_landOf (wsV RX3 152 RX3 yX3_holder wsX3_holder) := goodIn_app (goodIn_of _ (by decide +kernel)) ggX3_landOf_X3_holder
theorem dX3_landOf_0 : decode cX3_landOf 0 = .ok (.iconst 0, 1) := by decide +kernel
theorem dX3_landOf_1 : decode cX3_landOf 1 = .ok (.istore_n 2, 1) := by decide +kernel
theorem dX3_landOf_2 : decode cX3_landOf 2 = .ok (.iconst 0, 1) := by decide +kernel
theorem dX3_landOf_3 : decode cX3_landOf 3 = .ok (.istore_n 3, 1) := by decide +kernel
theorem dX3_landOf_4 : decode cX3_landOf 4 = .ok (.iload_n 3, 1) := by decide +kernel
theorem dX3_landOf_5 : decode cX3_landOf 5 = .ok (.aload_n 0, 1) := by decide +kernel
theorem dX3_landOf_6 : decode cX3_landOf 6 = .ok (.getfield 75, 3) := by decide +kernel
theorem dX3_landOf_9 : decode cX3_landOf 9 = .ok (.if_icmp .ge 31, 3) := by decide +kernel
theorem dX3_landOf_12 : decode cX3_landOf 12 = .ok (.iload_n 2, 1) := by decide +kernel
theorem dX3_landOf_13 : decode cX3_landOf 13 = .ok (.aload_n 0, 1) := by decide +kernel
theorem dX3_landOf_14 : decode cX3_landOf 14 = .ok (.iload_n 3, 1) := by decide +kernel
theorem dX3_landOf_15 : decode cX3_landOf 15 = .ok (.invokevirtual 152, 3) := by decide +kernel
theorem dX3_landOf_18 : decode cX3_landOf 18 = .ok (.iload_n 1, 1) := by decide +kernel
theorem dX3_landOf_19 : decode cX3_landOf 19 = .ok (.if_icmp .ne 12, 3) := by decide +kernel
theorem dX3_landOf_22 : decode cX3_landOf 22 = .ok (.aload_n 0, 1) := by decide +kernel
theorem dX3_landOf_23 : decode cX3_landOf 23 = .ok (.getfield 7, 3) := by decide +kernel
theorem dX3_landOf_26 : decode cX3_landOf 26 = .ok (.iload_n 3, 1) := by decide +kernel
theorem dX3_landOf_27 : decode cX3_landOf 27 = .ok (.iaload, 1) := by decide +kernel
theorem dX3_landOf_28 : decode cX3_landOf 28 = .ok (.goto 4, 3) := by decide +kernel
theorem dX3_landOf_31 : decode cX3_landOf 31 = .ok (.iconst 0, 1) := by decide +kernel
theorem dX3_landOf_32 : decode cX3_landOf 32 = .ok (.iadd, 1) := by decide +kernel
theorem dX3_landOf_33 : decode cX3_landOf 33 = .ok (.istore_n 2, 1) := by decide +kernel
theorem dX3_landOf_34 : decode cX3_landOf 34 = .ok (.iinc 3 1, 3) := by decide +kernel
theorem dX3_landOf_37 : decode cX3_landOf 37 = .ok (.goto (-33), 3) := by decide +kernel
theorem dX3_landOf_40 : decode cX3_landOf 40 = .ok (.iload_n 2, 1) := by decide +kernel
theorem dX3_landOf_41 : decode cX3_landOf 41 = .ok (.ireturn, 1) := by decide +kernel
set_option maxRecDepth 20000 in
theorem ggX3_might_X3_noHouse : GoodIn wsX3_might wsX3_noHouse := goodIn_r _ [4, 5, 6, 3, 7] (by decide +kernel) (by decide +kernel)
set_option maxRecDepth 20000 in
theorem gX3_might_X3_noHouse : GoodIn wsX3_might (va_wsS RX3 155 yX3_noHouse wsX3_noHouse) := goodIn_app (goodIn_of _ (by decide +kernel)) ggX3_might_X3_noHouse
set_option maxRecDepth 20000 in
theorem ggX3_might_X3_noSquare : GoodIn wsX3_might wsX3_noSquare := goodIn_r _ [11, 12, 5, 6, 3, 7, 30, 31, 32, 33, 34, 35, 36, 37, 38, 39, 40, 41, 42, 43, 44, 45, 46, 47, 48, 49, 50, 51, 52, 53, 54, 55] (by decide +kernel) (by decide +kernel)
set_option maxRecDepth 20000 in
theorem gX3_might_X3_noSquare : GoodIn wsX3_might (wsV RX3 144 RX3 yX3_noSquare wsX3_noSquare) := goodIn_app (goodIn_of _ (by decide +kernel)) ggX3_might_X3_noSquare
set_option maxRecDepth 20000 in
theorem ggX3_might_X3_mightIn : GoodIn wsX3_might wsX3_mightIn := goodIn_r _ [16, 17, 18, 19, 20, 21, 22, 3, 23, 24, 25, 26, 27, 28, 29, 30, 31, 32, 33, 34, 35, 36, 37, 38, 39, 40, 41, 42, 43, 44, 45, 46, 47, 48, 49, 50, 51, 52, 53, 54, 55] (by decide +kernel) (by decide +kernel)
set_option maxRecDepth 20000 in
theorem gX3_might_X3_mightIn : GoodIn wsX3_might (wsV RX3 149 RX3 yX3_mightIn wsX3_mightIn) := goodIn_app (goodIn_of _ (by decide +kernel)) ggX3_might_X3_mightIn
theorem dX3_might_0 : decode cX3_might 0 = .ok (.iload_n 1, 1) := by decide +kernel
theorem dX3_might_1 : decode cX3_might 1 = .ok (.invokestatic 155, 3) := by decide +kernel
theorem dX3_might_4 : decode cX3_might 4 = .ok (.ifCond .ne 11, 3) := by decide +kernel
theorem dX3_might_7 : decode cX3_might 7 = .ok (.aload_n 0, 1) := by decide +kernel
theorem dX3_might_8 : decode cX3_might 8 = .ok (.iload_n 2, 1) := by decide +kernel
theorem dX3_might_9 : decode cX3_might 9 = .ok (.invokevirtual 144, 3) := by decide +kernel
theorem dX3_might_12 : decode cX3_might 12 = .ok (.ifCond .eq 7, 3) := by decide +kernel
theorem dX3_might_15 : decode cX3_might 15 = .ok (.iconst (-1), 1) := by decide +kernel
theorem dX3_might_16 : decode cX3_might 16 = .ok (.goto 9, 3) := by decide +kernel
theorem dX3_might_19 : decode cX3_might 19 = .ok (.aload_n 0, 1) := by decide +kernel
theorem dX3_might_20 : decode cX3_might 20 = .ok (.iload_n 1, 1) := by decide +kernel
theorem dX3_might_21 : decode cX3_might 21 = .ok (.iload_n 2, 1) := by decide +kernel
theorem dX3_might_22 : decode cX3_might 22 = .ok (.invokevirtual 149, 3) := by decide +kernel
theorem dX3_might_25 : decode cX3_might 25 = .ok (.ireturn, 1) := by decide +kernel
set_option maxRecDepth 20000 in
theorem ggX3_holds_X3_noSquare : GoodIn wsX3_holds wsX3_noSquare := goodIn_r _ [5, 6, 7, 8, 4, 9, 31, 32, 33, 34, 35, 36, 37, 38, 39, 40, 41, 42, 43, 44, 45, 46, 47, 48, 49, 50, 51, 52, 53, 54, 55, 56] (by decide +kernel) (by decide +kernel)
set_option maxRecDepth 20000 in
theorem gX3_holds_X3_noSquare : GoodIn wsX3_holds (wsV RX3 144 RX3 yX3_noSquare wsX3_noSquare) := goodIn_app (goodIn_of _ (by decide +kernel)) ggX3_holds_X3_noSquare
set_option maxRecDepth 20000 in
theorem ggX3_holds_X3_holder : GoodIn wsX3_holds wsX3_holder := goodIn_r _ [13, 14, 15, 16, 4, 17, 18, 19, 20, 21, 22, 23, 24, 25, 26, 27, 28, 29, 30, 31, 32, 33, 34, 35, 36, 37, 38, 39, 40, 41, 42, 43, 44, 45, 46, 47, 48, 49, 50, 51, 52, 53, 54, 55, 56] (by decide +kernel) (by decide +kernel)
set_option maxRecDepth 20000 in
theorem gX3_holds_X3_holder : GoodIn wsX3_holds (wsV RX3 152 RX3 yX3_holder wsX3_holder) := goodIn_app (goodIn_of _ (by decide +kernel)) ggX3_holds_X3_holder
theorem dX3_holds_0 : decode cX3_holds 0 = .ok (.aload_n 0, 1) := by decide +kernel
theorem dX3_holds_1 : decode cX3_holds 1 = .ok (.iload_n 1, 1) := by decide +kernel
theorem dX3_holds_2 : decode cX3_holds 2 = .ok (.invokevirtual 144, 3) := by decide +kernel
theorem dX3_holds_5 : decode cX3_holds 5 = .ok (.ifCond .eq 7, 3) := by decide +kernel
theorem dX3_holds_8 : decode cX3_holds 8 = .ok (.iconst (-1), 1) := by decide +kernel
theorem dX3_holds_9 : decode cX3_holds 9 = .ok (.goto 8, 3) := by decide +kernel
theorem dX3_holds_12 : decode cX3_holds 12 = .ok (.aload_n 0, 1) := by decide +kernel
theorem dX3_holds_13 : decode cX3_holds 13 = .ok (.iload_n 1, 1) := by decide +kernel
theorem dX3_holds_14 : decode cX3_holds 14 = .ok (.invokevirtual 152, 3) := by decide +kernel
theorem dX3_holds_17 : decode cX3_holds 17 = .ok (.ireturn, 1) := by decide +kernel
set_option maxRecDepth 20000 in
theorem ggX3_land_X3_noHouse : GoodIn wsX3_land wsX3_noHouse := goodIn_r _ [5, 6, 7, 4, 8] (by decide +kernel) (by decide +kernel)
set_option maxRecDepth 20000 in
theorem gX3_land_X3_noHouse : GoodIn wsX3_land (va_wsS RX3 155 yX3_noHouse wsX3_noHouse) := goodIn_app (goodIn_of _ (by decide +kernel)) ggX3_land_X3_noHouse
set_option maxRecDepth 20000 in
theorem ggX3_land_X3_landOf : GoodIn wsX3_land wsX3_landOf := goodIn_r _ [12, 13, 14, 15, 16, 17, 4, 18, 19, 20, 21, 22, 1, 23, 24, 25, 26, 27, 28, 29, 30, 31, 32, 33, 34, 35, 36, 37, 38, 39, 40, 41, 42, 43, 44, 45, 46, 47, 48, 49, 50, 51, 52, 53, 54, 55, 56, 57, 58, 59, 60] (by decide +kernel) (by decide +kernel)
set_option maxRecDepth 20000 in
theorem gX3_land_X3_landOf : GoodIn wsX3_land (wsV RX3 158 RX3 yX3_landOf wsX3_landOf) := goodIn_app (goodIn_of _ (by decide +kernel)) ggX3_land_X3_landOf
theorem dX3_land_0 : decode cX3_land 0 = .ok (.iload_n 1, 1) := by decide +kernel
theorem dX3_land_1 : decode cX3_land 1 = .ok (.invokestatic 155, 3) := by decide +kernel
theorem dX3_land_4 : decode cX3_land 4 = .ok (.ifCond .eq 5, 3) := by decide +kernel
theorem dX3_land_7 : decode cX3_land 7 = .ok (.iconst (-1), 1) := by decide +kernel
theorem dX3_land_8 : decode cX3_land 8 = .ok (.ireturn, 1) := by decide +kernel
theorem dX3_land_9 : decode cX3_land 9 = .ok (.aload_n 0, 1) := by decide +kernel
theorem dX3_land_10 : decode cX3_land 10 = .ok (.getfield 78, 3) := by decide +kernel
theorem dX3_land_13 : decode cX3_land 13 = .ok (.ifCond .ne 8, 3) := by decide +kernel
theorem dX3_land_16 : decode cX3_land 16 = .ok (.bipush (-3), 2) := by decide +kernel
theorem dX3_land_18 : decode cX3_land 18 = .ok (.goto 8, 3) := by decide +kernel
theorem dX3_land_21 : decode cX3_land 21 = .ok (.aload_n 0, 1) := by decide +kernel
theorem dX3_land_22 : decode cX3_land 22 = .ok (.iload_n 1, 1) := by decide +kernel
theorem dX3_land_23 : decode cX3_land 23 = .ok (.invokevirtual 158, 3) := by decide +kernel
theorem dX3_land_26 : decode cX3_land 26 = .ok (.ireturn, 1) := by decide +kernel
set_option maxRecDepth 20000 in
theorem ggX3_mayAct_X3_isIn : GoodIn wsX3_mayAct wsX3_isIn := goodIn_r _ [7] (by decide +kernel) (by decide +kernel)
set_option maxRecDepth 20000 in
theorem gX3_mayAct_X3_isIn : GoodIn wsX3_mayAct (va_wsS RX3 135 yX3_isIn wsX3_isIn) := goodIn_app (goodIn_of _ (by decide +kernel)) ggX3_mayAct_X3_isIn
theorem dX3_mayAct_0 : decode cX3_mayAct 0 = .ok (.aload_n 0, 1) := by decide +kernel
theorem dX3_mayAct_1 : decode cX3_mayAct 1 = .ok (.getfield 129, 3) := by decide +kernel
theorem dX3_mayAct_4 : decode cX3_mayAct 4 = .ok (.iload_n 1, 1) := by decide +kernel
theorem dX3_mayAct_5 : decode cX3_mayAct 5 = .ok (.invokestatic 135, 3) := by decide +kernel
theorem dX3_mayAct_8 : decode cX3_mayAct 8 = .ok (.ifCond .eq 5, 3) := by decide +kernel
theorem dX3_mayAct_11 : decode cX3_mayAct 11 = .ok (.iconst 0, 1) := by decide +kernel
theorem dX3_mayAct_12 : decode cX3_mayAct 12 = .ok (.ireturn, 1) := by decide +kernel
theorem dX3_mayAct_13 : decode cX3_mayAct 13 = .ok (.iload_n 2, 1) := by decide +kernel
theorem dX3_mayAct_14 : decode cX3_mayAct 14 = .ok (.ifCond .ne 20, 3) := by decide +kernel
theorem dX3_mayAct_17 : decode cX3_mayAct 17 = .ok (.aload_n 0, 1) := by decide +kernel
theorem dX3_mayAct_18 : decode cX3_mayAct 18 = .ok (.getfield 19, 3) := by decide +kernel
theorem dX3_mayAct_21 : decode cX3_mayAct 21 = .ok (.iload_n 1, 1) := by decide +kernel
theorem dX3_mayAct_22 : decode cX3_mayAct 22 = .ok (.iaload, 1) := by decide +kernel
theorem dX3_mayAct_23 : decode cX3_mayAct 23 = .ok (.ifCond .le 7, 3) := by decide +kernel
theorem dX3_mayAct_26 : decode cX3_mayAct 26 = .ok (.iconst 1, 1) := by decide +kernel
theorem dX3_mayAct_27 : decode cX3_mayAct 27 = .ok (.goto 32, 3) := by decide +kernel
theorem dX3_mayAct_30 : decode cX3_mayAct 30 = .ok (.iconst 0, 1) := by decide +kernel
theorem dX3_mayAct_31 : decode cX3_mayAct 31 = .ok (.goto 28, 3) := by decide +kernel
theorem dX3_mayAct_34 : decode cX3_mayAct 34 = .ok (.iload_n 2, 1) := by decide +kernel
theorem dX3_mayAct_35 : decode cX3_mayAct 35 = .ok (.iconst 2, 1) := by decide +kernel
theorem dX3_mayAct_36 : decode cX3_mayAct 36 = .ok (.if_icmp .eq 18, 3) := by decide +kernel
theorem dX3_mayAct_39 : decode cX3_mayAct 39 = .ok (.aload_n 0, 1) := by decide +kernel
theorem dX3_mayAct_40 : decode cX3_mayAct 40 = .ok (.getfield 19, 3) := by decide +kernel
theorem dX3_mayAct_43 : decode cX3_mayAct 43 = .ok (.iload_n 1, 1) := by decide +kernel
theorem dX3_mayAct_44 : decode cX3_mayAct 44 = .ok (.iaload, 1) := by decide +kernel
theorem dX3_mayAct_45 : decode cX3_mayAct 45 = .ok (.aload_n 0, 1) := by decide +kernel
theorem dX3_mayAct_46 : decode cX3_mayAct 46 = .ok (.getfield 75, 3) := by decide +kernel
theorem dX3_mayAct_49 : decode cX3_mayAct 49 = .ok (.iconst 1, 1) := by decide +kernel
theorem dX3_mayAct_50 : decode cX3_mayAct 50 = .ok (.isub, 1) := by decide +kernel
theorem dX3_mayAct_51 : decode cX3_mayAct 51 = .ok (.if_icmp .ge 7, 3) := by decide +kernel
theorem dX3_mayAct_54 : decode cX3_mayAct 54 = .ok (.iconst 1, 1) := by decide +kernel
theorem dX3_mayAct_55 : decode cX3_mayAct 55 = .ok (.goto 4, 3) := by decide +kernel
theorem dX3_mayAct_58 : decode cX3_mayAct 58 = .ok (.iconst 0, 1) := by decide +kernel
theorem dX3_mayAct_59 : decode cX3_mayAct 59 = .ok (.ireturn, 1) := by decide +kernel
theorem dX3_doAct_0 : decode cX3_doAct 0 = .ok (.aload_n 0, 1) := by decide +kernel
theorem dX3_doAct_1 : decode cX3_doAct 1 = .ok (.getfield 19, 3) := by decide +kernel
theorem dX3_doAct_4 : decode cX3_doAct 4 = .ok (.iload_n 1, 1) := by decide +kernel
theorem dX3_doAct_5 : decode cX3_doAct 5 = .ok (.dup2, 1) := by decide +kernel
theorem dX3_doAct_6 : decode cX3_doAct 6 = .ok (.iaload, 1) := by decide +kernel
theorem dX3_doAct_7 : decode cX3_doAct 7 = .ok (.iload_n 2, 1) := by decide +kernel
theorem dX3_doAct_8 : decode cX3_doAct 8 = .ok (.ifCond .ne 7, 3) := by decide +kernel
theorem dX3_doAct_11 : decode cX3_doAct 11 = .ok (.iconst (-1), 1) := by decide +kernel
theorem dX3_doAct_12 : decode cX3_doAct 12 = .ok (.goto 13, 3) := by decide +kernel
theorem dX3_doAct_15 : decode cX3_doAct 15 = .ok (.iload_n 2, 1) := by decide +kernel
theorem dX3_doAct_16 : decode cX3_doAct 16 = .ok (.iconst 1, 1) := by decide +kernel
theorem dX3_doAct_17 : decode cX3_doAct 17 = .ok (.if_icmp .ne 7, 3) := by decide +kernel
theorem dX3_doAct_20 : decode cX3_doAct 20 = .ok (.iconst 1, 1) := by decide +kernel
theorem dX3_doAct_21 : decode cX3_doAct 21 = .ok (.goto 4, 3) := by decide +kernel
theorem dX3_doAct_24 : decode cX3_doAct 24 = .ok (.iconst 0, 1) := by decide +kernel
theorem dX3_doAct_25 : decode cX3_doAct 25 = .ok (.iadd, 1) := by decide +kernel
theorem dX3_doAct_26 : decode cX3_doAct 26 = .ok (.iastore, 1) := by decide +kernel
theorem dX3_doAct_27 : decode cX3_doAct 27 = .ok (.aload_n 0, 1) := by decide +kernel
theorem dX3_doAct_28 : decode cX3_doAct 28 = .ok (.dup, 1) := by decide +kernel
theorem dX3_doAct_29 : decode cX3_doAct 29 = .ok (.getfield 129, 3) := by decide +kernel
theorem dX3_doAct_32 : decode cX3_doAct 32 = .ok (.iload_n 2, 1) := by decide +kernel
theorem dX3_doAct_33 : decode cX3_doAct 33 = .ok (.iconst 2, 1) := by decide +kernel
theorem dX3_doAct_34 : decode cX3_doAct 34 = .ok (.if_icmp .ne 9, 3) := by decide +kernel
theorem dX3_doAct_37 : decode cX3_doAct 37 = .ok (.iconst 1, 1) := by decide +kernel
theorem dX3_doAct_38 : decode cX3_doAct 38 = .ok (.iload_n 1, 1) := by decide +kernel
theorem dX3_doAct_39 : decode cX3_doAct 39 = .ok (.ishl, 1) := by decide +kernel
theorem dX3_doAct_40 : decode cX3_doAct 40 = .ok (.goto 4, 3) := by decide +kernel
theorem dX3_doAct_43 : decode cX3_doAct 43 = .ok (.iconst 0, 1) := by decide +kernel
theorem dX3_doAct_44 : decode cX3_doAct 44 = .ok (.ior, 1) := by decide +kernel
theorem dX3_doAct_45 : decode cX3_doAct 45 = .ok (.putfield 129, 3) := by decide +kernel
theorem dX3_doAct_48 : decode cX3_doAct 48 = .ok (.return_, 1) := by decide +kernel
theorem dX3_undoAct_0 : decode cX3_undoAct 0 = .ok (.aload_n 0, 1) := by decide +kernel
theorem dX3_undoAct_1 : decode cX3_undoAct 1 = .ok (.getfield 19, 3) := by decide +kernel
theorem dX3_undoAct_4 : decode cX3_undoAct 4 = .ok (.iload_n 1, 1) := by decide +kernel
theorem dX3_undoAct_5 : decode cX3_undoAct 5 = .ok (.dup2, 1) := by decide +kernel
theorem dX3_undoAct_6 : decode cX3_undoAct 6 = .ok (.iaload, 1) := by decide +kernel
theorem dX3_undoAct_7 : decode cX3_undoAct 7 = .ok (.iload_n 2, 1) := by decide +kernel
theorem dX3_undoAct_8 : decode cX3_undoAct 8 = .ok (.ifCond .ne 7, 3) := by decide +kernel
theorem dX3_undoAct_11 : decode cX3_undoAct 11 = .ok (.iconst 1, 1) := by decide +kernel
theorem dX3_undoAct_12 : decode cX3_undoAct 12 = .ok (.goto 13, 3) := by decide +kernel
theorem dX3_undoAct_15 : decode cX3_undoAct 15 = .ok (.iload_n 2, 1) := by decide +kernel
theorem dX3_undoAct_16 : decode cX3_undoAct 16 = .ok (.iconst 1, 1) := by decide +kernel
theorem dX3_undoAct_17 : decode cX3_undoAct 17 = .ok (.if_icmp .ne 7, 3) := by decide +kernel
theorem dX3_undoAct_20 : decode cX3_undoAct 20 = .ok (.iconst (-1), 1) := by decide +kernel
theorem dX3_undoAct_21 : decode cX3_undoAct 21 = .ok (.goto 4, 3) := by decide +kernel
theorem dX3_undoAct_24 : decode cX3_undoAct 24 = .ok (.iconst 0, 1) := by decide +kernel
theorem dX3_undoAct_25 : decode cX3_undoAct 25 = .ok (.iadd, 1) := by decide +kernel
theorem dX3_undoAct_26 : decode cX3_undoAct 26 = .ok (.iastore, 1) := by decide +kernel
theorem dX3_undoAct_27 : decode cX3_undoAct 27 = .ok (.aload_n 0, 1) := by decide +kernel
theorem dX3_undoAct_28 : decode cX3_undoAct 28 = .ok (.dup, 1) := by decide +kernel
theorem dX3_undoAct_29 : decode cX3_undoAct 29 = .ok (.getfield 129, 3) := by decide +kernel
theorem dX3_undoAct_32 : decode cX3_undoAct 32 = .ok (.iload_n 2, 1) := by decide +kernel
theorem dX3_undoAct_33 : decode cX3_undoAct 33 = .ok (.iconst 2, 1) := by decide +kernel
theorem dX3_undoAct_34 : decode cX3_undoAct 34 = .ok (.if_icmp .ne 11, 3) := by decide +kernel
theorem dX3_undoAct_37 : decode cX3_undoAct 37 = .ok (.iconst 1, 1) := by decide +kernel
theorem dX3_undoAct_38 : decode cX3_undoAct 38 = .ok (.iload_n 1, 1) := by decide +kernel
theorem dX3_undoAct_39 : decode cX3_undoAct 39 = .ok (.ishl, 1) := by decide +kernel
theorem dX3_undoAct_40 : decode cX3_undoAct 40 = .ok (.iconst (-1), 1) := by decide +kernel
theorem dX3_undoAct_41 : decode cX3_undoAct 41 = .ok (.ixor, 1) := by decide +kernel
theorem dX3_undoAct_42 : decode cX3_undoAct 42 = .ok (.goto 4, 3) := by decide +kernel
theorem dX3_undoAct_45 : decode cX3_undoAct 45 = .ok (.iconst (-1), 1) := by decide +kernel
theorem dX3_undoAct_46 : decode cX3_undoAct 46 = .ok (.iand, 1) := by decide +kernel
theorem dX3_undoAct_47 : decode cX3_undoAct 47 = .ok (.putfield 129, 3) := by decide +kernel
theorem dX3_undoAct_50 : decode cX3_undoAct 50 = .ok (.return_, 1) := by decide +kernel
set_option maxRecDepth 20000 in
theorem ggX3_act_X3_noThing : GoodIn wsX3_act wsX3_noThing := goodIn_r _ [7, 8, 9, 10, 6, 11, 25, 26, 27, 28, 29, 30, 31, 32, 33, 34, 35, 36, 37, 38, 39, 40, 41, 42, 43, 44, 45, 46, 47, 48, 49, 50] (by decide +kernel) (by decide +kernel)
set_option maxRecDepth 20000 in
theorem gX3_act_X3_noThing : GoodIn wsX3_act (wsV RX3 138 RX3 yX3_noThing wsX3_noThing) := goodIn_app (goodIn_of _ (by decide +kernel)) ggX3_act_X3_noThing
set_option maxRecDepth 20000 in
theorem ggX3_act_X3_in : GoodIn wsX3_act wsX3_in := goodIn_r _ [11] (by decide +kernel) (by decide +kernel)
set_option maxRecDepth 20000 in
theorem gX3_act_X3_in : GoodIn wsX3_act (va_wsS RX3 71 yX3_in wsX3_in) := goodIn_app (goodIn_of _ (by decide +kernel)) ggX3_act_X3_in
set_option maxRecDepth 20000 in
theorem ggX3_act_X3_mayAct : GoodIn wsX3_act wsX3_mayAct := goodIn_r _ [15, 16, 2, 17, 18, 19, 6, 20, 25, 26, 27, 28, 29, 30, 31, 32, 33, 34, 35, 36, 37, 38, 39, 40, 41, 42, 43, 44, 45, 46, 47, 48, 49, 50] (by decide +kernel) (by decide +kernel)
set_option maxRecDepth 20000 in
theorem gX3_act_X3_mayAct : GoodIn wsX3_act (wsV RX3 161 RX3 yX3_mayAct wsX3_mayAct) := goodIn_app (goodIn_of _ (by decide +kernel)) ggX3_act_X3_mayAct
set_option maxRecDepth 20000 in
theorem ggX3_act_X3_doAct : GoodIn wsX3_act wsX3_doAct := goodIn_r _ [24, 2, 16, 25, 26, 27, 28, 29, 30, 31, 32, 33, 34, 35, 36, 37, 38, 39, 40, 41, 42, 43, 44, 45, 46, 47, 48, 49, 50] (by decide +kernel) (by decide +kernel)
set_option maxRecDepth 20000 in
theorem gX3_act_X3_doAct : GoodIn wsX3_act (wsV RX3 164 RX3 yX3_doAct wsX3_doAct) := goodIn_app (goodIn_of _ (by decide +kernel)) ggX3_act_X3_doAct
theorem dX3_act_0 : decode cX3_act 0 = .ok (.aload_n 0, 1) := by decide +kernel
theorem dX3_act_1 : decode cX3_act 1 = .ok (.iload_n 1, 1) := by decide +kernel
theorem dX3_act_2 : decode cX3_act 2 = .ok (.invokevirtual 138, 3) := by decide +kernel
theorem dX3_act_5 : decode cX3_act 5 = .ok (.ifCond .eq 5, 3) := by decide +kernel
theorem dX3_act_8 : decode cX3_act 8 = .ok (.iconst (-1), 1) := by decide +kernel
theorem dX3_act_9 : decode cX3_act 9 = .ok (.ireturn, 1) := by decide +kernel
theorem dX3_act_10 : decode cX3_act 10 = .ok (.iload_n 2, 1) := by decide +kernel
theorem dX3_act_11 : decode cX3_act 11 = .ok (.i2l, 1) := by decide +kernel
theorem dX3_act_12 : decode cX3_act 12 = .ok (.lconst 0, 1) := by decide +kernel
theorem dX3_act_13 : decode cX3_act 13 = .ok (.ldc2_w 120, 3) := by decide +kernel
theorem dX3_act_16 : decode cX3_act 16 = .ok (.invokestatic 71, 3) := by decide +kernel
theorem dX3_act_19 : decode cX3_act 19 = .ok (.ifCond .ne 6, 3) := by decide +kernel
theorem dX3_act_22 : decode cX3_act 22 = .ok (.bipush (-2), 2) := by decide +kernel
theorem dX3_act_24 : decode cX3_act 24 = .ok (.ireturn, 1) := by decide +kernel
theorem dX3_act_25 : decode cX3_act 25 = .ok (.aload_n 0, 1) := by decide +kernel
theorem dX3_act_26 : decode cX3_act 26 = .ok (.iload_n 1, 1) := by decide +kernel
theorem dX3_act_27 : decode cX3_act 27 = .ok (.iload_n 2, 1) := by decide +kernel
theorem dX3_act_28 : decode cX3_act 28 = .ok (.invokevirtual 161, 3) := by decide +kernel
theorem dX3_act_31 : decode cX3_act 31 = .ok (.ifCond .ne 6, 3) := by decide +kernel
theorem dX3_act_34 : decode cX3_act 34 = .ok (.bipush (-3), 2) := by decide +kernel
theorem dX3_act_36 : decode cX3_act 36 = .ok (.ireturn, 1) := by decide +kernel
theorem dX3_act_37 : decode cX3_act 37 = .ok (.aload_n 0, 1) := by decide +kernel
theorem dX3_act_38 : decode cX3_act 38 = .ok (.iload_n 1, 1) := by decide +kernel
theorem dX3_act_39 : decode cX3_act 39 = .ok (.iload_n 2, 1) := by decide +kernel
theorem dX3_act_40 : decode cX3_act 40 = .ok (.invokevirtual 164, 3) := by decide +kernel
theorem dX3_act_43 : decode cX3_act 43 = .ok (.iload_n 2, 1) := by decide +kernel
theorem dX3_act_44 : decode cX3_act 44 = .ok (.iconst 2, 1) := by decide +kernel
theorem dX3_act_45 : decode cX3_act 45 = .ok (.if_icmp .ne 8, 3) := by decide +kernel
theorem dX3_act_48 : decode cX3_act 48 = .ok (.bipush (-9), 2) := by decide +kernel
theorem dX3_act_50 : decode cX3_act 50 = .ok (.goto 9, 3) := by decide +kernel
theorem dX3_act_53 : decode cX3_act 53 = .ok (.aload_n 0, 1) := by decide +kernel
theorem dX3_act_54 : decode cX3_act 54 = .ok (.getfield 19, 3) := by decide +kernel
theorem dX3_act_57 : decode cX3_act 57 = .ok (.iload_n 1, 1) := by decide +kernel
theorem dX3_act_58 : decode cX3_act 58 = .ok (.iaload, 1) := by decide +kernel
theorem dX3_act_59 : decode cX3_act 59 = .ok (.ireturn, 1) := by decide +kernel
set_option maxRecDepth 20000 in
theorem ggX3_serve_X3_bits : GoodIn wsX3_serve wsX3_bits := goodIn_r _ [6] (by decide +kernel) (by decide +kernel)
set_option maxRecDepth 20000 in
theorem gX3_serve_X3_bits : GoodIn wsX3_serve (va_wsS RX3 168 yX3_bits wsX3_bits) := goodIn_app (goodIn_of _ (by decide +kernel)) ggX3_serve_X3_bits
theorem dX3_serve_0 : decode cX3_serve 0 = .ok (.aload_n 0, 1) := by decide +kernel
theorem dX3_serve_1 : decode cX3_serve 1 = .ok (.getfield 78, 3) := by decide +kernel
theorem dX3_serve_4 : decode cX3_serve 4 = .ok (.ifCond .ne 6, 3) := by decide +kernel
theorem dX3_serve_7 : decode cX3_serve 7 = .ok (.bipush (-3), 2) := by decide +kernel
theorem dX3_serve_9 : decode cX3_serve 9 = .ok (.ireturn, 1) := by decide +kernel
theorem dX3_serve_10 : decode cX3_serve 10 = .ok (.aload_n 0, 1) := by decide +kernel
theorem dX3_serve_11 : decode cX3_serve 11 = .ok (.getfield 129, 3) := by decide +kernel
theorem dX3_serve_14 : decode cX3_serve 14 = .ok (.invokestatic 168, 3) := by decide +kernel
theorem dX3_serve_17 : decode cX3_serve 17 = .ok (.istore_n 1, 1) := by decide +kernel
theorem dX3_serve_18 : decode cX3_serve 18 = .ok (.aload_n 0, 1) := by decide +kernel
theorem dX3_serve_19 : decode cX3_serve 19 = .ok (.iconst 0, 1) := by decide +kernel
theorem dX3_serve_20 : decode cX3_serve 20 = .ok (.putfield 129, 3) := by decide +kernel
theorem dX3_serve_23 : decode cX3_serve 23 = .ok (.iload_n 1, 1) := by decide +kernel
theorem dX3_serve_24 : decode cX3_serve 24 = .ok (.ireturn, 1) := by decide +kernel
set_option maxRecDepth 20000 in
theorem ggX3_goDinner_X3_mayAct : GoodIn wsX3_goDinner wsX3_mayAct := goodIn_r _ [7, 8, 9, 10, 11, 12, 6, 13, 18, 19, 20, 21, 22, 23, 24, 25, 26, 27, 28, 29, 30, 31, 32, 33, 34, 35, 36, 37, 38, 39, 40, 41, 42, 43] (by decide +kernel) (by decide +kernel)
set_option maxRecDepth 20000 in
theorem gX3_goDinner_X3_mayAct : GoodIn wsX3_goDinner (wsV RX3 161 RX3 yX3_mayAct wsX3_mayAct) := goodIn_app (goodIn_of _ (by decide +kernel)) ggX3_goDinner_X3_mayAct
set_option maxRecDepth 20000 in
theorem ggX3_goDinner_X3_doAct : GoodIn wsX3_goDinner wsX3_doAct := goodIn_r _ [17, 9, 8, 18, 19, 20, 21, 22, 23, 24, 25, 26, 27, 28, 29, 30, 31, 32, 33, 34, 35, 36, 37, 38, 39, 40, 41, 42, 43] (by decide +kernel) (by decide +kernel)
set_option maxRecDepth 20000 in
theorem gX3_goDinner_X3_doAct : GoodIn wsX3_goDinner (wsV RX3 164 RX3 yX3_doAct wsX3_doAct) := goodIn_app (goodIn_of _ (by decide +kernel)) ggX3_goDinner_X3_doAct
theorem dX3_goDinner_0 : decode cX3_goDinner 0 = .ok (.bipush (-9), 2) := by decide +kernel
theorem dX3_goDinner_2 : decode cX3_goDinner 2 = .ok (.istore_n 3, 1) := by decide +kernel
theorem dX3_goDinner_3 : decode cX3_goDinner 3 = .ok (.iconst 0, 1) := by decide +kernel
theorem dX3_goDinner_4 : decode cX3_goDinner 4 = .ok (.istore 4, 2) := by decide +kernel
theorem dX3_goDinner_6 : decode cX3_goDinner 6 = .ok (.iload 4, 2) := by decide +kernel
theorem dX3_goDinner_8 : decode cX3_goDinner 8 = .ok (.iload_n 2, 1) := by decide +kernel
theorem dX3_goDinner_9 : decode cX3_goDinner 9 = .ok (.if_icmp .ge 80, 3) := by decide +kernel
theorem dX3_goDinner_12 : decode cX3_goDinner 12 = .ok (.iload_n 3, 1) := by decide +kernel
theorem dX3_goDinner_13 : decode cX3_goDinner 13 = .ok (.ifCond .ge 76, 3) := by decide +kernel
theorem dX3_goDinner_16 : decode cX3_goDinner 16 = .ok (.aload_n 0, 1) := by decide +kernel
theorem dX3_goDinner_17 : decode cX3_goDinner 17 = .ok (.getfield 55, 3) := by decide +kernel
theorem dX3_goDinner_20 : decode cX3_goDinner 20 = .ok (.iload_n 1, 1) := by decide +kernel
theorem dX3_goDinner_21 : decode cX3_goDinner 21 = .ok (.iconst 2, 1) := by decide +kernel
theorem dX3_goDinner_22 : decode cX3_goDinner 22 = .ok (.iload 4, 2) := by decide +kernel
theorem dX3_goDinner_24 : decode cX3_goDinner 24 = .ok (.imul, 1) := by decide +kernel
theorem dX3_goDinner_25 : decode cX3_goDinner 25 = .ok (.iadd, 1) := by decide +kernel
theorem dX3_goDinner_26 : decode cX3_goDinner 26 = .ok (.iaload, 1) := by decide +kernel
theorem dX3_goDinner_27 : decode cX3_goDinner 27 = .ok (.istore 5, 2) := by decide +kernel
theorem dX3_goDinner_29 : decode cX3_goDinner 29 = .ok (.aload_n 0, 1) := by decide +kernel
theorem dX3_goDinner_30 : decode cX3_goDinner 30 = .ok (.getfield 55, 3) := by decide +kernel
theorem dX3_goDinner_33 : decode cX3_goDinner 33 = .ok (.iload_n 1, 1) := by decide +kernel
theorem dX3_goDinner_34 : decode cX3_goDinner 34 = .ok (.iconst 2, 1) := by decide +kernel
theorem dX3_goDinner_35 : decode cX3_goDinner 35 = .ok (.iload 4, 2) := by decide +kernel
theorem dX3_goDinner_37 : decode cX3_goDinner 37 = .ok (.imul, 1) := by decide +kernel
theorem dX3_goDinner_38 : decode cX3_goDinner 38 = .ok (.iadd, 1) := by decide +kernel
theorem dX3_goDinner_39 : decode cX3_goDinner 39 = .ok (.iconst 1, 1) := by decide +kernel
theorem dX3_goDinner_40 : decode cX3_goDinner 40 = .ok (.iadd, 1) := by decide +kernel
theorem dX3_goDinner_41 : decode cX3_goDinner 41 = .ok (.iaload, 1) := by decide +kernel
theorem dX3_goDinner_42 : decode cX3_goDinner 42 = .ok (.istore 6, 2) := by decide +kernel
theorem dX3_goDinner_44 : decode cX3_goDinner 44 = .ok (.aload_n 0, 1) := by decide +kernel
theorem dX3_goDinner_45 : decode cX3_goDinner 45 = .ok (.getfield 16, 3) := by decide +kernel
theorem dX3_goDinner_48 : decode cX3_goDinner 48 = .ok (.iload 5, 2) := by decide +kernel
theorem dX3_goDinner_50 : decode cX3_goDinner 50 = .ok (.iaload, 1) := by decide +kernel
theorem dX3_goDinner_51 : decode cX3_goDinner 51 = .ok (.iload 4, 2) := by decide +kernel
theorem dX3_goDinner_53 : decode cX3_goDinner 53 = .ok (.iconst 2, 1) := by decide +kernel
theorem dX3_goDinner_54 : decode cX3_goDinner 54 = .ok (.irem, 1) := by decide +kernel
theorem dX3_goDinner_55 : decode cX3_goDinner 55 = .ok (.if_icmp .ne 25, 3) := by decide +kernel
theorem dX3_goDinner_58 : decode cX3_goDinner 58 = .ok (.aload_n 0, 1) := by decide +kernel
theorem dX3_goDinner_59 : decode cX3_goDinner 59 = .ok (.iload 5, 2) := by decide +kernel
theorem dX3_goDinner_61 : decode cX3_goDinner 61 = .ok (.iload 6, 2) := by decide +kernel
theorem dX3_goDinner_63 : decode cX3_goDinner 63 = .ok (.invokevirtual 161, 3) := by decide +kernel
theorem dX3_goDinner_66 : decode cX3_goDinner 66 = .ok (.ifCond .eq 14, 3) := by decide +kernel
theorem dX3_goDinner_69 : decode cX3_goDinner 69 = .ok (.aload_n 0, 1) := by decide +kernel
theorem dX3_goDinner_70 : decode cX3_goDinner 70 = .ok (.iload 5, 2) := by decide +kernel
theorem dX3_goDinner_72 : decode cX3_goDinner 72 = .ok (.iload 6, 2) := by decide +kernel
theorem dX3_goDinner_74 : decode cX3_goDinner 74 = .ok (.invokevirtual 164, 3) := by decide +kernel
theorem dX3_goDinner_77 : decode cX3_goDinner 77 = .ok (.goto 6, 3) := by decide +kernel
theorem dX3_goDinner_80 : decode cX3_goDinner 80 = .ok (.iload 4, 2) := by decide +kernel
theorem dX3_goDinner_82 : decode cX3_goDinner 82 = .ok (.istore_n 3, 1) := by decide +kernel
theorem dX3_goDinner_83 : decode cX3_goDinner 83 = .ok (.iinc 4 1, 3) := by decide +kernel
theorem dX3_goDinner_86 : decode cX3_goDinner 86 = .ok (.goto (-80), 3) := by decide +kernel
theorem dX3_goDinner_89 : decode cX3_goDinner 89 = .ok (.iload_n 3, 1) := by decide +kernel
theorem dX3_goDinner_90 : decode cX3_goDinner 90 = .ok (.ireturn, 1) := by decide +kernel
set_option maxRecDepth 20000 in
theorem ggX3_dinnerBy_X3_goDinner : GoodIn wsX3_dinnerBy wsX3_goDinner := goodIn_r _ [7, 8, 9, 10, 11, 12, 6, 13, 1, 2, 14, 15, 16, 17, 18, 19, 20, 21, 56, 57, 58, 59, 60, 61, 62, 63, 64, 65, 66, 67, 68, 69, 70, 71, 72, 73, 74, 75, 76, 77, 78, 79, 80, 81] (by decide +kernel) (by decide +kernel)
set_option maxRecDepth 20000 in
theorem gX3_dinnerBy_X3_goDinner : GoodIn wsX3_dinnerBy (wsV RX3 171 RX3 yX3_goDinner wsX3_goDinner) := goodIn_app (goodIn_of _ (by decide +kernel)) ggX3_dinnerBy_X3_goDinner
set_option maxRecDepth 20000 in
theorem ggX3_dinnerBy_X3_noSquare : GoodIn wsX3_dinnerBy wsX3_noSquare := goodIn_r _ [25, 14, 26, 27, 6, 28, 56, 57, 58, 59, 60, 61, 62, 63, 64, 65, 66, 67, 68, 69, 70, 71, 72, 73, 74, 75, 76, 77, 78, 79, 80, 81] (by decide +kernel) (by decide +kernel)
set_option maxRecDepth 20000 in
theorem gX3_dinnerBy_X3_noSquare : GoodIn wsX3_dinnerBy (wsV RX3 144 RX3 yX3_noSquare wsX3_noSquare) := goodIn_app (goodIn_of _ (by decide +kernel)) ggX3_dinnerBy_X3_noSquare
set_option maxRecDepth 20000 in
theorem ggX3_dinnerBy_X3_holder : GoodIn wsX3_dinnerBy wsX3_holder := goodIn_r _ [32, 33, 34, 35, 6, 36, 37, 9, 2, 38, 39, 40, 41, 42, 43, 1, 15, 16, 17, 56, 57, 58, 59, 60, 61, 62, 63, 64, 65, 66, 67, 68, 69, 70, 71, 72, 73, 74, 75, 76, 77, 78, 79, 80, 81] (by decide +kernel) (by decide +kernel)
set_option maxRecDepth 20000 in
theorem gX3_dinnerBy_X3_holder : GoodIn wsX3_dinnerBy (wsV RX3 152 RX3 yX3_holder wsX3_holder) := goodIn_app (goodIn_of _ (by decide +kernel)) ggX3_dinnerBy_X3_holder
set_option maxRecDepth 20000 in
theorem ggX3_dinnerBy_X3_noThing : GoodIn wsX3_dinnerBy wsX3_noThing := goodIn_r _ [47, 37, 26, 27, 6, 28, 56, 57, 58, 59, 60, 61, 62, 63, 64, 65, 66, 67, 68, 69, 70, 71, 72, 73, 74, 75, 76, 77, 78, 79, 80, 81] (by decide +kernel) (by decide +kernel)
set_option maxRecDepth 20000 in
theorem gX3_dinnerBy_X3_noThing : GoodIn wsX3_dinnerBy (wsV RX3 138 RX3 yX3_noThing wsX3_noThing) := goodIn_app (goodIn_of _ (by decide +kernel)) ggX3_dinnerBy_X3_noThing
set_option maxRecDepth 20000 in
theorem ggX3_dinnerBy_X3_isIn : GoodIn wsX3_dinnerBy wsX3_isIn := goodIn_r _ [17] (by decide +kernel) (by decide +kernel)
set_option maxRecDepth 20000 in
theorem gX3_dinnerBy_X3_isIn : GoodIn wsX3_dinnerBy (va_wsS RX3 135 yX3_isIn wsX3_isIn) := goodIn_app (goodIn_of _ (by decide +kernel)) ggX3_dinnerBy_X3_isIn
set_option maxRecDepth 20000 in
theorem ggX3_dinnerBy_X3_landOf : GoodIn wsX3_dinnerBy wsX3_landOf := goodIn_r _ [51, 14, 52, 29, 30, 31, 6, 32, 33, 34, 35, 36, 37, 9, 2, 38, 39, 40, 41, 42, 43, 1, 15, 16, 17, 56, 57, 58, 59, 60, 61, 62, 63, 64, 65, 66, 67, 68, 69, 70, 71, 72, 73, 74, 75, 76, 77, 78, 79, 80, 81] (by decide +kernel) (by decide +kernel)
set_option maxRecDepth 20000 in
theorem gX3_dinnerBy_X3_landOf : GoodIn wsX3_dinnerBy (wsV RX3 158 RX3 yX3_landOf wsX3_landOf) := goodIn_app (goodIn_of _ (by decide +kernel)) ggX3_dinnerBy_X3_landOf
set_option maxRecDepth 20000 in
theorem ggX3_dinnerBy_X3_bits : GoodIn wsX3_dinnerBy wsX3_bits := goodIn_r _ [55] (by decide +kernel) (by decide +kernel)
set_option maxRecDepth 20000 in
theorem gX3_dinnerBy_X3_bits : GoodIn wsX3_dinnerBy (va_wsS RX3 168 yX3_bits wsX3_bits) := goodIn_app (goodIn_of _ (by decide +kernel)) ggX3_dinnerBy_X3_bits
theorem dX3_dinnerBy_0 : decode cX3_dinnerBy 0 = .ok (.aload_n 0, 1) := by decide +kernel
theorem dX3_dinnerBy_1 : decode cX3_dinnerBy 1 = .ok (.iload_n 1, 1) := by decide +kernel
theorem dX3_dinnerBy_2 : decode cX3_dinnerBy 2 = .ok (.iload_n 2, 1) := by decide +kernel
theorem dX3_dinnerBy_3 : decode cX3_dinnerBy 3 = .ok (.invokevirtual 171, 3) := by decide +kernel
theorem dX3_dinnerBy_6 : decode cX3_dinnerBy 6 = .ok (.istore 4, 2) := by decide +kernel
theorem dX3_dinnerBy_8 : decode cX3_dinnerBy 8 = .ok (.iload_n 3, 1) := by decide +kernel
theorem dX3_dinnerBy_9 : decode cX3_dinnerBy 9 = .ok (.iconst 1, 1) := by decide +kernel
theorem dX3_dinnerBy_10 : decode cX3_dinnerBy 10 = .ok (.if_icmp .ne 6, 3) := by decide +kernel
theorem dX3_dinnerBy_13 : decode cX3_dinnerBy 13 = .ok (.iload 4, 2) := by decide +kernel
theorem dX3_dinnerBy_15 : decode cX3_dinnerBy 15 = .ok (.ireturn, 1) := by decide +kernel
theorem dX3_dinnerBy_16 : decode cX3_dinnerBy 16 = .ok (.iload 4, 2) := by decide +kernel
theorem dX3_dinnerBy_18 : decode cX3_dinnerBy 18 = .ok (.ifCond .lt 9, 3) := by decide +kernel
theorem dX3_dinnerBy_21 : decode cX3_dinnerBy 21 = .ok (.bipush (-100), 2) := by decide +kernel
theorem dX3_dinnerBy_23 : decode cX3_dinnerBy 23 = .ok (.iload 4, 2) := by decide +kernel
theorem dX3_dinnerBy_25 : decode cX3_dinnerBy 25 = .ok (.isub, 1) := by decide +kernel
theorem dX3_dinnerBy_26 : decode cX3_dinnerBy 26 = .ok (.ireturn, 1) := by decide +kernel
theorem dX3_dinnerBy_27 : decode cX3_dinnerBy 27 = .ok (.iload_n 3, 1) := by decide +kernel
theorem dX3_dinnerBy_28 : decode cX3_dinnerBy 28 = .ok (.bipush 20, 2) := by decide +kernel
theorem dX3_dinnerBy_30 : decode cX3_dinnerBy 30 = .ok (.if_icmp .lt 28, 3) := by decide +kernel
theorem dX3_dinnerBy_33 : decode cX3_dinnerBy 33 = .ok (.aload_n 0, 1) := by decide +kernel
theorem dX3_dinnerBy_34 : decode cX3_dinnerBy 34 = .ok (.iload_n 3, 1) := by decide +kernel
theorem dX3_dinnerBy_35 : decode cX3_dinnerBy 35 = .ok (.bipush 20, 2) := by decide +kernel
theorem dX3_dinnerBy_37 : decode cX3_dinnerBy 37 = .ok (.isub, 1) := by decide +kernel
theorem dX3_dinnerBy_38 : decode cX3_dinnerBy 38 = .ok (.invokevirtual 144, 3) := by decide +kernel
theorem dX3_dinnerBy_41 : decode cX3_dinnerBy 41 = .ok (.ifCond .eq 8, 3) := by decide +kernel
theorem dX3_dinnerBy_44 : decode cX3_dinnerBy 44 = .ok (.bipush (-9), 2) := by decide +kernel
theorem dX3_dinnerBy_46 : decode cX3_dinnerBy 46 = .ok (.goto 11, 3) := by decide +kernel
theorem dX3_dinnerBy_49 : decode cX3_dinnerBy 49 = .ok (.aload_n 0, 1) := by decide +kernel
theorem dX3_dinnerBy_50 : decode cX3_dinnerBy 50 = .ok (.iload_n 3, 1) := by decide +kernel
theorem dX3_dinnerBy_51 : decode cX3_dinnerBy 51 = .ok (.bipush 20, 2) := by decide +kernel
theorem dX3_dinnerBy_53 : decode cX3_dinnerBy 53 = .ok (.isub, 1) := by decide +kernel
theorem dX3_dinnerBy_54 : decode cX3_dinnerBy 54 = .ok (.invokevirtual 152, 3) := by decide +kernel
theorem dX3_dinnerBy_57 : decode cX3_dinnerBy 57 = .ok (.ireturn, 1) := by decide +kernel
theorem dX3_dinnerBy_58 : decode cX3_dinnerBy 58 = .ok (.iload_n 3, 1) := by decide +kernel
theorem dX3_dinnerBy_59 : decode cX3_dinnerBy 59 = .ok (.bipush 10, 2) := by decide +kernel
theorem dX3_dinnerBy_61 : decode cX3_dinnerBy 61 = .ok (.if_icmp .lt 43, 3) := by decide +kernel
theorem dX3_dinnerBy_64 : decode cX3_dinnerBy 64 = .ok (.aload_n 0, 1) := by decide +kernel
theorem dX3_dinnerBy_65 : decode cX3_dinnerBy 65 = .ok (.iload_n 3, 1) := by decide +kernel
theorem dX3_dinnerBy_66 : decode cX3_dinnerBy 66 = .ok (.bipush 10, 2) := by decide +kernel
theorem dX3_dinnerBy_68 : decode cX3_dinnerBy 68 = .ok (.isub, 1) := by decide +kernel
theorem dX3_dinnerBy_69 : decode cX3_dinnerBy 69 = .ok (.invokevirtual 138, 3) := by decide +kernel
theorem dX3_dinnerBy_72 : decode cX3_dinnerBy 72 = .ok (.ifCond .ne 17, 3) := by decide +kernel
theorem dX3_dinnerBy_75 : decode cX3_dinnerBy 75 = .ok (.aload_n 0, 1) := by decide +kernel
theorem dX3_dinnerBy_76 : decode cX3_dinnerBy 76 = .ok (.getfield 129, 3) := by decide +kernel
theorem dX3_dinnerBy_79 : decode cX3_dinnerBy 79 = .ok (.iload_n 3, 1) := by decide +kernel
theorem dX3_dinnerBy_80 : decode cX3_dinnerBy 80 = .ok (.bipush 10, 2) := by decide +kernel
theorem dX3_dinnerBy_82 : decode cX3_dinnerBy 82 = .ok (.isub, 1) := by decide +kernel
theorem dX3_dinnerBy_83 : decode cX3_dinnerBy 83 = .ok (.invokestatic 135, 3) := by decide +kernel
theorem dX3_dinnerBy_86 : decode cX3_dinnerBy 86 = .ok (.ifCond .eq 8, 3) := by decide +kernel
theorem dX3_dinnerBy_89 : decode cX3_dinnerBy 89 = .ok (.bipush (-9), 2) := by decide +kernel
theorem dX3_dinnerBy_91 : decode cX3_dinnerBy 91 = .ok (.goto 12, 3) := by decide +kernel
theorem dX3_dinnerBy_94 : decode cX3_dinnerBy 94 = .ok (.aload_n 0, 1) := by decide +kernel
theorem dX3_dinnerBy_95 : decode cX3_dinnerBy 95 = .ok (.getfield 19, 3) := by decide +kernel
theorem dX3_dinnerBy_98 : decode cX3_dinnerBy 98 = .ok (.iload_n 3, 1) := by decide +kernel
theorem dX3_dinnerBy_99 : decode cX3_dinnerBy 99 = .ok (.bipush 10, 2) := by decide +kernel
theorem dX3_dinnerBy_101 : decode cX3_dinnerBy 101 = .ok (.isub, 1) := by decide +kernel
theorem dX3_dinnerBy_102 : decode cX3_dinnerBy 102 = .ok (.iaload, 1) := by decide +kernel
theorem dX3_dinnerBy_103 : decode cX3_dinnerBy 103 = .ok (.ireturn, 1) := by decide +kernel
theorem dX3_dinnerBy_104 : decode cX3_dinnerBy 104 = .ok (.iload_n 3, 1) := by decide +kernel
theorem dX3_dinnerBy_105 : decode cX3_dinnerBy 105 = .ok (.ifCond .ne 11, 3) := by decide +kernel
theorem dX3_dinnerBy_108 : decode cX3_dinnerBy 108 = .ok (.aload_n 0, 1) := by decide +kernel
theorem dX3_dinnerBy_109 : decode cX3_dinnerBy 109 = .ok (.iconst 0, 1) := by decide +kernel
theorem dX3_dinnerBy_110 : decode cX3_dinnerBy 110 = .ok (.invokevirtual 158, 3) := by decide +kernel
theorem dX3_dinnerBy_113 : decode cX3_dinnerBy 113 = .ok (.goto 23, 3) := by decide +kernel
theorem dX3_dinnerBy_116 : decode cX3_dinnerBy 116 = .ok (.iload_n 3, 1) := by decide +kernel
theorem dX3_dinnerBy_117 : decode cX3_dinnerBy 117 = .ok (.iconst 2, 1) := by decide +kernel
theorem dX3_dinnerBy_118 : decode cX3_dinnerBy 118 = .ok (.if_icmp .ne 11, 3) := by decide +kernel
theorem dX3_dinnerBy_121 : decode cX3_dinnerBy 121 = .ok (.aload_n 0, 1) := by decide +kernel
theorem dX3_dinnerBy_122 : decode cX3_dinnerBy 122 = .ok (.iconst 1, 1) := by decide +kernel
theorem dX3_dinnerBy_123 : decode cX3_dinnerBy 123 = .ok (.invokevirtual 158, 3) := by decide +kernel
theorem dX3_dinnerBy_126 : decode cX3_dinnerBy 126 = .ok (.goto 10, 3) := by decide +kernel
theorem dX3_dinnerBy_129 : decode cX3_dinnerBy 129 = .ok (.aload_n 0, 1) := by decide +kernel
theorem dX3_dinnerBy_130 : decode cX3_dinnerBy 130 = .ok (.getfield 129, 3) := by decide +kernel
theorem dX3_dinnerBy_133 : decode cX3_dinnerBy 133 = .ok (.invokestatic 168, 3) := by decide +kernel
theorem dX3_dinnerBy_136 : decode cX3_dinnerBy 136 = .ok (.ireturn, 1) := by decide +kernel
set_option maxRecDepth 20000 in
theorem ggX3_pairsBarred_X3_noThing : GoodIn wsX3_pairsBarred wsX3_noThing := goodIn_r _ [7, 8, 9, 10, 6, 11, 12, 13, 14, 15, 16, 17, 18, 19, 20, 21, 22, 23, 24, 25, 26, 27, 28, 29, 30, 31, 32, 33, 34, 35, 36, 37] (by decide +kernel) (by decide +kernel)
set_option maxRecDepth 20000 in
theorem gX3_pairsBarred_X3_noThing : GoodIn wsX3_pairsBarred (wsV RX3 138 RX3 yX3_noThing wsX3_noThing) := goodIn_app (goodIn_of _ (by decide +kernel)) ggX3_pairsBarred_X3_noThing
set_option maxRecDepth 20000 in
theorem ggX3_pairsBarred_X3_in : GoodIn wsX3_pairsBarred wsX3_in := goodIn_r _ [11] (by decide +kernel) (by decide +kernel)
set_option maxRecDepth 20000 in
theorem gX3_pairsBarred_X3_in : GoodIn wsX3_pairsBarred (va_wsS RX3 71 yX3_in wsX3_in) := goodIn_app (goodIn_of _ (by decide +kernel)) ggX3_pairsBarred_X3_in
theorem dX3_pairsBarred_0 : decode cX3_pairsBarred 0 = .ok (.iconst 0, 1) := by decide +kernel
theorem dX3_pairsBarred_1 : decode cX3_pairsBarred 1 = .ok (.istore_n 3, 1) := by decide +kernel
theorem dX3_pairsBarred_2 : decode cX3_pairsBarred 2 = .ok (.iload_n 3, 1) := by decide +kernel
theorem dX3_pairsBarred_3 : decode cX3_pairsBarred 3 = .ok (.iload_n 2, 1) := by decide +kernel
theorem dX3_pairsBarred_4 : decode cX3_pairsBarred 4 = .ok (.if_icmp .ge 54, 3) := by decide +kernel
theorem dX3_pairsBarred_7 : decode cX3_pairsBarred 7 = .ok (.aload_n 0, 1) := by decide +kernel
theorem dX3_pairsBarred_8 : decode cX3_pairsBarred 8 = .ok (.aload_n 0, 1) := by decide +kernel
theorem dX3_pairsBarred_9 : decode cX3_pairsBarred 9 = .ok (.getfield 55, 3) := by decide +kernel
theorem dX3_pairsBarred_12 : decode cX3_pairsBarred 12 = .ok (.iload_n 1, 1) := by decide +kernel
theorem dX3_pairsBarred_13 : decode cX3_pairsBarred 13 = .ok (.iconst 2, 1) := by decide +kernel
theorem dX3_pairsBarred_14 : decode cX3_pairsBarred 14 = .ok (.iload_n 3, 1) := by decide +kernel
theorem dX3_pairsBarred_15 : decode cX3_pairsBarred 15 = .ok (.imul, 1) := by decide +kernel
theorem dX3_pairsBarred_16 : decode cX3_pairsBarred 16 = .ok (.iadd, 1) := by decide +kernel
theorem dX3_pairsBarred_17 : decode cX3_pairsBarred 17 = .ok (.iaload, 1) := by decide +kernel
theorem dX3_pairsBarred_18 : decode cX3_pairsBarred 18 = .ok (.invokevirtual 138, 3) := by decide +kernel
theorem dX3_pairsBarred_21 : decode cX3_pairsBarred 21 = .ok (.ifCond .eq 5, 3) := by decide +kernel
theorem dX3_pairsBarred_24 : decode cX3_pairsBarred 24 = .ok (.iconst (-1), 1) := by decide +kernel
theorem dX3_pairsBarred_25 : decode cX3_pairsBarred 25 = .ok (.ireturn, 1) := by decide +kernel
theorem dX3_pairsBarred_26 : decode cX3_pairsBarred 26 = .ok (.aload_n 0, 1) := by decide +kernel
theorem dX3_pairsBarred_27 : decode cX3_pairsBarred 27 = .ok (.getfield 55, 3) := by decide +kernel
theorem dX3_pairsBarred_30 : decode cX3_pairsBarred 30 = .ok (.iload_n 1, 1) := by decide +kernel
theorem dX3_pairsBarred_31 : decode cX3_pairsBarred 31 = .ok (.iconst 2, 1) := by decide +kernel
theorem dX3_pairsBarred_32 : decode cX3_pairsBarred 32 = .ok (.iload_n 3, 1) := by decide +kernel
theorem dX3_pairsBarred_33 : decode cX3_pairsBarred 33 = .ok (.imul, 1) := by decide +kernel
theorem dX3_pairsBarred_34 : decode cX3_pairsBarred 34 = .ok (.iadd, 1) := by decide +kernel
theorem dX3_pairsBarred_35 : decode cX3_pairsBarred 35 = .ok (.iconst 1, 1) := by decide +kernel
theorem dX3_pairsBarred_36 : decode cX3_pairsBarred 36 = .ok (.iadd, 1) := by decide +kernel
theorem dX3_pairsBarred_37 : decode cX3_pairsBarred 37 = .ok (.iaload, 1) := by decide +kernel
theorem dX3_pairsBarred_38 : decode cX3_pairsBarred 38 = .ok (.i2l, 1) := by decide +kernel
theorem dX3_pairsBarred_39 : decode cX3_pairsBarred 39 = .ok (.lconst 0, 1) := by decide +kernel
theorem dX3_pairsBarred_40 : decode cX3_pairsBarred 40 = .ok (.ldc2_w 120, 3) := by decide +kernel
theorem dX3_pairsBarred_43 : decode cX3_pairsBarred 43 = .ok (.invokestatic 71, 3) := by decide +kernel
theorem dX3_pairsBarred_46 : decode cX3_pairsBarred 46 = .ok (.ifCond .ne 6, 3) := by decide +kernel
theorem dX3_pairsBarred_49 : decode cX3_pairsBarred 49 = .ok (.bipush (-2), 2) := by decide +kernel
theorem dX3_pairsBarred_51 : decode cX3_pairsBarred 51 = .ok (.ireturn, 1) := by decide +kernel
theorem dX3_pairsBarred_52 : decode cX3_pairsBarred 52 = .ok (.iinc 3 1, 3) := by decide +kernel
theorem dX3_pairsBarred_55 : decode cX3_pairsBarred 55 = .ok (.goto (-53), 3) := by decide +kernel
theorem dX3_pairsBarred_58 : decode cX3_pairsBarred 58 = .ok (.iconst 0, 1) := by decide +kernel
theorem dX3_pairsBarred_59 : decode cX3_pairsBarred 59 = .ok (.ireturn, 1) := by decide +kernel
set_option maxRecDepth 20000 in
theorem ggX3_dinner_X3_noSheet : GoodIn wsX3_dinner wsX3_noSheet := goodIn_r _ [14, 1, 15, 16, 13, 17] (by decide +kernel) (by decide +kernel)
set_option maxRecDepth 20000 in
theorem gX3_dinner_X3_noSheet : GoodIn wsX3_dinner (va_wsS RX3 113 yX3_noSheet wsX3_noSheet) := goodIn_app (goodIn_of _ (by decide +kernel)) ggX3_dinner_X3_noSheet
set_option maxRecDepth 20000 in
theorem ggX3_dinner_X3_refused : GoodIn wsX3_dinner wsX3_refused := goodIn_r _ [21, 22, 92, 93, 94, 95, 96, 97, 98, 99, 100, 101, 102, 103, 104, 105, 106, 107, 108, 109, 110, 111, 112, 113, 114, 115, 116, 117] (by decide +kernel) (by decide +kernel)
set_option maxRecDepth 20000 in
theorem gX3_dinner_X3_refused : GoodIn wsX3_dinner (wsV RX3 117 RX3 yX3_refused wsX3_refused) := goodIn_app (goodIn_of _ (by decide +kernel)) ggX3_dinner_X3_refused
set_option maxRecDepth 20000 in
theorem ggX3_dinner_X3_in : GoodIn wsX3_dinner wsX3_in := goodIn_r _ [17] (by decide +kernel) (by decide +kernel)
set_option maxRecDepth 20000 in
theorem gX3_dinner_X3_in : GoodIn wsX3_dinner (va_wsS RX3 71 yX3_in wsX3_in) := goodIn_app (goodIn_of _ (by decide +kernel)) ggX3_dinner_X3_in
set_option maxRecDepth 20000 in
theorem ggX3_dinner_X3_cellsBarred : GoodIn wsX3_dinner wsX3_cellsBarred := goodIn_r _ [26, 27, 28, 29, 30, 31, 13, 32, 22, 33, 34, 35, 92, 93, 94, 95, 96, 97, 98, 99, 100, 101, 102, 103, 104, 105, 106, 107, 108, 109, 110, 111, 112, 113, 114, 115, 116, 117] (by decide +kernel) (by decide +kernel)
set_option maxRecDepth 20000 in
theorem gX3_dinner_X3_cellsBarred : GoodIn wsX3_dinner (wsV RX3 122 RX3 yX3_cellsBarred wsX3_cellsBarred) := goodIn_app (goodIn_of _ (by decide +kernel)) ggX3_dinner_X3_cellsBarred
set_option maxRecDepth 20000 in
theorem ggX3_dinner_X3_pairsBarred : GoodIn wsX3_dinner wsX3_pairsBarred := goodIn_r _ [39, 40, 6, 41, 42, 43, 13, 44, 7, 15, 16, 17, 92, 93, 94, 95, 96, 97, 98, 99, 100, 101, 102, 103, 104, 105, 106, 107, 108, 109, 110, 111, 112, 113, 114, 115, 116, 117] (by decide +kernel) (by decide +kernel)
set_option maxRecDepth 20000 in
theorem gX3_dinner_X3_pairsBarred : GoodIn wsX3_dinner (wsV RX3 184 RX3 yX3_pairsBarred wsX3_pairsBarred) := goodIn_app (goodIn_of _ (by decide +kernel)) ggX3_dinner_X3_pairsBarred
set_option maxRecDepth 20000 in
theorem ggX3_dinner_X3_dinnerBy : GoodIn wsX3_dinner wsX3_dinnerBy := goodIn_r _ [48, 8, 10, 49, 50, 51, 13, 52, 40, 53, 54, 55, 56, 57, 58, 59, 60, 61, 62, 63, 64, 65, 66, 67, 68, 69, 15, 16, 17, 70, 71, 72, 73, 74, 75, 76, 77, 7, 78, 79, 80, 81, 82, 83, 41, 42, 43, 44, 84, 85, 86, 87, 88, 89, 90, 91, 92, 93, 94, 95, 96, 97, 98, 99, 100, 101, 102, 103, 104, 105, 106, 107, 108, 109, 110, 111, 112, 113, 114, 115, 116, 117] (by decide +kernel) (by decide +kernel)
set_option maxRecDepth 20000 in
theorem gX3_dinner_X3_dinnerBy : GoodIn wsX3_dinner (wsV RX3 187 RX3 yX3_dinnerBy wsX3_dinnerBy) := goodIn_app (goodIn_of _ (by decide +kernel)) ggX3_dinner_X3_dinnerBy
theorem dX3_dinner_0 : decode cX3_dinner 0 = .ok (.iload_n 1, 1) := by decide +kernel
theorem dX3_dinner_1 : decode cX3_dinner 1 = .ok (.invokestatic 113, 3) := by decide +kernel
theorem dX3_dinner_4 : decode cX3_dinner 4 = .ok (.ifCond .eq 9, 3) := by decide +kernel
theorem dX3_dinner_7 : decode cX3_dinner 7 = .ok (.aload_n 0, 1) := by decide +kernel
theorem dX3_dinner_8 : decode cX3_dinner 8 = .ok (.iconst (-1), 1) := by decide +kernel
theorem dX3_dinner_9 : decode cX3_dinner 9 = .ok (.invokevirtual 117, 3) := by decide +kernel
theorem dX3_dinner_12 : decode cX3_dinner 12 = .ok (.ireturn, 1) := by decide +kernel
theorem dX3_dinner_13 : decode cX3_dinner 13 = .ok (.iload 5, 2) := by decide +kernel
theorem dX3_dinner_15 : decode cX3_dinner 15 = .ok (.i2l, 1) := by decide +kernel
theorem dX3_dinner_16 : decode cX3_dinner 16 = .ok (.lconst 0, 1) := by decide +kernel
theorem dX3_dinner_17 : decode cX3_dinner 17 = .ok (.ldc2_w 174, 3) := by decide +kernel
theorem dX3_dinner_20 : decode cX3_dinner 20 = .ok (.invokestatic 71, 3) := by decide +kernel
theorem dX3_dinner_23 : decode cX3_dinner 23 = .ok (.ifCond .ne 33, 3) := by decide +kernel
theorem dX3_dinner_26 : decode cX3_dinner 26 = .ok (.iload 5, 2) := by decide +kernel
theorem dX3_dinner_28 : decode cX3_dinner 28 = .ok (.i2l, 1) := by decide +kernel
theorem dX3_dinner_29 : decode cX3_dinner 29 = .ok (.ldc2_w 176, 3) := by decide +kernel
theorem dX3_dinner_32 : decode cX3_dinner 32 = .ok (.ldc2_w 178, 3) := by decide +kernel
theorem dX3_dinner_35 : decode cX3_dinner 35 = .ok (.invokestatic 71, 3) := by decide +kernel
theorem dX3_dinner_38 : decode cX3_dinner 38 = .ok (.ifCond .ne 18, 3) := by decide +kernel
theorem dX3_dinner_41 : decode cX3_dinner 41 = .ok (.iload 5, 2) := by decide +kernel
theorem dX3_dinner_43 : decode cX3_dinner 43 = .ok (.i2l, 1) := by decide +kernel
theorem dX3_dinner_44 : decode cX3_dinner 44 = .ok (.ldc2_w 180, 3) := by decide +kernel
theorem dX3_dinner_47 : decode cX3_dinner 47 = .ok (.ldc2_w 182, 3) := by decide +kernel
theorem dX3_dinner_50 : decode cX3_dinner 50 = .ok (.invokestatic 71, 3) := by decide +kernel
theorem dX3_dinner_53 : decode cX3_dinner 53 = .ok (.ifCond .eq 7, 3) := by decide +kernel
theorem dX3_dinner_56 : decode cX3_dinner 56 = .ok (.iconst 1, 1) := by decide +kernel
theorem dX3_dinner_57 : decode cX3_dinner 57 = .ok (.goto 4, 3) := by decide +kernel
theorem dX3_dinner_60 : decode cX3_dinner 60 = .ok (.iconst 0, 1) := by decide +kernel
theorem dX3_dinner_61 : decode cX3_dinner 61 = .ok (.istore 6, 2) := by decide +kernel
theorem dX3_dinner_63 : decode cX3_dinner 63 = .ok (.iload_n 2, 1) := by decide +kernel
theorem dX3_dinner_64 : decode cX3_dinner 64 = .ok (.i2l, 1) := by decide +kernel
theorem dX3_dinner_65 : decode cX3_dinner 65 = .ok (.lconst 0, 1) := by decide +kernel
theorem dX3_dinner_66 : decode cX3_dinner 66 = .ok (.ldc2_w 120, 3) := by decide +kernel
theorem dX3_dinner_69 : decode cX3_dinner 69 = .ok (.invokestatic 71, 3) := by decide +kernel
theorem dX3_dinner_72 : decode cX3_dinner 72 = .ok (.ifCond .eq 21, 3) := by decide +kernel
theorem dX3_dinner_75 : decode cX3_dinner 75 = .ok (.iload 4, 2) := by decide +kernel
theorem dX3_dinner_77 : decode cX3_dinner 77 = .ok (.i2l, 1) := by decide +kernel
theorem dX3_dinner_78 : decode cX3_dinner 78 = .ok (.lconst 0, 1) := by decide +kernel
theorem dX3_dinner_79 : decode cX3_dinner 79 = .ok (.ldc2_w 180, 3) := by decide +kernel
theorem dX3_dinner_82 : decode cX3_dinner 82 = .ok (.invokestatic 71, 3) := by decide +kernel
theorem dX3_dinner_85 : decode cX3_dinner 85 = .ok (.ifCond .eq 8, 3) := by decide +kernel
theorem dX3_dinner_88 : decode cX3_dinner 88 = .ok (.iload 6, 2) := by decide +kernel
theorem dX3_dinner_90 : decode cX3_dinner 90 = .ok (.ifCond .ne 10, 3) := by decide +kernel
theorem dX3_dinner_93 : decode cX3_dinner 93 = .ok (.aload_n 0, 1) := by decide +kernel
theorem dX3_dinner_94 : decode cX3_dinner 94 = .ok (.bipush (-2), 2) := by decide +kernel
theorem dX3_dinner_96 : decode cX3_dinner 96 = .ok (.invokevirtual 117, 3) := by decide +kernel
theorem dX3_dinner_99 : decode cX3_dinner 99 = .ok (.ireturn, 1) := by decide +kernel
theorem dX3_dinner_100 : decode cX3_dinner 100 = .ok (.aload_n 0, 1) := by decide +kernel
theorem dX3_dinner_101 : decode cX3_dinner 101 = .ok (.getfield 78, 3) := by decide +kernel
theorem dX3_dinner_104 : decode cX3_dinner 104 = .ok (.ifCond .ne 10, 3) := by decide +kernel
theorem dX3_dinner_107 : decode cX3_dinner 107 = .ok (.aload_n 0, 1) := by decide +kernel
theorem dX3_dinner_108 : decode cX3_dinner 108 = .ok (.bipush (-3), 2) := by decide +kernel
theorem dX3_dinner_110 : decode cX3_dinner 110 = .ok (.invokevirtual 117, 3) := by decide +kernel
theorem dX3_dinner_113 : decode cX3_dinner 113 = .ok (.ireturn, 1) := by decide +kernel
theorem dX3_dinner_114 : decode cX3_dinner 114 = .ok (.aload_n 0, 1) := by decide +kernel
theorem dX3_dinner_115 : decode cX3_dinner 115 = .ok (.iload_n 1, 1) := by decide +kernel
theorem dX3_dinner_116 : decode cX3_dinner 116 = .ok (.iload_n 2, 1) := by decide +kernel
theorem dX3_dinner_117 : decode cX3_dinner 117 = .ok (.iload_n 3, 1) := by decide +kernel
theorem dX3_dinner_118 : decode cX3_dinner 118 = .ok (.ldc2_w 120, 3) := by decide +kernel
theorem dX3_dinner_121 : decode cX3_dinner 121 = .ok (.iload 4, 2) := by decide +kernel
theorem dX3_dinner_123 : decode cX3_dinner 123 = .ok (.i2l, 1) := by decide +kernel
theorem dX3_dinner_124 : decode cX3_dinner 124 = .ok (.lmul, 1) := by decide +kernel
theorem dX3_dinner_125 : decode cX3_dinner 125 = .ok (.invokevirtual 122, 3) := by decide +kernel
theorem dX3_dinner_128 : decode cX3_dinner 128 = .ok (.istore 7, 2) := by decide +kernel
theorem dX3_dinner_130 : decode cX3_dinner 130 = .ok (.iload 7, 2) := by decide +kernel
theorem dX3_dinner_132 : decode cX3_dinner 132 = .ok (.ifCond .ge 6, 3) := by decide +kernel
theorem dX3_dinner_135 : decode cX3_dinner 135 = .ok (.iload 7, 2) := by decide +kernel
theorem dX3_dinner_137 : decode cX3_dinner 137 = .ok (.ireturn, 1) := by decide +kernel
theorem dX3_dinner_138 : decode cX3_dinner 138 = .ok (.aload_n 0, 1) := by decide +kernel
theorem dX3_dinner_139 : decode cX3_dinner 139 = .ok (.bipush 60, 2) := by decide +kernel
theorem dX3_dinner_141 : decode cX3_dinner 141 = .ok (.iload_n 1, 1) := by decide +kernel
theorem dX3_dinner_142 : decode cX3_dinner 142 = .ok (.imul, 1) := by decide +kernel
theorem dX3_dinner_143 : decode cX3_dinner 143 = .ok (.iload_n 3, 1) := by decide +kernel
theorem dX3_dinner_144 : decode cX3_dinner 144 = .ok (.iadd, 1) := by decide +kernel
theorem dX3_dinner_145 : decode cX3_dinner 145 = .ok (.iload 4, 2) := by decide +kernel
theorem dX3_dinner_147 : decode cX3_dinner 147 = .ok (.invokevirtual 184, 3) := by decide +kernel
theorem dX3_dinner_150 : decode cX3_dinner 150 = .ok (.istore 7, 2) := by decide +kernel
theorem dX3_dinner_152 : decode cX3_dinner 152 = .ok (.iload 7, 2) := by decide +kernel
theorem dX3_dinner_154 : decode cX3_dinner 154 = .ok (.ifCond .ge 10, 3) := by decide +kernel
theorem dX3_dinner_157 : decode cX3_dinner 157 = .ok (.aload_n 0, 1) := by decide +kernel
theorem dX3_dinner_158 : decode cX3_dinner 158 = .ok (.iload 7, 2) := by decide +kernel
theorem dX3_dinner_160 : decode cX3_dinner 160 = .ok (.invokevirtual 117, 3) := by decide +kernel
theorem dX3_dinner_163 : decode cX3_dinner 163 = .ok (.ireturn, 1) := by decide +kernel
theorem dX3_dinner_164 : decode cX3_dinner 164 = .ok (.aload_n 0, 1) := by decide +kernel
theorem dX3_dinner_165 : decode cX3_dinner 165 = .ok (.getfield 129, 3) := by decide +kernel
theorem dX3_dinner_168 : decode cX3_dinner 168 = .ok (.istore 8, 2) := by decide +kernel
theorem dX3_dinner_170 : decode cX3_dinner 170 = .ok (.iconst 0, 1) := by decide +kernel
theorem dX3_dinner_171 : decode cX3_dinner 171 = .ok (.istore 9, 2) := by decide +kernel
theorem dX3_dinner_173 : decode cX3_dinner 173 = .ok (.iload 9, 2) := by decide +kernel
theorem dX3_dinner_175 : decode cX3_dinner 175 = .ok (.aload_n 0, 1) := by decide +kernel
theorem dX3_dinner_176 : decode cX3_dinner 176 = .ok (.getfield 78, 3) := by decide +kernel
theorem dX3_dinner_179 : decode cX3_dinner 179 = .ok (.if_icmp .ge 23, 3) := by decide +kernel
theorem dX3_dinner_182 : decode cX3_dinner 182 = .ok (.aload_n 0, 1) := by decide +kernel
theorem dX3_dinner_183 : decode cX3_dinner 183 = .ok (.getfield 40, 3) := by decide +kernel
theorem dX3_dinner_186 : decode cX3_dinner 186 = .ok (.iload 9, 2) := by decide +kernel
theorem dX3_dinner_188 : decode cX3_dinner 188 = .ok (.aload_n 0, 1) := by decide +kernel
theorem dX3_dinner_189 : decode cX3_dinner 189 = .ok (.getfield 19, 3) := by decide +kernel
theorem dX3_dinner_192 : decode cX3_dinner 192 = .ok (.iload 9, 2) := by decide +kernel
theorem dX3_dinner_194 : decode cX3_dinner 194 = .ok (.iaload, 1) := by decide +kernel
theorem dX3_dinner_195 : decode cX3_dinner 195 = .ok (.iastore, 1) := by decide +kernel
theorem dX3_dinner_196 : decode cX3_dinner 196 = .ok (.iinc 9 1, 3) := by decide +kernel
theorem dX3_dinner_199 : decode cX3_dinner 199 = .ok (.goto (-26), 3) := by decide +kernel
theorem dX3_dinner_202 : decode cX3_dinner 202 = .ok (.aload_n 0, 1) := by decide +kernel
theorem dX3_dinner_203 : decode cX3_dinner 203 = .ok (.bipush 60, 2) := by decide +kernel
theorem dX3_dinner_205 : decode cX3_dinner 205 = .ok (.iload_n 1, 1) := by decide +kernel
theorem dX3_dinner_206 : decode cX3_dinner 206 = .ok (.imul, 1) := by decide +kernel
theorem dX3_dinner_207 : decode cX3_dinner 207 = .ok (.iload_n 3, 1) := by decide +kernel
theorem dX3_dinner_208 : decode cX3_dinner 208 = .ok (.iadd, 1) := by decide +kernel
theorem dX3_dinner_209 : decode cX3_dinner 209 = .ok (.iload 4, 2) := by decide +kernel
theorem dX3_dinner_211 : decode cX3_dinner 211 = .ok (.iload 5, 2) := by decide +kernel
theorem dX3_dinner_213 : decode cX3_dinner 213 = .ok (.invokevirtual 187, 3) := by decide +kernel
theorem dX3_dinner_216 : decode cX3_dinner 216 = .ok (.istore 9, 2) := by decide +kernel
theorem dX3_dinner_218 : decode cX3_dinner 218 = .ok (.aload_n 0, 1) := by decide +kernel
theorem dX3_dinner_219 : decode cX3_dinner 219 = .ok (.iload 8, 2) := by decide +kernel
theorem dX3_dinner_221 : decode cX3_dinner 221 = .ok (.putfield 129, 3) := by decide +kernel
theorem dX3_dinner_224 : decode cX3_dinner 224 = .ok (.iconst 0, 1) := by decide +kernel
theorem dX3_dinner_225 : decode cX3_dinner 225 = .ok (.istore 10, 2) := by decide +kernel
theorem dX3_dinner_227 : decode cX3_dinner 227 = .ok (.iload 10, 2) := by decide +kernel
theorem dX3_dinner_229 : decode cX3_dinner 229 = .ok (.aload_n 0, 1) := by decide +kernel
theorem dX3_dinner_230 : decode cX3_dinner 230 = .ok (.getfield 78, 3) := by decide +kernel
theorem dX3_dinner_233 : decode cX3_dinner 233 = .ok (.if_icmp .ge 23, 3) := by decide +kernel
theorem dX3_dinner_236 : decode cX3_dinner 236 = .ok (.aload_n 0, 1) := by decide +kernel
theorem dX3_dinner_237 : decode cX3_dinner 237 = .ok (.getfield 19, 3) := by decide +kernel
theorem dX3_dinner_240 : decode cX3_dinner 240 = .ok (.iload 10, 2) := by decide +kernel
theorem dX3_dinner_242 : decode cX3_dinner 242 = .ok (.aload_n 0, 1) := by decide +kernel
theorem dX3_dinner_243 : decode cX3_dinner 243 = .ok (.getfield 40, 3) := by decide +kernel
theorem dX3_dinner_246 : decode cX3_dinner 246 = .ok (.iload 10, 2) := by decide +kernel
theorem dX3_dinner_248 : decode cX3_dinner 248 = .ok (.iaload, 1) := by decide +kernel
theorem dX3_dinner_249 : decode cX3_dinner 249 = .ok (.iastore, 1) := by decide +kernel
theorem dX3_dinner_250 : decode cX3_dinner 250 = .ok (.iinc 10 1, 3) := by decide +kernel
theorem dX3_dinner_253 : decode cX3_dinner 253 = .ok (.goto (-26), 3) := by decide +kernel
theorem dX3_dinner_256 : decode cX3_dinner 256 = .ok (.aload_n 0, 1) := by decide +kernel
theorem dX3_dinner_257 : decode cX3_dinner 257 = .ok (.iload 9, 2) := by decide +kernel
theorem dX3_dinner_259 : decode cX3_dinner 259 = .ok (.invokevirtual 117, 3) := by decide +kernel
theorem dX3_dinner_262 : decode cX3_dinner 262 = .ok (.ireturn, 1) := by decide +kernel
