theorem dX0_init_0 : decode cX0_init 0 = .ok (.aload_n 0, 1) := by decide +kernel
theorem dX0_init_1 : decode cX0_init 1 = .ok (.invokespecial 3, 3) := by decide +kernel
theorem dX0_init_4 : decode cX0_init 4 = .ok (.aload_n 0, 1) := by decide +kernel
theorem dX0_init_5 : decode cX0_init 5 = .ok (.bipush 6, 2) := by decide +kernel
theorem dX0_init_7 : decode cX0_init 7 = .ok (.newarray .int, 2) := by decide +kernel
theorem dX0_init_9 : decode cX0_init 9 = .ok (.putfield 9, 3) := by decide +kernel
theorem dX0_init_12 : decode cX0_init 12 = .ok (.aload_n 0, 1) := by decide +kernel
theorem dX0_init_13 : decode cX0_init 13 = .ok (.bipush 6, 2) := by decide +kernel
theorem dX0_init_15 : decode cX0_init 15 = .ok (.newarray .int, 2) := by decide +kernel
theorem dX0_init_17 : decode cX0_init 17 = .ok (.putfield 15, 3) := by decide +kernel
theorem dX0_init_20 : decode cX0_init 20 = .ok (.aload_n 0, 1) := by decide +kernel
theorem dX0_init_21 : decode cX0_init 21 = .ok (.bipush 6, 2) := by decide +kernel
theorem dX0_init_23 : decode cX0_init 23 = .ok (.newarray .int, 2) := by decide +kernel
theorem dX0_init_25 : decode cX0_init 25 = .ok (.putfield 18, 3) := by decide +kernel
theorem dX0_init_28 : decode cX0_init 28 = .ok (.aload_n 0, 1) := by decide +kernel
theorem dX0_init_29 : decode cX0_init 29 = .ok (.bipush 6, 2) := by decide +kernel
theorem dX0_init_31 : decode cX0_init 31 = .ok (.newarray .int, 2) := by decide +kernel
theorem dX0_init_33 : decode cX0_init 33 = .ok (.putfield 21, 3) := by decide +kernel
theorem dX0_init_36 : decode cX0_init 36 = .ok (.aload_n 0, 1) := by decide +kernel
theorem dX0_init_37 : decode cX0_init 37 = .ok (.bipush 6, 2) := by decide +kernel
theorem dX0_init_39 : decode cX0_init 39 = .ok (.newarray .int, 2) := by decide +kernel
theorem dX0_init_41 : decode cX0_init 41 = .ok (.putfield 24, 3) := by decide +kernel
theorem dX0_init_44 : decode cX0_init 44 = .ok (.return_, 1) := by decide +kernel
theorem dX0_become_0 : decode cX0_become 0 = .ok (.aload_n 1, 1) := by decide +kernel
theorem dX0_become_1 : decode cX0_become 1 = .ok (.getfield 9, 3) := by decide +kernel
theorem dX0_become_4 : decode cX0_become 4 = .ok (.iconst 0, 1) := by decide +kernel
theorem dX0_become_5 : decode cX0_become 5 = .ok (.aload_n 0, 1) := by decide +kernel
theorem dX0_become_6 : decode cX0_become 6 = .ok (.getfield 9, 3) := by decide +kernel
theorem dX0_become_9 : decode cX0_become 9 = .ok (.iconst 0, 1) := by decide +kernel
theorem dX0_become_10 : decode cX0_become 10 = .ok (.bipush 6, 2) := by decide +kernel
theorem dX0_become_12 : decode cX0_become 12 = .ok (.invokestatic 27, 3) := by decide +kernel
theorem dX0_become_15 : decode cX0_become 15 = .ok (.aload_n 1, 1) := by decide +kernel
theorem dX0_become_16 : decode cX0_become 16 = .ok (.getfield 15, 3) := by decide +kernel
theorem dX0_become_19 : decode cX0_become 19 = .ok (.iconst 0, 1) := by decide +kernel
theorem dX0_become_20 : decode cX0_become 20 = .ok (.aload_n 0, 1) := by decide +kernel
theorem dX0_become_21 : decode cX0_become 21 = .ok (.getfield 15, 3) := by decide +kernel
theorem dX0_become_24 : decode cX0_become 24 = .ok (.iconst 0, 1) := by decide +kernel
theorem dX0_become_25 : decode cX0_become 25 = .ok (.bipush 6, 2) := by decide +kernel
theorem dX0_become_27 : decode cX0_become 27 = .ok (.invokestatic 27, 3) := by decide +kernel
theorem dX0_become_30 : decode cX0_become 30 = .ok (.aload_n 1, 1) := by decide +kernel
theorem dX0_become_31 : decode cX0_become 31 = .ok (.getfield 18, 3) := by decide +kernel
theorem dX0_become_34 : decode cX0_become 34 = .ok (.iconst 0, 1) := by decide +kernel
theorem dX0_become_35 : decode cX0_become 35 = .ok (.aload_n 0, 1) := by decide +kernel
theorem dX0_become_36 : decode cX0_become 36 = .ok (.getfield 18, 3) := by decide +kernel
theorem dX0_become_39 : decode cX0_become 39 = .ok (.iconst 0, 1) := by decide +kernel
theorem dX0_become_40 : decode cX0_become 40 = .ok (.bipush 6, 2) := by decide +kernel
theorem dX0_become_42 : decode cX0_become 42 = .ok (.invokestatic 27, 3) := by decide +kernel
theorem dX0_become_45 : decode cX0_become 45 = .ok (.aload_n 1, 1) := by decide +kernel
theorem dX0_become_46 : decode cX0_become 46 = .ok (.getfield 21, 3) := by decide +kernel
theorem dX0_become_49 : decode cX0_become 49 = .ok (.iconst 0, 1) := by decide +kernel
theorem dX0_become_50 : decode cX0_become 50 = .ok (.aload_n 0, 1) := by decide +kernel
theorem dX0_become_51 : decode cX0_become 51 = .ok (.getfield 21, 3) := by decide +kernel
theorem dX0_become_54 : decode cX0_become 54 = .ok (.iconst 0, 1) := by decide +kernel
theorem dX0_become_55 : decode cX0_become 55 = .ok (.bipush 6, 2) := by decide +kernel
theorem dX0_become_57 : decode cX0_become 57 = .ok (.invokestatic 27, 3) := by decide +kernel
theorem dX0_become_60 : decode cX0_become 60 = .ok (.aload_n 1, 1) := by decide +kernel
theorem dX0_become_61 : decode cX0_become 61 = .ok (.getfield 24, 3) := by decide +kernel
theorem dX0_become_64 : decode cX0_become 64 = .ok (.iconst 0, 1) := by decide +kernel
theorem dX0_become_65 : decode cX0_become 65 = .ok (.aload_n 0, 1) := by decide +kernel
theorem dX0_become_66 : decode cX0_become 66 = .ok (.getfield 24, 3) := by decide +kernel
theorem dX0_become_69 : decode cX0_become 69 = .ok (.iconst 0, 1) := by decide +kernel
theorem dX0_become_70 : decode cX0_become 70 = .ok (.bipush 6, 2) := by decide +kernel
theorem dX0_become_72 : decode cX0_become 72 = .ok (.invokestatic 27, 3) := by decide +kernel
theorem dX0_become_75 : decode cX0_become 75 = .ok (.aload_n 0, 1) := by decide +kernel
theorem dX0_become_76 : decode cX0_become 76 = .ok (.aload_n 1, 1) := by decide +kernel
theorem dX0_become_77 : decode cX0_become 77 = .ok (.getfield 33, 3) := by decide +kernel
theorem dX0_become_80 : decode cX0_become 80 = .ok (.putfield 33, 3) := by decide +kernel
theorem dX0_become_83 : decode cX0_become 83 = .ok (.aload_n 0, 1) := by decide +kernel
theorem dX0_become_84 : decode cX0_become 84 = .ok (.aload_n 1, 1) := by decide +kernel
theorem dX0_become_85 : decode cX0_become 85 = .ok (.getfield 37, 3) := by decide +kernel
theorem dX0_become_88 : decode cX0_become 88 = .ok (.putfield 37, 3) := by decide +kernel
theorem dX0_become_91 : decode cX0_become 91 = .ok (.aload_n 0, 1) := by decide +kernel
theorem dX0_become_92 : decode cX0_become 92 = .ok (.aload_n 1, 1) := by decide +kernel
theorem dX0_become_93 : decode cX0_become 93 = .ok (.getfield 40, 3) := by decide +kernel
theorem dX0_become_96 : decode cX0_become 96 = .ok (.putfield 40, 3) := by decide +kernel
theorem dX0_become_99 : decode cX0_become 99 = .ok (.return_, 1) := by decide +kernel
set_option maxRecDepth 20000 in
theorem ggX0_readText_X1_at : GoodIn wsX0_readText wsX1_at := goodIn_r _ [13, 14, 15, 47, 48, 49] (by decide +kernel) (by decide +kernel)
set_option maxRecDepth 20000 in
theorem gX0_readText_X1_at : GoodIn wsX0_readText (wsV RX0 43 RX1 yX1_at wsX1_at) := goodIn_app (goodIn_of _ (by decide +kernel)) ggX0_readText_X1_at
set_option maxRecDepth 20000 in
theorem ggX0_readText_X0_isDigit : GoodIn wsX0_readText wsX0_isDigit := goodIn_r _ [19] (by decide +kernel) (by decide +kernel)
set_option maxRecDepth 20000 in
theorem gX0_readText_X0_isDigit : GoodIn wsX0_readText (va_wsS RX0 49 yX0_isDigit wsX0_isDigit) := goodIn_app (goodIn_of _ (by decide +kernel)) ggX0_readText_X0_isDigit
set_option maxRecDepth 20000 in
theorem ggX0_readText_X0_readThing : GoodIn wsX0_readText wsX0_readThing := goodIn_r _ [23, 9, 10, 11, 12, 13, 14, 15, 24, 25, 18, 26, 27, 28, 29, 30, 2, 31, 32, 33, 34, 3, 35, 36, 37, 38, 47, 48, 49, 39, 40, 41, 42, 43, 44, 45, 46] (by decide +kernel) (by decide +kernel)
set_option maxRecDepth 20000 in
theorem gX0_readText_X0_readThing : GoodIn wsX0_readText (wsV RX0 59 RX0 yX0_readThing wsX0_readThing) := goodIn_app (goodIn_of _ (by decide +kernel)) ggX0_readText_X0_readThing
theorem dX0_readText_0 : decode cX0_readText 0 = .ok (.aload_n 0, 1) := by decide +kernel
theorem dX0_readText_1 : decode cX0_readText 1 = .ok (.iconst 0, 1) := by decide +kernel
theorem dX0_readText_2 : decode cX0_readText 2 = .ok (.putfield 40, 3) := by decide +kernel
theorem dX0_readText_5 : decode cX0_readText 5 = .ok (.aload_n 0, 1) := by decide +kernel
theorem dX0_readText_6 : decode cX0_readText 6 = .ok (.iconst 0, 1) := by decide +kernel
theorem dX0_readText_7 : decode cX0_readText 7 = .ok (.putfield 33, 3) := by decide +kernel
theorem dX0_readText_10 : decode cX0_readText 10 = .ok (.aload_n 0, 1) := by decide +kernel
theorem dX0_readText_11 : decode cX0_readText 11 = .ok (.iconst 0, 1) := by decide +kernel
theorem dX0_readText_12 : decode cX0_readText 12 = .ok (.putfield 37, 3) := by decide +kernel
theorem dX0_readText_15 : decode cX0_readText 15 = .ok (.iload_n 3, 1) := by decide +kernel
theorem dX0_readText_16 : decode cX0_readText 16 = .ok (.iconst 1, 1) := by decide +kernel
theorem dX0_readText_17 : decode cX0_readText 17 = .ok (.if_icmp .lt 13, 3) := by decide +kernel
theorem dX0_readText_20 : decode cX0_readText 20 = .ok (.aload_n 1, 1) := by decide +kernel
theorem dX0_readText_21 : decode cX0_readText 21 = .ok (.iload_n 2, 1) := by decide +kernel
theorem dX0_readText_22 : decode cX0_readText 22 = .ok (.invokevirtual 43, 3) := by decide +kernel
theorem dX0_readText_25 : decode cX0_readText 25 = .ok (.bipush 116, 2) := by decide +kernel
theorem dX0_readText_27 : decode cX0_readText 27 = .ok (.if_icmp .eq 5, 3) := by decide +kernel
theorem dX0_readText_30 : decode cX0_readText 30 = .ok (.iconst 0, 1) := by decide +kernel
theorem dX0_readText_31 : decode cX0_readText 31 = .ok (.ireturn, 1) := by decide +kernel
theorem dX0_readText_32 : decode cX0_readText 32 = .ok (.iconst 1, 1) := by decide +kernel
theorem dX0_readText_33 : decode cX0_readText 33 = .ok (.istore 4, 2) := by decide +kernel
theorem dX0_readText_35 : decode cX0_readText 35 = .ok (.iload 4, 2) := by decide +kernel
theorem dX0_readText_37 : decode cX0_readText 37 = .ok (.iload_n 3, 1) := by decide +kernel
theorem dX0_readText_38 : decode cX0_readText 38 = .ok (.if_icmp .ge 62, 3) := by decide +kernel
theorem dX0_readText_41 : decode cX0_readText 41 = .ok (.aload_n 0, 1) := by decide +kernel
theorem dX0_readText_42 : decode cX0_readText 42 = .ok (.getfield 33, 3) := by decide +kernel
theorem dX0_readText_45 : decode cX0_readText 45 = .ok (.bipush 6, 2) := by decide +kernel
theorem dX0_readText_47 : decode cX0_readText 47 = .ok (.if_icmp .ge 53, 3) := by decide +kernel
theorem dX0_readText_50 : decode cX0_readText 50 = .ok (.aload_n 1, 1) := by decide +kernel
theorem dX0_readText_51 : decode cX0_readText 51 = .ok (.iload_n 2, 1) := by decide +kernel
theorem dX0_readText_52 : decode cX0_readText 52 = .ok (.iload 4, 2) := by decide +kernel
theorem dX0_readText_54 : decode cX0_readText 54 = .ok (.iadd, 1) := by decide +kernel
theorem dX0_readText_55 : decode cX0_readText 55 = .ok (.invokevirtual 43, 3) := by decide +kernel
theorem dX0_readText_58 : decode cX0_readText 58 = .ok (.invokestatic 49, 3) := by decide +kernel
theorem dX0_readText_61 : decode cX0_readText 61 = .ok (.ifCond .eq 39, 3) := by decide +kernel
theorem dX0_readText_64 : decode cX0_readText 64 = .ok (.aload_n 0, 1) := by decide +kernel
theorem dX0_readText_65 : decode cX0_readText 65 = .ok (.getfield 9, 3) := by decide +kernel
theorem dX0_readText_68 : decode cX0_readText 68 = .ok (.aload_n 0, 1) := by decide +kernel
theorem dX0_readText_69 : decode cX0_readText 69 = .ok (.getfield 33, 3) := by decide +kernel
theorem dX0_readText_72 : decode cX0_readText 72 = .ok (.aload_n 1, 1) := by decide +kernel
theorem dX0_readText_73 : decode cX0_readText 73 = .ok (.iload_n 2, 1) := by decide +kernel
theorem dX0_readText_74 : decode cX0_readText 74 = .ok (.iload 4, 2) := by decide +kernel
theorem dX0_readText_76 : decode cX0_readText 76 = .ok (.iadd, 1) := by decide +kernel
theorem dX0_readText_77 : decode cX0_readText 77 = .ok (.invokevirtual 43, 3) := by decide +kernel
theorem dX0_readText_80 : decode cX0_readText 80 = .ok (.bipush 48, 2) := by decide +kernel
theorem dX0_readText_82 : decode cX0_readText 82 = .ok (.isub, 1) := by decide +kernel
theorem dX0_readText_83 : decode cX0_readText 83 = .ok (.iastore, 1) := by decide +kernel
theorem dX0_readText_84 : decode cX0_readText 84 = .ok (.aload_n 0, 1) := by decide +kernel
theorem dX0_readText_85 : decode cX0_readText 85 = .ok (.dup, 1) := by decide +kernel
theorem dX0_readText_86 : decode cX0_readText 86 = .ok (.getfield 33, 3) := by decide +kernel
theorem dX0_readText_89 : decode cX0_readText 89 = .ok (.iconst 1, 1) := by decide +kernel
theorem dX0_readText_90 : decode cX0_readText 90 = .ok (.iadd, 1) := by decide +kernel
theorem dX0_readText_91 : decode cX0_readText 91 = .ok (.putfield 33, 3) := by decide +kernel
theorem dX0_readText_94 : decode cX0_readText 94 = .ok (.iinc 4 1, 3) := by decide +kernel
theorem dX0_readText_97 : decode cX0_readText 97 = .ok (.goto (-62), 3) := by decide +kernel
theorem dX0_readText_100 : decode cX0_readText 100 = .ok (.aload_n 0, 1) := by decide +kernel
theorem dX0_readText_101 : decode cX0_readText 101 = .ok (.getfield 33, 3) := by decide +kernel
theorem dX0_readText_104 : decode cX0_readText 104 = .ok (.iconst 2, 1) := by decide +kernel
theorem dX0_readText_105 : decode cX0_readText 105 = .ok (.if_icmp .ge 6, 3) := by decide +kernel
theorem dX0_readText_108 : decode cX0_readText 108 = .ok (.iload 4, 2) := by decide +kernel
theorem dX0_readText_110 : decode cX0_readText 110 = .ok (.ireturn, 1) := by decide +kernel
theorem dX0_readText_111 : decode cX0_readText 111 = .ok (.iload 4, 2) := by decide +kernel
theorem dX0_readText_113 : decode cX0_readText 113 = .ok (.iload_n 3, 1) := by decide +kernel
theorem dX0_readText_114 : decode cX0_readText 114 = .ok (.if_icmp .ge 81, 3) := by decide +kernel
theorem dX0_readText_117 : decode cX0_readText 117 = .ok (.aload_n 0, 1) := by decide +kernel
theorem dX0_readText_118 : decode cX0_readText 118 = .ok (.getfield 37, 3) := by decide +kernel
theorem dX0_readText_121 : decode cX0_readText 121 = .ok (.bipush 6, 2) := by decide +kernel
theorem dX0_readText_123 : decode cX0_readText 123 = .ok (.if_icmp .eq 16, 3) := by decide +kernel
theorem dX0_readText_126 : decode cX0_readText 126 = .ok (.aload_n 1, 1) := by decide +kernel
theorem dX0_readText_127 : decode cX0_readText 127 = .ok (.iload_n 2, 1) := by decide +kernel
theorem dX0_readText_128 : decode cX0_readText 128 = .ok (.iload 4, 2) := by decide +kernel
theorem dX0_readText_130 : decode cX0_readText 130 = .ok (.iadd, 1) := by decide +kernel
theorem dX0_readText_131 : decode cX0_readText 131 = .ok (.invokevirtual 43, 3) := by decide +kernel
theorem dX0_readText_134 : decode cX0_readText 134 = .ok (.bipush 59, 2) := by decide +kernel
theorem dX0_readText_136 : decode cX0_readText 136 = .ok (.if_icmp .eq 6, 3) := by decide +kernel
theorem dX0_readText_139 : decode cX0_readText 139 = .ok (.iload 4, 2) := by decide +kernel
theorem dX0_readText_141 : decode cX0_readText 141 = .ok (.ireturn, 1) := by decide +kernel
theorem dX0_readText_142 : decode cX0_readText 142 = .ok (.aload_n 0, 1) := by decide +kernel
theorem dX0_readText_143 : decode cX0_readText 143 = .ok (.aload_n 1, 1) := by decide +kernel
theorem dX0_readText_144 : decode cX0_readText 144 = .ok (.iload_n 2, 1) := by decide +kernel
theorem dX0_readText_145 : decode cX0_readText 145 = .ok (.iload 4, 2) := by decide +kernel
theorem dX0_readText_147 : decode cX0_readText 147 = .ok (.iadd, 1) := by decide +kernel
theorem dX0_readText_148 : decode cX0_readText 148 = .ok (.iconst 1, 1) := by decide +kernel
theorem dX0_readText_149 : decode cX0_readText 149 = .ok (.iadd, 1) := by decide +kernel
theorem dX0_readText_150 : decode cX0_readText 150 = .ok (.iconst 4, 1) := by decide +kernel
theorem dX0_readText_151 : decode cX0_readText 151 = .ok (.iload_n 3, 1) := by decide +kernel
theorem dX0_readText_152 : decode cX0_readText 152 = .ok (.iload 4, 2) := by decide +kernel
theorem dX0_readText_154 : decode cX0_readText 154 = .ok (.isub, 1) := by decide +kernel
theorem dX0_readText_155 : decode cX0_readText 155 = .ok (.iconst 1, 1) := by decide +kernel
theorem dX0_readText_156 : decode cX0_readText 156 = .ok (.isub, 1) := by decide +kernel
theorem dX0_readText_157 : decode cX0_readText 157 = .ok (.invokestatic 53, 3) := by decide +kernel
theorem dX0_readText_160 : decode cX0_readText 160 = .ok (.invokevirtual 59, 3) := by decide +kernel
theorem dX0_readText_163 : decode cX0_readText 163 = .ok (.istore 5, 2) := by decide +kernel
theorem dX0_readText_165 : decode cX0_readText 165 = .ok (.iload 5, 2) := by decide +kernel
theorem dX0_readText_167 : decode cX0_readText 167 = .ok (.iconst 4, 1) := by decide +kernel
theorem dX0_readText_168 : decode cX0_readText 168 = .ok (.if_icmp .ge 11, 3) := by decide +kernel
theorem dX0_readText_171 : decode cX0_readText 171 = .ok (.iload 4, 2) := by decide +kernel
theorem dX0_readText_173 : decode cX0_readText 173 = .ok (.iconst 1, 1) := by decide +kernel
theorem dX0_readText_174 : decode cX0_readText 174 = .ok (.iadd, 1) := by decide +kernel
theorem dX0_readText_175 : decode cX0_readText 175 = .ok (.iload 5, 2) := by decide +kernel
theorem dX0_readText_177 : decode cX0_readText 177 = .ok (.iadd, 1) := by decide +kernel
theorem dX0_readText_178 : decode cX0_readText 178 = .ok (.ireturn, 1) := by decide +kernel
theorem dX0_readText_179 : decode cX0_readText 179 = .ok (.aload_n 0, 1) := by decide +kernel
theorem dX0_readText_180 : decode cX0_readText 180 = .ok (.dup, 1) := by decide +kernel
theorem dX0_readText_181 : decode cX0_readText 181 = .ok (.getfield 37, 3) := by decide +kernel
theorem dX0_readText_184 : decode cX0_readText 184 = .ok (.iconst 1, 1) := by decide +kernel
theorem dX0_readText_185 : decode cX0_readText 185 = .ok (.iadd, 1) := by decide +kernel
theorem dX0_readText_186 : decode cX0_readText 186 = .ok (.putfield 37, 3) := by decide +kernel
theorem dX0_readText_189 : decode cX0_readText 189 = .ok (.iinc 4 5, 3) := by decide +kernel
theorem dX0_readText_192 : decode cX0_readText 192 = .ok (.goto (-81), 3) := by decide +kernel
theorem dX0_readText_195 : decode cX0_readText 195 = .ok (.aload_n 0, 1) := by decide +kernel
theorem dX0_readText_196 : decode cX0_readText 196 = .ok (.getfield 37, 3) := by decide +kernel
theorem dX0_readText_199 : decode cX0_readText 199 = .ok (.ifCond .le 8, 3) := by decide +kernel
theorem dX0_readText_202 : decode cX0_readText 202 = .ok (.bipush (-9), 2) := by decide +kernel
theorem dX0_readText_204 : decode cX0_readText 204 = .ok (.goto 4, 3) := by decide +kernel
theorem dX0_readText_207 : decode cX0_readText 207 = .ok (.iload_n 3, 1) := by decide +kernel
theorem dX0_readText_208 : decode cX0_readText 208 = .ok (.ireturn, 1) := by decide +kernel
set_option maxRecDepth 20000 in
theorem ggX0_readThing_X1_at : GoodIn wsX0_readThing wsX1_at := goodIn_r _ [5, 6, 7, 26, 27, 28] (by decide +kernel) (by decide +kernel)
set_option maxRecDepth 20000 in
theorem gX0_readThing_X1_at : GoodIn wsX0_readThing (wsV RX0 43 RX1 yX1_at wsX1_at) := goodIn_app (goodIn_of _ (by decide +kernel)) ggX0_readThing_X1_at
set_option maxRecDepth 20000 in
theorem ggX0_readThing_X0_kindOfLetter : GoodIn wsX0_readThing wsX0_kindOfLetter := goodIn_r _ [11] (by decide +kernel) (by decide +kernel)
set_option maxRecDepth 20000 in
theorem gX0_readThing_X0_kindOfLetter : GoodIn wsX0_readThing (va_wsS RX0 63 yX0_kindOfLetter wsX0_kindOfLetter) := goodIn_app (goodIn_of _ (by decide +kernel)) ggX0_readThing_X0_kindOfLetter
set_option maxRecDepth 20000 in
theorem ggX0_readThing_X0_boundOfPart : GoodIn wsX0_readThing wsX0_boundOfPart := goodIn_r _ [15, 16, 29, 30, 31, 32, 33, 34, 35, 36] (by decide +kernel) (by decide +kernel)
set_option maxRecDepth 20000 in
theorem gX0_readThing_X0_boundOfPart : GoodIn wsX0_readThing (wsV RX0 66 RX0 yX0_boundOfPart wsX0_boundOfPart) := goodIn_app (goodIn_of _ (by decide +kernel)) ggX0_readThing_X0_boundOfPart
set_option maxRecDepth 20000 in
theorem ggX0_readThing_X0_setPart : GoodIn wsX0_readThing wsX0_setPart := goodIn_r _ [20, 21, 22, 23, 24, 25, 29, 30, 31, 32, 33, 34, 35, 36] (by decide +kernel) (by decide +kernel)
set_option maxRecDepth 20000 in
theorem gX0_readThing_X0_setPart : GoodIn wsX0_readThing (wsV RX0 69 RX0 yX0_setPart wsX0_setPart) := goodIn_app (goodIn_of _ (by decide +kernel)) ggX0_readThing_X0_setPart
theorem dX0_readThing_0 : decode cX0_readThing 0 = .ok (.iconst 0, 1) := by decide +kernel
theorem dX0_readThing_1 : decode cX0_readThing 1 = .ok (.istore 4, 2) := by decide +kernel
theorem dX0_readThing_3 : decode cX0_readThing 3 = .ok (.iload 4, 2) := by decide +kernel
theorem dX0_readThing_5 : decode cX0_readThing 5 = .ok (.iload_n 3, 1) := by decide +kernel
theorem dX0_readThing_6 : decode cX0_readThing 6 = .ok (.if_icmp .ge 66, 3) := by decide +kernel
theorem dX0_readThing_9 : decode cX0_readThing 9 = .ok (.aload_n 1, 1) := by decide +kernel
theorem dX0_readThing_10 : decode cX0_readThing 10 = .ok (.iload_n 2, 1) := by decide +kernel
theorem dX0_readThing_11 : decode cX0_readThing 11 = .ok (.iload 4, 2) := by decide +kernel
theorem dX0_readThing_13 : decode cX0_readThing 13 = .ok (.iadd, 1) := by decide +kernel
theorem dX0_readThing_14 : decode cX0_readThing 14 = .ok (.invokevirtual 43, 3) := by decide +kernel
theorem dX0_readThing_17 : decode cX0_readThing 17 = .ok (.istore 5, 2) := by decide +kernel
theorem dX0_readThing_19 : decode cX0_readThing 19 = .ok (.iload 4, 2) := by decide +kernel
theorem dX0_readThing_21 : decode cX0_readThing 21 = .ok (.ifCond .ne 11, 3) := by decide +kernel
theorem dX0_readThing_24 : decode cX0_readThing 24 = .ok (.iload 5, 2) := by decide +kernel
theorem dX0_readThing_26 : decode cX0_readThing 26 = .ok (.invokestatic 63, 3) := by decide +kernel
theorem dX0_readThing_29 : decode cX0_readThing 29 = .ok (.goto 8, 3) := by decide +kernel
theorem dX0_readThing_32 : decode cX0_readThing 32 = .ok (.iload 5, 2) := by decide +kernel
theorem dX0_readThing_34 : decode cX0_readThing 34 = .ok (.bipush 48, 2) := by decide +kernel
theorem dX0_readThing_36 : decode cX0_readThing 36 = .ok (.isub, 1) := by decide +kernel
theorem dX0_readThing_37 : decode cX0_readThing 37 = .ok (.istore 6, 2) := by decide +kernel
theorem dX0_readThing_39 : decode cX0_readThing 39 = .ok (.iload 6, 2) := by decide +kernel
theorem dX0_readThing_41 : decode cX0_readThing 41 = .ok (.ifCond .lt 14, 3) := by decide +kernel
theorem dX0_readThing_44 : decode cX0_readThing 44 = .ok (.iload 6, 2) := by decide +kernel
theorem dX0_readThing_46 : decode cX0_readThing 46 = .ok (.aload_n 0, 1) := by decide +kernel
theorem dX0_readThing_47 : decode cX0_readThing 47 = .ok (.iload 4, 2) := by decide +kernel
theorem dX0_readThing_49 : decode cX0_readThing 49 = .ok (.invokevirtual 66, 3) := by decide +kernel
theorem dX0_readThing_52 : decode cX0_readThing 52 = .ok (.if_icmp .lt 6, 3) := by decide +kernel
theorem dX0_readThing_55 : decode cX0_readThing 55 = .ok (.iload 4, 2) := by decide +kernel
theorem dX0_readThing_57 : decode cX0_readThing 57 = .ok (.ireturn, 1) := by decide +kernel
theorem dX0_readThing_58 : decode cX0_readThing 58 = .ok (.aload_n 0, 1) := by decide +kernel
theorem dX0_readThing_59 : decode cX0_readThing 59 = .ok (.iload 4, 2) := by decide +kernel
theorem dX0_readThing_61 : decode cX0_readThing 61 = .ok (.iload 6, 2) := by decide +kernel
theorem dX0_readThing_63 : decode cX0_readThing 63 = .ok (.invokevirtual 69, 3) := by decide +kernel
theorem dX0_readThing_66 : decode cX0_readThing 66 = .ok (.iinc 4 1, 3) := by decide +kernel
theorem dX0_readThing_69 : decode cX0_readThing 69 = .ok (.goto (-66), 3) := by decide +kernel
theorem dX0_readThing_72 : decode cX0_readThing 72 = .ok (.iload_n 3, 1) := by decide +kernel
theorem dX0_readThing_73 : decode cX0_readThing 73 = .ok (.ireturn, 1) := by decide +kernel
theorem dX0_boundOfPart_0 : decode cX0_boundOfPart 0 = .ok (.iload_n 1, 1) := by decide +kernel
theorem dX0_boundOfPart_1 : decode cX0_boundOfPart 1 = .ok (.tableswitch 36 0 2 #[27, 29, 31], 27) := by decide +kernel
theorem dX0_boundOfPart_28 : decode cX0_boundOfPart 28 = .ok (.iconst 3, 1) := by decide +kernel
theorem dX0_boundOfPart_29 : decode cX0_boundOfPart 29 = .ok (.ireturn, 1) := by decide +kernel
theorem dX0_boundOfPart_30 : decode cX0_boundOfPart 30 = .ok (.iconst 2, 1) := by decide +kernel
theorem dX0_boundOfPart_31 : decode cX0_boundOfPart 31 = .ok (.ireturn, 1) := by decide +kernel
theorem dX0_boundOfPart_32 : decode cX0_boundOfPart 32 = .ok (.aload_n 0, 1) := by decide +kernel
theorem dX0_boundOfPart_33 : decode cX0_boundOfPart 33 = .ok (.getfield 33, 3) := by decide +kernel
theorem dX0_boundOfPart_36 : decode cX0_boundOfPart 36 = .ok (.ireturn, 1) := by decide +kernel
theorem dX0_boundOfPart_37 : decode cX0_boundOfPart 37 = .ok (.bipush 10, 2) := by decide +kernel
theorem dX0_boundOfPart_39 : decode cX0_boundOfPart 39 = .ok (.ireturn, 1) := by decide +kernel
theorem dX0_setPart_0 : decode cX0_setPart 0 = .ok (.aload_n 0, 1) := by decide +kernel
theorem dX0_setPart_1 : decode cX0_setPart 1 = .ok (.getfield 37, 3) := by decide +kernel
theorem dX0_setPart_4 : decode cX0_setPart 4 = .ok (.bipush 6, 2) := by decide +kernel
theorem dX0_setPart_6 : decode cX0_setPart 6 = .ok (.if_icmp .lt 4, 3) := by decide +kernel
theorem dX0_setPart_9 : decode cX0_setPart 9 = .ok (.return_, 1) := by decide +kernel
theorem dX0_setPart_10 : decode cX0_setPart 10 = .ok (.iload_n 1, 1) := by decide +kernel
theorem dX0_setPart_11 : decode cX0_setPart 11 = .ok (.tableswitch 64 0 2 #[25, 38, 51], 25) := by decide +kernel
theorem dX0_setPart_36 : decode cX0_setPart 36 = .ok (.aload_n 0, 1) := by decide +kernel
theorem dX0_setPart_37 : decode cX0_setPart 37 = .ok (.getfield 15, 3) := by decide +kernel
theorem dX0_setPart_40 : decode cX0_setPart 40 = .ok (.aload_n 0, 1) := by decide +kernel
theorem dX0_setPart_41 : decode cX0_setPart 41 = .ok (.getfield 37, 3) := by decide +kernel
theorem dX0_setPart_44 : decode cX0_setPart 44 = .ok (.iload_n 2, 1) := by decide +kernel
theorem dX0_setPart_45 : decode cX0_setPart 45 = .ok (.iastore, 1) := by decide +kernel
theorem dX0_setPart_46 : decode cX0_setPart 46 = .ok (.goto 39, 3) := by decide +kernel
theorem dX0_setPart_49 : decode cX0_setPart 49 = .ok (.aload_n 0, 1) := by decide +kernel
theorem dX0_setPart_50 : decode cX0_setPart 50 = .ok (.getfield 18, 3) := by decide +kernel
theorem dX0_setPart_53 : decode cX0_setPart 53 = .ok (.aload_n 0, 1) := by decide +kernel
theorem dX0_setPart_54 : decode cX0_setPart 54 = .ok (.getfield 37, 3) := by decide +kernel
theorem dX0_setPart_57 : decode cX0_setPart 57 = .ok (.iload_n 2, 1) := by decide +kernel
theorem dX0_setPart_58 : decode cX0_setPart 58 = .ok (.iastore, 1) := by decide +kernel
theorem dX0_setPart_59 : decode cX0_setPart 59 = .ok (.goto 26, 3) := by decide +kernel
theorem dX0_setPart_62 : decode cX0_setPart 62 = .ok (.aload_n 0, 1) := by decide +kernel
theorem dX0_setPart_63 : decode cX0_setPart 63 = .ok (.getfield 21, 3) := by decide +kernel
theorem dX0_setPart_66 : decode cX0_setPart 66 = .ok (.aload_n 0, 1) := by decide +kernel
theorem dX0_setPart_67 : decode cX0_setPart 67 = .ok (.getfield 37, 3) := by decide +kernel
theorem dX0_setPart_70 : decode cX0_setPart 70 = .ok (.iload_n 2, 1) := by decide +kernel
theorem dX0_setPart_71 : decode cX0_setPart 71 = .ok (.iastore, 1) := by decide +kernel
theorem dX0_setPart_72 : decode cX0_setPart 72 = .ok (.goto 13, 3) := by decide +kernel
theorem dX0_setPart_75 : decode cX0_setPart 75 = .ok (.aload_n 0, 1) := by decide +kernel
theorem dX0_setPart_76 : decode cX0_setPart 76 = .ok (.getfield 24, 3) := by decide +kernel
theorem dX0_setPart_79 : decode cX0_setPart 79 = .ok (.aload_n 0, 1) := by decide +kernel
theorem dX0_setPart_80 : decode cX0_setPart 80 = .ok (.getfield 37, 3) := by decide +kernel
theorem dX0_setPart_83 : decode cX0_setPart 83 = .ok (.iload_n 2, 1) := by decide +kernel
theorem dX0_setPart_84 : decode cX0_setPart 84 = .ok (.iastore, 1) := by decide +kernel
theorem dX0_setPart_85 : decode cX0_setPart 85 = .ok (.return_, 1) := by decide +kernel
theorem dX0_kindOfLetter_0 : decode cX0_kindOfLetter 0 = .ok (.iload_n 0, 1) := by decide +kernel
theorem dX0_kindOfLetter_1 : decode cX0_kindOfLetter 1 = .ok (.lookupswitch 41 #[(102, 35), (103, 39), (115, 37)], 35) := by decide +kernel
theorem dX0_kindOfLetter_36 : decode cX0_kindOfLetter 36 = .ok (.iconst 0, 1) := by decide +kernel
theorem dX0_kindOfLetter_37 : decode cX0_kindOfLetter 37 = .ok (.ireturn, 1) := by decide +kernel
theorem dX0_kindOfLetter_38 : decode cX0_kindOfLetter 38 = .ok (.iconst 1, 1) := by decide +kernel
theorem dX0_kindOfLetter_39 : decode cX0_kindOfLetter 39 = .ok (.ireturn, 1) := by decide +kernel
theorem dX0_kindOfLetter_40 : decode cX0_kindOfLetter 40 = .ok (.iconst 2, 1) := by decide +kernel
theorem dX0_kindOfLetter_41 : decode cX0_kindOfLetter 41 = .ok (.ireturn, 1) := by decide +kernel
theorem dX0_kindOfLetter_42 : decode cX0_kindOfLetter 42 = .ok (.bipush (-9), 2) := by decide +kernel
theorem dX0_kindOfLetter_44 : decode cX0_kindOfLetter 44 = .ok (.ireturn, 1) := by decide +kernel
theorem dX0_isDigit_0 : decode cX0_isDigit 0 = .ok (.iload_n 0, 1) := by decide +kernel
theorem dX0_isDigit_1 : decode cX0_isDigit 1 = .ok (.bipush 48, 2) := by decide +kernel
theorem dX0_isDigit_3 : decode cX0_isDigit 3 = .ok (.if_icmp .lt 13, 3) := by decide +kernel
theorem dX0_isDigit_6 : decode cX0_isDigit 6 = .ok (.iload_n 0, 1) := by decide +kernel
theorem dX0_isDigit_7 : decode cX0_isDigit 7 = .ok (.bipush 57, 2) := by decide +kernel
theorem dX0_isDigit_9 : decode cX0_isDigit 9 = .ok (.if_icmp .gt 7, 3) := by decide +kernel
theorem dX0_isDigit_12 : decode cX0_isDigit 12 = .ok (.iconst 1, 1) := by decide +kernel
theorem dX0_isDigit_13 : decode cX0_isDigit 13 = .ok (.goto 4, 3) := by decide +kernel
theorem dX0_isDigit_16 : decode cX0_isDigit 16 = .ok (.iconst 0, 1) := by decide +kernel
theorem dX0_isDigit_17 : decode cX0_isDigit 17 = .ok (.ireturn, 1) := by decide +kernel
theorem dX0_isEaten_0 : decode cX0_isEaten 0 = .ok (.aload_n 0, 1) := by decide +kernel
theorem dX0_isEaten_1 : decode cX0_isEaten 1 = .ok (.getfield 40, 3) := by decide +kernel
theorem dX0_isEaten_4 : decode cX0_isEaten 4 = .ok (.iload_n 1, 1) := by decide +kernel
theorem dX0_isEaten_5 : decode cX0_isEaten 5 = .ok (.ishr, 1) := by decide +kernel
theorem dX0_isEaten_6 : decode cX0_isEaten 6 = .ok (.iconst 1, 1) := by decide +kernel
theorem dX0_isEaten_7 : decode cX0_isEaten 7 = .ok (.iand, 1) := by decide +kernel
theorem dX0_isEaten_8 : decode cX0_isEaten 8 = .ok (.iconst 1, 1) := by decide +kernel
theorem dX0_isEaten_9 : decode cX0_isEaten 9 = .ok (.if_icmp .ne 7, 3) := by decide +kernel
theorem dX0_isEaten_12 : decode cX0_isEaten 12 = .ok (.iconst 1, 1) := by decide +kernel
theorem dX0_isEaten_13 : decode cX0_isEaten 13 = .ok (.goto 4, 3) := by decide +kernel
theorem dX0_isEaten_16 : decode cX0_isEaten 16 = .ok (.iconst 0, 1) := by decide +kernel
theorem dX0_isEaten_17 : decode cX0_isEaten 17 = .ok (.ireturn, 1) := by decide +kernel
set_option maxRecDepth 20000 in
theorem ggX0_countEaten_J6_bitCount_0f7a4 : GoodIn wsX0_countEaten wsJ6_bitCount_0f7a4 := goodIn_r _ [5, 6, 7, 8] (by decide +kernel) (by decide +kernel)
set_option maxRecDepth 20000 in
theorem gX0_countEaten_J6_bitCount_0f7a4 : GoodIn wsX0_countEaten (va_wsS RX0 73 yJ6_bitCount_0f7a4 wsJ6_bitCount_0f7a4) := goodIn_app (goodIn_of _ (by decide +kernel)) ggX0_countEaten_J6_bitCount_0f7a4
theorem dX0_countEaten_0 : decode cX0_countEaten 0 = .ok (.aload_n 0, 1) := by decide +kernel
theorem dX0_countEaten_1 : decode cX0_countEaten 1 = .ok (.getfield 40, 3) := by decide +kernel
theorem dX0_countEaten_4 : decode cX0_countEaten 4 = .ok (.invokestatic 73, 3) := by decide +kernel
theorem dX0_countEaten_7 : decode cX0_countEaten 7 = .ok (.ireturn, 1) := by decide +kernel
set_option maxRecDepth 20000 in
theorem ggX0_whereIs_X0_isEaten : GoodIn wsX0_whereIs wsX0_isEaten := goodIn_r _ [6, 7, 8, 9, 10, 11, 12, 13, 14, 15] (by decide +kernel) (by decide +kernel)
set_option maxRecDepth 20000 in
theorem gX0_whereIs_X0_isEaten : GoodIn wsX0_whereIs (wsV RX0 78 RX0 yX0_isEaten wsX0_isEaten) := goodIn_app (goodIn_of _ (by decide +kernel)) ggX0_whereIs_X0_isEaten
theorem dX0_whereIs_0 : decode cX0_whereIs 0 = .ok (.aload_n 0, 1) := by decide +kernel
theorem dX0_whereIs_1 : decode cX0_whereIs 1 = .ok (.iload_n 1, 1) := by decide +kernel
theorem dX0_whereIs_2 : decode cX0_whereIs 2 = .ok (.invokevirtual 78, 3) := by decide +kernel
theorem dX0_whereIs_5 : decode cX0_whereIs 5 = .ok (.ifCond .eq 8, 3) := by decide +kernel
theorem dX0_whereIs_8 : decode cX0_whereIs 8 = .ok (.bipush (-9), 2) := by decide +kernel
theorem dX0_whereIs_10 : decode cX0_whereIs 10 = .ok (.goto 9, 3) := by decide +kernel
theorem dX0_whereIs_13 : decode cX0_whereIs 13 = .ok (.aload_n 0, 1) := by decide +kernel
theorem dX0_whereIs_14 : decode cX0_whereIs 14 = .ok (.getfield 21, 3) := by decide +kernel
theorem dX0_whereIs_17 : decode cX0_whereIs 17 = .ok (.iload_n 1, 1) := by decide +kernel
theorem dX0_whereIs_18 : decode cX0_whereIs 18 = .ok (.iaload, 1) := by decide +kernel
theorem dX0_whereIs_19 : decode cX0_whereIs 19 = .ok (.ireturn, 1) := by decide +kernel
set_option maxRecDepth 20000 in
theorem ggX0_mightOf_X0_isEaten : GoodIn wsX0_mightOf wsX0_isEaten := goodIn_r _ [7, 8, 9, 10, 11, 12, 13, 14, 15, 16] (by decide +kernel) (by decide +kernel)
set_option maxRecDepth 20000 in
theorem gX0_mightOf_X0_isEaten : GoodIn wsX0_mightOf (wsV RX0 78 RX0 yX0_isEaten wsX0_isEaten) := goodIn_app (goodIn_of _ (by decide +kernel)) ggX0_mightOf_X0_isEaten
theorem dX0_mightOf_0 : decode cX0_mightOf 0 = .ok (.aload_n 0, 1) := by decide +kernel
theorem dX0_mightOf_1 : decode cX0_mightOf 1 = .ok (.iload_n 1, 1) := by decide +kernel
theorem dX0_mightOf_2 : decode cX0_mightOf 2 = .ok (.invokevirtual 78, 3) := by decide +kernel
theorem dX0_mightOf_5 : decode cX0_mightOf 5 = .ok (.ifCond .eq 5, 3) := by decide +kernel
theorem dX0_mightOf_8 : decode cX0_mightOf 8 = .ok (.iconst 0, 1) := by decide +kernel
theorem dX0_mightOf_9 : decode cX0_mightOf 9 = .ok (.ireturn, 1) := by decide +kernel
theorem dX0_mightOf_10 : decode cX0_mightOf 10 = .ok (.aload_n 0, 1) := by decide +kernel
theorem dX0_mightOf_11 : decode cX0_mightOf 11 = .ok (.getfield 15, 3) := by decide +kernel
theorem dX0_mightOf_14 : decode cX0_mightOf 14 = .ok (.iload_n 1, 1) := by decide +kernel
theorem dX0_mightOf_15 : decode cX0_mightOf 15 = .ok (.iaload, 1) := by decide +kernel
theorem dX0_mightOf_16 : decode cX0_mightOf 16 = .ok (.lookupswitch 48 #[(1, 39), (2, 28)], 28) := by decide +kernel
theorem dX0_mightOf_44 : decode cX0_mightOf 44 = .ok (.iconst 2, 1) := by decide +kernel
theorem dX0_mightOf_45 : decode cX0_mightOf 45 = .ok (.aload_n 0, 1) := by decide +kernel
theorem dX0_mightOf_46 : decode cX0_mightOf 46 = .ok (.getfield 24, 3) := by decide +kernel
theorem dX0_mightOf_49 : decode cX0_mightOf 49 = .ok (.iload_n 1, 1) := by decide +kernel
theorem dX0_mightOf_50 : decode cX0_mightOf 50 = .ok (.iaload, 1) := by decide +kernel
theorem dX0_mightOf_51 : decode cX0_mightOf 51 = .ok (.iconst 1, 1) := by decide +kernel
theorem dX0_mightOf_52 : decode cX0_mightOf 52 = .ok (.iadd, 1) := by decide +kernel
theorem dX0_mightOf_53 : decode cX0_mightOf 53 = .ok (.imul, 1) := by decide +kernel
theorem dX0_mightOf_54 : decode cX0_mightOf 54 = .ok (.ireturn, 1) := by decide +kernel
theorem dX0_mightOf_55 : decode cX0_mightOf 55 = .ok (.aload_n 0, 1) := by decide +kernel
theorem dX0_mightOf_56 : decode cX0_mightOf 56 = .ok (.getfield 24, 3) := by decide +kernel
theorem dX0_mightOf_59 : decode cX0_mightOf 59 = .ok (.iload_n 1, 1) := by decide +kernel
theorem dX0_mightOf_60 : decode cX0_mightOf 60 = .ok (.iaload, 1) := by decide +kernel
theorem dX0_mightOf_61 : decode cX0_mightOf 61 = .ok (.iconst 1, 1) := by decide +kernel
theorem dX0_mightOf_62 : decode cX0_mightOf 62 = .ok (.iadd, 1) := by decide +kernel
theorem dX0_mightOf_63 : decode cX0_mightOf 63 = .ok (.ireturn, 1) := by decide +kernel
theorem dX0_mightOf_64 : decode cX0_mightOf 64 = .ok (.aload_n 0, 1) := by decide +kernel
theorem dX0_mightOf_65 : decode cX0_mightOf 65 = .ok (.getfield 24, 3) := by decide +kernel
theorem dX0_mightOf_68 : decode cX0_mightOf 68 = .ok (.iload_n 1, 1) := by decide +kernel
theorem dX0_mightOf_69 : decode cX0_mightOf 69 = .ok (.iaload, 1) := by decide +kernel
theorem dX0_mightOf_70 : decode cX0_mightOf 70 = .ok (.ireturn, 1) := by decide +kernel
set_option maxRecDepth 20000 in
theorem ggX0_mightIn_X0_mightOf : GoodIn wsX0_mightIn wsX0_mightOf := goodIn_r _ [8, 9, 10, 11, 12, 13, 7, 14, 15, 16, 17, 18, 19, 20, 21, 22, 23] (by decide +kernel) (by decide +kernel)
set_option maxRecDepth 20000 in
theorem gX0_mightIn_X0_mightOf : GoodIn wsX0_mightIn (wsV RX0 81 RX0 yX0_mightOf wsX0_mightOf) := goodIn_app (goodIn_of _ (by decide +kernel)) ggX0_mightIn_X0_mightOf
theorem dX0_mightIn_0 : decode cX0_mightIn 0 = .ok (.iconst 0, 1) := by decide +kernel
theorem dX0_mightIn_1 : decode cX0_mightIn 1 = .ok (.istore_n 3, 1) := by decide +kernel
theorem dX0_mightIn_2 : decode cX0_mightIn 2 = .ok (.iconst 0, 1) := by decide +kernel
theorem dX0_mightIn_3 : decode cX0_mightIn 3 = .ok (.istore 4, 2) := by decide +kernel
theorem dX0_mightIn_5 : decode cX0_mightIn 5 = .ok (.iload 4, 2) := by decide +kernel
theorem dX0_mightIn_7 : decode cX0_mightIn 7 = .ok (.aload_n 0, 1) := by decide +kernel
theorem dX0_mightIn_8 : decode cX0_mightIn 8 = .ok (.getfield 37, 3) := by decide +kernel
theorem dX0_mightIn_11 : decode cX0_mightIn 11 = .ok (.if_icmp .ge 40, 3) := by decide +kernel
theorem dX0_mightIn_14 : decode cX0_mightIn 14 = .ok (.aload_n 0, 1) := by decide +kernel
theorem dX0_mightIn_15 : decode cX0_mightIn 15 = .ok (.getfield 18, 3) := by decide +kernel
theorem dX0_mightIn_18 : decode cX0_mightIn 18 = .ok (.iload 4, 2) := by decide +kernel
theorem dX0_mightIn_20 : decode cX0_mightIn 20 = .ok (.iaload, 1) := by decide +kernel
theorem dX0_mightIn_21 : decode cX0_mightIn 21 = .ok (.iload_n 1, 1) := by decide +kernel
theorem dX0_mightIn_22 : decode cX0_mightIn 22 = .ok (.if_icmp .ne 23, 3) := by decide +kernel
theorem dX0_mightIn_25 : decode cX0_mightIn 25 = .ok (.aload_n 0, 1) := by decide +kernel
theorem dX0_mightIn_26 : decode cX0_mightIn 26 = .ok (.getfield 21, 3) := by decide +kernel
theorem dX0_mightIn_29 : decode cX0_mightIn 29 = .ok (.iload 4, 2) := by decide +kernel
theorem dX0_mightIn_31 : decode cX0_mightIn 31 = .ok (.iaload, 1) := by decide +kernel
theorem dX0_mightIn_32 : decode cX0_mightIn 32 = .ok (.iload_n 2, 1) := by decide +kernel
theorem dX0_mightIn_33 : decode cX0_mightIn 33 = .ok (.if_icmp .ne 12, 3) := by decide +kernel
theorem dX0_mightIn_36 : decode cX0_mightIn 36 = .ok (.iload_n 3, 1) := by decide +kernel
theorem dX0_mightIn_37 : decode cX0_mightIn 37 = .ok (.aload_n 0, 1) := by decide +kernel
theorem dX0_mightIn_38 : decode cX0_mightIn 38 = .ok (.iload 4, 2) := by decide +kernel
theorem dX0_mightIn_40 : decode cX0_mightIn 40 = .ok (.invokevirtual 81, 3) := by decide +kernel
theorem dX0_mightIn_43 : decode cX0_mightIn 43 = .ok (.iadd, 1) := by decide +kernel
theorem dX0_mightIn_44 : decode cX0_mightIn 44 = .ok (.istore_n 3, 1) := by decide +kernel
theorem dX0_mightIn_45 : decode cX0_mightIn 45 = .ok (.iinc 4 1, 3) := by decide +kernel
theorem dX0_mightIn_48 : decode cX0_mightIn 48 = .ok (.goto (-43), 3) := by decide +kernel
theorem dX0_mightIn_51 : decode cX0_mightIn 51 = .ok (.iload_n 3, 1) := by decide +kernel
theorem dX0_mightIn_52 : decode cX0_mightIn 52 = .ok (.ireturn, 1) := by decide +kernel
set_option maxRecDepth 20000 in
theorem ggX0_holderOf_X0_mightOf : GoodIn wsX0_holderOf wsX0_mightOf := goodIn_r _ [8, 9, 10, 11, 12, 13, 7, 14, 15, 16, 17, 18, 19, 20, 21, 22, 23] (by decide +kernel) (by decide +kernel)
set_option maxRecDepth 20000 in
theorem gX0_holderOf_X0_mightOf : GoodIn wsX0_holderOf (wsV RX0 81 RX0 yX0_mightOf wsX0_mightOf) := goodIn_app (goodIn_of _ (by decide +kernel)) ggX0_holderOf_X0_mightOf
theorem dX0_holderOf_0 : decode cX0_holderOf 0 = .ok (.iconst 0, 1) := by decide +kernel
theorem dX0_holderOf_1 : decode cX0_holderOf 1 = .ok (.istore_n 2, 1) := by decide +kernel
theorem dX0_holderOf_2 : decode cX0_holderOf 2 = .ok (.iconst 0, 1) := by decide +kernel
theorem dX0_holderOf_3 : decode cX0_holderOf 3 = .ok (.istore_n 3, 1) := by decide +kernel
theorem dX0_holderOf_4 : decode cX0_holderOf 4 = .ok (.iload_n 3, 1) := by decide +kernel
theorem dX0_holderOf_5 : decode cX0_holderOf 5 = .ok (.aload_n 0, 1) := by decide +kernel
theorem dX0_holderOf_6 : decode cX0_holderOf 6 = .ok (.getfield 37, 3) := by decide +kernel
theorem dX0_holderOf_9 : decode cX0_holderOf 9 = .ok (.if_icmp .ge 45, 3) := by decide +kernel
theorem dX0_holderOf_12 : decode cX0_holderOf 12 = .ok (.aload_n 0, 1) := by decide +kernel
theorem dX0_holderOf_13 : decode cX0_holderOf 13 = .ok (.getfield 21, 3) := by decide +kernel
theorem dX0_holderOf_16 : decode cX0_holderOf 16 = .ok (.iload_n 3, 1) := by decide +kernel
theorem dX0_holderOf_17 : decode cX0_holderOf 17 = .ok (.iaload, 1) := by decide +kernel
theorem dX0_holderOf_18 : decode cX0_holderOf 18 = .ok (.iload_n 1, 1) := by decide +kernel
theorem dX0_holderOf_19 : decode cX0_holderOf 19 = .ok (.if_icmp .ne 29, 3) := by decide +kernel
theorem dX0_holderOf_22 : decode cX0_holderOf 22 = .ok (.iload_n 2, 1) := by decide +kernel
theorem dX0_holderOf_23 : decode cX0_holderOf 23 = .ok (.aload_n 0, 1) := by decide +kernel
theorem dX0_holderOf_24 : decode cX0_holderOf 24 = .ok (.getfield 18, 3) := by decide +kernel
theorem dX0_holderOf_27 : decode cX0_holderOf 27 = .ok (.iload_n 3, 1) := by decide +kernel
theorem dX0_holderOf_28 : decode cX0_holderOf 28 = .ok (.iaload, 1) := by decide +kernel
theorem dX0_holderOf_29 : decode cX0_holderOf 29 = .ok (.ifCond .ne 11, 3) := by decide +kernel
theorem dX0_holderOf_32 : decode cX0_holderOf 32 = .ok (.aload_n 0, 1) := by decide +kernel
theorem dX0_holderOf_33 : decode cX0_holderOf 33 = .ok (.iload_n 3, 1) := by decide +kernel
theorem dX0_holderOf_34 : decode cX0_holderOf 34 = .ok (.invokevirtual 81, 3) := by decide +kernel
theorem dX0_holderOf_37 : decode cX0_holderOf 37 = .ok (.goto 9, 3) := by decide +kernel
theorem dX0_holderOf_40 : decode cX0_holderOf 40 = .ok (.aload_n 0, 1) := by decide +kernel
theorem dX0_holderOf_41 : decode cX0_holderOf 41 = .ok (.iload_n 3, 1) := by decide +kernel
theorem dX0_holderOf_42 : decode cX0_holderOf 42 = .ok (.invokevirtual 81, 3) := by decide +kernel
theorem dX0_holderOf_45 : decode cX0_holderOf 45 = .ok (.ineg, 1) := by decide +kernel
theorem dX0_holderOf_46 : decode cX0_holderOf 46 = .ok (.iadd, 1) := by decide +kernel
theorem dX0_holderOf_47 : decode cX0_holderOf 47 = .ok (.istore_n 2, 1) := by decide +kernel
theorem dX0_holderOf_48 : decode cX0_holderOf 48 = .ok (.iinc 3 1, 3) := by decide +kernel
theorem dX0_holderOf_51 : decode cX0_holderOf 51 = .ok (.goto (-47), 3) := by decide +kernel
theorem dX0_holderOf_54 : decode cX0_holderOf 54 = .ok (.iload_n 2, 1) := by decide +kernel
theorem dX0_holderOf_55 : decode cX0_holderOf 55 = .ok (.ifCond .ne 6, 3) := by decide +kernel
theorem dX0_holderOf_58 : decode cX0_holderOf 58 = .ok (.bipush (-9), 2) := by decide +kernel
theorem dX0_holderOf_60 : decode cX0_holderOf 60 = .ok (.ireturn, 1) := by decide +kernel
theorem dX0_holderOf_61 : decode cX0_holderOf 61 = .ok (.iload_n 2, 1) := by decide +kernel
theorem dX0_holderOf_62 : decode cX0_holderOf 62 = .ok (.ifCond .le 7, 3) := by decide +kernel
theorem dX0_holderOf_65 : decode cX0_holderOf 65 = .ok (.iconst 0, 1) := by decide +kernel
theorem dX0_holderOf_66 : decode cX0_holderOf 66 = .ok (.goto 4, 3) := by decide +kernel
theorem dX0_holderOf_69 : decode cX0_holderOf 69 = .ok (.iconst 1, 1) := by decide +kernel
theorem dX0_holderOf_70 : decode cX0_holderOf 70 = .ok (.ireturn, 1) := by decide +kernel
set_option maxRecDepth 20000 in
theorem ggX0_landOf_X0_holderOf : GoodIn wsX0_landOf wsX0_holderOf := goodIn_r _ [7, 8, 9, 10, 11, 12, 13, 6, 14, 15, 16, 17, 18, 19, 20, 21, 22, 23, 24, 25, 26, 27, 28, 29] (by decide +kernel) (by decide +kernel)
set_option maxRecDepth 20000 in
theorem gX0_landOf_X0_holderOf : GoodIn wsX0_landOf (wsV RX0 84 RX0 yX0_holderOf wsX0_holderOf) := goodIn_app (goodIn_of _ (by decide +kernel)) ggX0_landOf_X0_holderOf
theorem dX0_landOf_0 : decode cX0_landOf 0 = .ok (.iconst 0, 1) := by decide +kernel
theorem dX0_landOf_1 : decode cX0_landOf 1 = .ok (.istore_n 2, 1) := by decide +kernel
theorem dX0_landOf_2 : decode cX0_landOf 2 = .ok (.iconst 0, 1) := by decide +kernel
theorem dX0_landOf_3 : decode cX0_landOf 3 = .ok (.istore_n 3, 1) := by decide +kernel
theorem dX0_landOf_4 : decode cX0_landOf 4 = .ok (.iload_n 3, 1) := by decide +kernel
theorem dX0_landOf_5 : decode cX0_landOf 5 = .ok (.aload_n 0, 1) := by decide +kernel
theorem dX0_landOf_6 : decode cX0_landOf 6 = .ok (.getfield 33, 3) := by decide +kernel
theorem dX0_landOf_9 : decode cX0_landOf 9 = .ok (.if_icmp .ge 27, 3) := by decide +kernel
theorem dX0_landOf_12 : decode cX0_landOf 12 = .ok (.aload_n 0, 1) := by decide +kernel
theorem dX0_landOf_13 : decode cX0_landOf 13 = .ok (.iload_n 3, 1) := by decide +kernel
theorem dX0_landOf_14 : decode cX0_landOf 14 = .ok (.invokevirtual 84, 3) := by decide +kernel
theorem dX0_landOf_17 : decode cX0_landOf 17 = .ok (.iload_n 1, 1) := by decide +kernel
theorem dX0_landOf_18 : decode cX0_landOf 18 = .ok (.if_icmp .ne 12, 3) := by decide +kernel
theorem dX0_landOf_21 : decode cX0_landOf 21 = .ok (.iload_n 2, 1) := by decide +kernel
theorem dX0_landOf_22 : decode cX0_landOf 22 = .ok (.aload_n 0, 1) := by decide +kernel
theorem dX0_landOf_23 : decode cX0_landOf 23 = .ok (.getfield 9, 3) := by decide +kernel
theorem dX0_landOf_26 : decode cX0_landOf 26 = .ok (.iload_n 3, 1) := by decide +kernel
theorem dX0_landOf_27 : decode cX0_landOf 27 = .ok (.iaload, 1) := by decide +kernel
theorem dX0_landOf_28 : decode cX0_landOf 28 = .ok (.iadd, 1) := by decide +kernel
theorem dX0_landOf_29 : decode cX0_landOf 29 = .ok (.istore_n 2, 1) := by decide +kernel
theorem dX0_landOf_30 : decode cX0_landOf 30 = .ok (.iinc 3 1, 3) := by decide +kernel
theorem dX0_landOf_33 : decode cX0_landOf 33 = .ok (.goto (-29), 3) := by decide +kernel
theorem dX0_landOf_36 : decode cX0_landOf 36 = .ok (.iload_n 2, 1) := by decide +kernel
theorem dX0_landOf_37 : decode cX0_landOf 37 = .ok (.ireturn, 1) := by decide +kernel
set_option maxRecDepth 20000 in
theorem ggX0_leadOf_X0_holderOf : GoodIn wsX0_leadOf wsX0_holderOf := goodIn_r _ [7, 8, 9, 10, 11, 12, 13, 6, 14, 15, 16, 17, 18, 19, 20, 21, 22, 23, 24, 25, 26, 27, 28, 29] (by decide +kernel) (by decide +kernel)
set_option maxRecDepth 20000 in
theorem gX0_leadOf_X0_holderOf : GoodIn wsX0_leadOf (wsV RX0 84 RX0 yX0_holderOf wsX0_holderOf) := goodIn_app (goodIn_of _ (by decide +kernel)) ggX0_leadOf_X0_holderOf
theorem dX0_leadOf_0 : decode cX0_leadOf 0 = .ok (.bipush 100, 2) := by decide +kernel
theorem dX0_leadOf_2 : decode cX0_leadOf 2 = .ok (.istore_n 2, 1) := by decide +kernel
theorem dX0_leadOf_3 : decode cX0_leadOf 3 = .ok (.iconst 0, 1) := by decide +kernel
theorem dX0_leadOf_4 : decode cX0_leadOf 4 = .ok (.istore_n 3, 1) := by decide +kernel
theorem dX0_leadOf_5 : decode cX0_leadOf 5 = .ok (.iload_n 3, 1) := by decide +kernel
theorem dX0_leadOf_6 : decode cX0_leadOf 6 = .ok (.aload_n 0, 1) := by decide +kernel
theorem dX0_leadOf_7 : decode cX0_leadOf 7 = .ok (.getfield 33, 3) := by decide +kernel
theorem dX0_leadOf_10 : decode cX0_leadOf 10 = .ok (.if_icmp .ge 48, 3) := by decide +kernel
theorem dX0_leadOf_13 : decode cX0_leadOf 13 = .ok (.aload_n 0, 1) := by decide +kernel
theorem dX0_leadOf_14 : decode cX0_leadOf 14 = .ok (.iload_n 3, 1) := by decide +kernel
theorem dX0_leadOf_15 : decode cX0_leadOf 15 = .ok (.invokevirtual 84, 3) := by decide +kernel
theorem dX0_leadOf_18 : decode cX0_leadOf 18 = .ok (.istore 4, 2) := by decide +kernel
theorem dX0_leadOf_20 : decode cX0_leadOf 20 = .ok (.iload 4, 2) := by decide +kernel
theorem dX0_leadOf_22 : decode cX0_leadOf 22 = .ok (.bipush (-9), 2) := by decide +kernel
theorem dX0_leadOf_24 : decode cX0_leadOf 24 = .ok (.if_icmp .eq 28, 3) := by decide +kernel
theorem dX0_leadOf_27 : decode cX0_leadOf 27 = .ok (.iload_n 2, 1) := by decide +kernel
theorem dX0_leadOf_28 : decode cX0_leadOf 28 = .ok (.iload 4, 2) := by decide +kernel
theorem dX0_leadOf_30 : decode cX0_leadOf 30 = .ok (.iload_n 1, 1) := by decide +kernel
theorem dX0_leadOf_31 : decode cX0_leadOf 31 = .ok (.if_icmp .ne 12, 3) := by decide +kernel
theorem dX0_leadOf_34 : decode cX0_leadOf 34 = .ok (.aload_n 0, 1) := by decide +kernel
theorem dX0_leadOf_35 : decode cX0_leadOf 35 = .ok (.getfield 9, 3) := by decide +kernel
theorem dX0_leadOf_38 : decode cX0_leadOf 38 = .ok (.iload_n 3, 1) := by decide +kernel
theorem dX0_leadOf_39 : decode cX0_leadOf 39 = .ok (.iaload, 1) := by decide +kernel
theorem dX0_leadOf_40 : decode cX0_leadOf 40 = .ok (.goto 10, 3) := by decide +kernel
theorem dX0_leadOf_43 : decode cX0_leadOf 43 = .ok (.aload_n 0, 1) := by decide +kernel
theorem dX0_leadOf_44 : decode cX0_leadOf 44 = .ok (.getfield 9, 3) := by decide +kernel
theorem dX0_leadOf_47 : decode cX0_leadOf 47 = .ok (.iload_n 3, 1) := by decide +kernel
theorem dX0_leadOf_48 : decode cX0_leadOf 48 = .ok (.iaload, 1) := by decide +kernel
theorem dX0_leadOf_49 : decode cX0_leadOf 49 = .ok (.ineg, 1) := by decide +kernel
theorem dX0_leadOf_50 : decode cX0_leadOf 50 = .ok (.iadd, 1) := by decide +kernel
theorem dX0_leadOf_51 : decode cX0_leadOf 51 = .ok (.istore_n 2, 1) := by decide +kernel
theorem dX0_leadOf_52 : decode cX0_leadOf 52 = .ok (.iinc 3 1, 3) := by decide +kernel
theorem dX0_leadOf_55 : decode cX0_leadOf 55 = .ok (.goto (-50), 3) := by decide +kernel
theorem dX0_leadOf_58 : decode cX0_leadOf 58 = .ok (.iload_n 2, 1) := by decide +kernel
theorem dX0_leadOf_59 : decode cX0_leadOf 59 = .ok (.ireturn, 1) := by decide +kernel
set_option maxRecDepth 20000 in
theorem ggX0_canDo_X0_isEaten : GoodIn wsX0_canDo wsX0_isEaten := goodIn_r _ [7, 8, 9, 10, 11, 12, 13, 14, 15, 16] (by decide +kernel) (by decide +kernel)
set_option maxRecDepth 20000 in
theorem gX0_canDo_X0_isEaten : GoodIn wsX0_canDo (wsV RX0 78 RX0 yX0_isEaten wsX0_isEaten) := goodIn_app (goodIn_of _ (by decide +kernel)) ggX0_canDo_X0_isEaten
theorem dX0_canDo_0 : decode cX0_canDo 0 = .ok (.aload_n 0, 1) := by decide +kernel
theorem dX0_canDo_1 : decode cX0_canDo 1 = .ok (.iload_n 1, 1) := by decide +kernel
theorem dX0_canDo_2 : decode cX0_canDo 2 = .ok (.invokevirtual 78, 3) := by decide +kernel
theorem dX0_canDo_5 : decode cX0_canDo 5 = .ok (.ifCond .eq 5, 3) := by decide +kernel
theorem dX0_canDo_8 : decode cX0_canDo 8 = .ok (.iconst 0, 1) := by decide +kernel
theorem dX0_canDo_9 : decode cX0_canDo 9 = .ok (.ireturn, 1) := by decide +kernel
theorem dX0_canDo_10 : decode cX0_canDo 10 = .ok (.iload_n 2, 1) := by decide +kernel
theorem dX0_canDo_11 : decode cX0_canDo 11 = .ok (.lookupswitch 61 #[(0, 25), (1, 40)], 25) := by decide +kernel
theorem dX0_canDo_36 : decode cX0_canDo 36 = .ok (.aload_n 0, 1) := by decide +kernel
theorem dX0_canDo_37 : decode cX0_canDo 37 = .ok (.getfield 21, 3) := by decide +kernel
theorem dX0_canDo_40 : decode cX0_canDo 40 = .ok (.iload_n 1, 1) := by decide +kernel
theorem dX0_canDo_41 : decode cX0_canDo 41 = .ok (.iaload, 1) := by decide +kernel
theorem dX0_canDo_42 : decode cX0_canDo 42 = .ok (.ifCond .le 7, 3) := by decide +kernel
theorem dX0_canDo_45 : decode cX0_canDo 45 = .ok (.iconst 1, 1) := by decide +kernel
theorem dX0_canDo_46 : decode cX0_canDo 46 = .ok (.goto 4, 3) := by decide +kernel
theorem dX0_canDo_49 : decode cX0_canDo 49 = .ok (.iconst 0, 1) := by decide +kernel
theorem dX0_canDo_50 : decode cX0_canDo 50 = .ok (.ireturn, 1) := by decide +kernel
theorem dX0_canDo_51 : decode cX0_canDo 51 = .ok (.aload_n 0, 1) := by decide +kernel
theorem dX0_canDo_52 : decode cX0_canDo 52 = .ok (.getfield 21, 3) := by decide +kernel
theorem dX0_canDo_55 : decode cX0_canDo 55 = .ok (.iload_n 1, 1) := by decide +kernel
theorem dX0_canDo_56 : decode cX0_canDo 56 = .ok (.iaload, 1) := by decide +kernel
theorem dX0_canDo_57 : decode cX0_canDo 57 = .ok (.iconst 1, 1) := by decide +kernel
theorem dX0_canDo_58 : decode cX0_canDo 58 = .ok (.iadd, 1) := by decide +kernel
theorem dX0_canDo_59 : decode cX0_canDo 59 = .ok (.aload_n 0, 1) := by decide +kernel
theorem dX0_canDo_60 : decode cX0_canDo 60 = .ok (.getfield 33, 3) := by decide +kernel
theorem dX0_canDo_63 : decode cX0_canDo 63 = .ok (.if_icmp .ge 7, 3) := by decide +kernel
theorem dX0_canDo_66 : decode cX0_canDo 66 = .ok (.iconst 1, 1) := by decide +kernel
theorem dX0_canDo_67 : decode cX0_canDo 67 = .ok (.goto 4, 3) := by decide +kernel
theorem dX0_canDo_70 : decode cX0_canDo 70 = .ok (.iconst 0, 1) := by decide +kernel
theorem dX0_canDo_71 : decode cX0_canDo 71 = .ok (.ireturn, 1) := by decide +kernel
theorem dX0_canDo_72 : decode cX0_canDo 72 = .ok (.iconst 1, 1) := by decide +kernel
theorem dX0_canDo_73 : decode cX0_canDo 73 = .ok (.ireturn, 1) := by decide +kernel
theorem dX0_doAct_0 : decode cX0_doAct 0 = .ok (.iload_n 2, 1) := by decide +kernel
theorem dX0_doAct_1 : decode cX0_doAct 1 = .ok (.lookupswitch 53 #[(0, 27), (1, 40)], 27) := by decide +kernel
theorem dX0_doAct_28 : decode cX0_doAct 28 = .ok (.aload_n 0, 1) := by decide +kernel
theorem dX0_doAct_29 : decode cX0_doAct 29 = .ok (.getfield 21, 3) := by decide +kernel
theorem dX0_doAct_32 : decode cX0_doAct 32 = .ok (.iload_n 1, 1) := by decide +kernel
theorem dX0_doAct_33 : decode cX0_doAct 33 = .ok (.dup2, 1) := by decide +kernel
theorem dX0_doAct_34 : decode cX0_doAct 34 = .ok (.iaload, 1) := by decide +kernel
theorem dX0_doAct_35 : decode cX0_doAct 35 = .ok (.iconst 1, 1) := by decide +kernel
theorem dX0_doAct_36 : decode cX0_doAct 36 = .ok (.isub, 1) := by decide +kernel
theorem dX0_doAct_37 : decode cX0_doAct 37 = .ok (.iastore, 1) := by decide +kernel
theorem dX0_doAct_38 : decode cX0_doAct 38 = .ok (.goto 28, 3) := by decide +kernel
theorem dX0_doAct_41 : decode cX0_doAct 41 = .ok (.aload_n 0, 1) := by decide +kernel
theorem dX0_doAct_42 : decode cX0_doAct 42 = .ok (.getfield 21, 3) := by decide +kernel
theorem dX0_doAct_45 : decode cX0_doAct 45 = .ok (.iload_n 1, 1) := by decide +kernel
theorem dX0_doAct_46 : decode cX0_doAct 46 = .ok (.dup2, 1) := by decide +kernel
theorem dX0_doAct_47 : decode cX0_doAct 47 = .ok (.iaload, 1) := by decide +kernel
theorem dX0_doAct_48 : decode cX0_doAct 48 = .ok (.iconst 1, 1) := by decide +kernel
theorem dX0_doAct_49 : decode cX0_doAct 49 = .ok (.iadd, 1) := by decide +kernel
theorem dX0_doAct_50 : decode cX0_doAct 50 = .ok (.iastore, 1) := by decide +kernel
theorem dX0_doAct_51 : decode cX0_doAct 51 = .ok (.goto 15, 3) := by decide +kernel
theorem dX0_doAct_54 : decode cX0_doAct 54 = .ok (.aload_n 0, 1) := by decide +kernel
theorem dX0_doAct_55 : decode cX0_doAct 55 = .ok (.dup, 1) := by decide +kernel
theorem dX0_doAct_56 : decode cX0_doAct 56 = .ok (.getfield 40, 3) := by decide +kernel
theorem dX0_doAct_59 : decode cX0_doAct 59 = .ok (.iconst 1, 1) := by decide +kernel
theorem dX0_doAct_60 : decode cX0_doAct 60 = .ok (.iload_n 1, 1) := by decide +kernel
theorem dX0_doAct_61 : decode cX0_doAct 61 = .ok (.ishl, 1) := by decide +kernel
theorem dX0_doAct_62 : decode cX0_doAct 62 = .ok (.ior, 1) := by decide +kernel
theorem dX0_doAct_63 : decode cX0_doAct 63 = .ok (.putfield 40, 3) := by decide +kernel
theorem dX0_doAct_66 : decode cX0_doAct 66 = .ok (.return_, 1) := by decide +kernel
theorem dX0_undoAct_0 : decode cX0_undoAct 0 = .ok (.iload_n 2, 1) := by decide +kernel
theorem dX0_undoAct_1 : decode cX0_undoAct 1 = .ok (.lookupswitch 53 #[(0, 27), (1, 40)], 27) := by decide +kernel
theorem dX0_undoAct_28 : decode cX0_undoAct 28 = .ok (.aload_n 0, 1) := by decide +kernel
theorem dX0_undoAct_29 : decode cX0_undoAct 29 = .ok (.getfield 21, 3) := by decide +kernel
theorem dX0_undoAct_32 : decode cX0_undoAct 32 = .ok (.iload_n 1, 1) := by decide +kernel
theorem dX0_undoAct_33 : decode cX0_undoAct 33 = .ok (.dup2, 1) := by decide +kernel
theorem dX0_undoAct_34 : decode cX0_undoAct 34 = .ok (.iaload, 1) := by decide +kernel
theorem dX0_undoAct_35 : decode cX0_undoAct 35 = .ok (.iconst 1, 1) := by decide +kernel
theorem dX0_undoAct_36 : decode cX0_undoAct 36 = .ok (.iadd, 1) := by decide +kernel
theorem dX0_undoAct_37 : decode cX0_undoAct 37 = .ok (.iastore, 1) := by decide +kernel
theorem dX0_undoAct_38 : decode cX0_undoAct 38 = .ok (.goto 30, 3) := by decide +kernel
theorem dX0_undoAct_41 : decode cX0_undoAct 41 = .ok (.aload_n 0, 1) := by decide +kernel
theorem dX0_undoAct_42 : decode cX0_undoAct 42 = .ok (.getfield 21, 3) := by decide +kernel
theorem dX0_undoAct_45 : decode cX0_undoAct 45 = .ok (.iload_n 1, 1) := by decide +kernel
theorem dX0_undoAct_46 : decode cX0_undoAct 46 = .ok (.dup2, 1) := by decide +kernel
theorem dX0_undoAct_47 : decode cX0_undoAct 47 = .ok (.iaload, 1) := by decide +kernel
theorem dX0_undoAct_48 : decode cX0_undoAct 48 = .ok (.iconst 1, 1) := by decide +kernel
theorem dX0_undoAct_49 : decode cX0_undoAct 49 = .ok (.isub, 1) := by decide +kernel
theorem dX0_undoAct_50 : decode cX0_undoAct 50 = .ok (.iastore, 1) := by decide +kernel
theorem dX0_undoAct_51 : decode cX0_undoAct 51 = .ok (.goto 17, 3) := by decide +kernel
theorem dX0_undoAct_54 : decode cX0_undoAct 54 = .ok (.aload_n 0, 1) := by decide +kernel
theorem dX0_undoAct_55 : decode cX0_undoAct 55 = .ok (.dup, 1) := by decide +kernel
theorem dX0_undoAct_56 : decode cX0_undoAct 56 = .ok (.getfield 40, 3) := by decide +kernel
theorem dX0_undoAct_59 : decode cX0_undoAct 59 = .ok (.iconst 1, 1) := by decide +kernel
theorem dX0_undoAct_60 : decode cX0_undoAct 60 = .ok (.iload_n 1, 1) := by decide +kernel
theorem dX0_undoAct_61 : decode cX0_undoAct 61 = .ok (.ishl, 1) := by decide +kernel
theorem dX0_undoAct_62 : decode cX0_undoAct 62 = .ok (.iconst (-1), 1) := by decide +kernel
theorem dX0_undoAct_63 : decode cX0_undoAct 63 = .ok (.ixor, 1) := by decide +kernel
theorem dX0_undoAct_64 : decode cX0_undoAct 64 = .ok (.iand, 1) := by decide +kernel
theorem dX0_undoAct_65 : decode cX0_undoAct 65 = .ok (.putfield 40, 3) := by decide +kernel
theorem dX0_undoAct_68 : decode cX0_undoAct 68 = .ok (.return_, 1) := by decide +kernel
set_option maxRecDepth 20000 in
theorem ggX0_playPairs_X1_at : GoodIn wsX0_playPairs wsX1_at := goodIn_r _ [7, 8, 9, 34, 35, 36] (by decide +kernel) (by decide +kernel)
set_option maxRecDepth 20000 in
theorem gX0_playPairs_X1_at : GoodIn wsX0_playPairs (wsV RX0 43 RX1 yX1_at wsX1_at) := goodIn_app (goodIn_of _ (by decide +kernel)) ggX0_playPairs_X1_at
set_option maxRecDepth 20000 in
theorem ggX0_playPairs_X0_canDo : GoodIn wsX0_playPairs wsX0_canDo := goodIn_r _ [14, 15, 16, 17, 18, 19, 13, 20, 21, 26, 27, 28, 29, 30, 31, 32, 33] (by decide +kernel) (by decide +kernel)
set_option maxRecDepth 20000 in
theorem gX0_playPairs_X0_canDo : GoodIn wsX0_playPairs (wsV RX0 87 RX0 yX0_canDo wsX0_canDo) := goodIn_app (goodIn_of _ (by decide +kernel)) ggX0_playPairs_X0_canDo
set_option maxRecDepth 20000 in
theorem ggX0_playPairs_X0_doAct : GoodIn wsX0_playPairs wsX0_doAct := goodIn_r _ [25, 15, 21, 26, 27, 28, 29, 30, 31, 32, 33] (by decide +kernel) (by decide +kernel)
set_option maxRecDepth 20000 in
theorem gX0_playPairs_X0_doAct : GoodIn wsX0_playPairs (wsV RX0 91 RX0 yX0_doAct wsX0_doAct) := goodIn_app (goodIn_of _ (by decide +kernel)) ggX0_playPairs_X0_doAct
theorem dX0_playPairs_0 : decode cX0_playPairs 0 = .ok (.iconst 0, 1) := by decide +kernel
theorem dX0_playPairs_1 : decode cX0_playPairs 1 = .ok (.istore 4, 2) := by decide +kernel
theorem dX0_playPairs_3 : decode cX0_playPairs 3 = .ok (.iload 4, 2) := by decide +kernel
theorem dX0_playPairs_5 : decode cX0_playPairs 5 = .ok (.iload_n 3, 1) := by decide +kernel
theorem dX0_playPairs_6 : decode cX0_playPairs 6 = .ok (.if_icmp .ge 85, 3) := by decide +kernel
theorem dX0_playPairs_9 : decode cX0_playPairs 9 = .ok (.aload_n 1, 1) := by decide +kernel
theorem dX0_playPairs_10 : decode cX0_playPairs 10 = .ok (.iload_n 2, 1) := by decide +kernel
theorem dX0_playPairs_11 : decode cX0_playPairs 11 = .ok (.iconst 2, 1) := by decide +kernel
theorem dX0_playPairs_12 : decode cX0_playPairs 12 = .ok (.iload 4, 2) := by decide +kernel
theorem dX0_playPairs_14 : decode cX0_playPairs 14 = .ok (.imul, 1) := by decide +kernel
theorem dX0_playPairs_15 : decode cX0_playPairs 15 = .ok (.iadd, 1) := by decide +kernel
theorem dX0_playPairs_16 : decode cX0_playPairs 16 = .ok (.invokevirtual 43, 3) := by decide +kernel
theorem dX0_playPairs_19 : decode cX0_playPairs 19 = .ok (.istore 5, 2) := by decide +kernel
theorem dX0_playPairs_21 : decode cX0_playPairs 21 = .ok (.aload_n 1, 1) := by decide +kernel
theorem dX0_playPairs_22 : decode cX0_playPairs 22 = .ok (.iload_n 2, 1) := by decide +kernel
theorem dX0_playPairs_23 : decode cX0_playPairs 23 = .ok (.iconst 2, 1) := by decide +kernel
theorem dX0_playPairs_24 : decode cX0_playPairs 24 = .ok (.iload 4, 2) := by decide +kernel
theorem dX0_playPairs_26 : decode cX0_playPairs 26 = .ok (.imul, 1) := by decide +kernel
theorem dX0_playPairs_27 : decode cX0_playPairs 27 = .ok (.iadd, 1) := by decide +kernel
theorem dX0_playPairs_28 : decode cX0_playPairs 28 = .ok (.iconst 1, 1) := by decide +kernel
theorem dX0_playPairs_29 : decode cX0_playPairs 29 = .ok (.iadd, 1) := by decide +kernel
theorem dX0_playPairs_30 : decode cX0_playPairs 30 = .ok (.invokevirtual 43, 3) := by decide +kernel
theorem dX0_playPairs_33 : decode cX0_playPairs 33 = .ok (.istore 6, 2) := by decide +kernel
theorem dX0_playPairs_35 : decode cX0_playPairs 35 = .ok (.iload 5, 2) := by decide +kernel
theorem dX0_playPairs_37 : decode cX0_playPairs 37 = .ok (.ifCond .lt 37, 3) := by decide +kernel
theorem dX0_playPairs_40 : decode cX0_playPairs 40 = .ok (.iload 5, 2) := by decide +kernel
theorem dX0_playPairs_42 : decode cX0_playPairs 42 = .ok (.aload_n 0, 1) := by decide +kernel
theorem dX0_playPairs_43 : decode cX0_playPairs 43 = .ok (.getfield 37, 3) := by decide +kernel
theorem dX0_playPairs_46 : decode cX0_playPairs 46 = .ok (.if_icmp .ge 28, 3) := by decide +kernel
theorem dX0_playPairs_49 : decode cX0_playPairs 49 = .ok (.aload_n 0, 1) := by decide +kernel
theorem dX0_playPairs_50 : decode cX0_playPairs 50 = .ok (.getfield 18, 3) := by decide +kernel
theorem dX0_playPairs_53 : decode cX0_playPairs 53 = .ok (.iload 5, 2) := by decide +kernel
theorem dX0_playPairs_55 : decode cX0_playPairs 55 = .ok (.iaload, 1) := by decide +kernel
theorem dX0_playPairs_56 : decode cX0_playPairs 56 = .ok (.iload 4, 2) := by decide +kernel
theorem dX0_playPairs_58 : decode cX0_playPairs 58 = .ok (.iconst 2, 1) := by decide +kernel
theorem dX0_playPairs_59 : decode cX0_playPairs 59 = .ok (.irem, 1) := by decide +kernel
theorem dX0_playPairs_60 : decode cX0_playPairs 60 = .ok (.if_icmp .ne 14, 3) := by decide +kernel
theorem dX0_playPairs_63 : decode cX0_playPairs 63 = .ok (.aload_n 0, 1) := by decide +kernel
theorem dX0_playPairs_64 : decode cX0_playPairs 64 = .ok (.iload 5, 2) := by decide +kernel
theorem dX0_playPairs_66 : decode cX0_playPairs 66 = .ok (.iload 6, 2) := by decide +kernel
theorem dX0_playPairs_68 : decode cX0_playPairs 68 = .ok (.invokevirtual 87, 3) := by decide +kernel
theorem dX0_playPairs_71 : decode cX0_playPairs 71 = .ok (.ifCond .ne 6, 3) := by decide +kernel
theorem dX0_playPairs_74 : decode cX0_playPairs 74 = .ok (.iload 4, 2) := by decide +kernel
theorem dX0_playPairs_76 : decode cX0_playPairs 76 = .ok (.ireturn, 1) := by decide +kernel
theorem dX0_playPairs_77 : decode cX0_playPairs 77 = .ok (.aload_n 0, 1) := by decide +kernel
theorem dX0_playPairs_78 : decode cX0_playPairs 78 = .ok (.iload 5, 2) := by decide +kernel
theorem dX0_playPairs_80 : decode cX0_playPairs 80 = .ok (.iload 6, 2) := by decide +kernel
theorem dX0_playPairs_82 : decode cX0_playPairs 82 = .ok (.invokevirtual 91, 3) := by decide +kernel
theorem dX0_playPairs_85 : decode cX0_playPairs 85 = .ok (.iinc 4 1, 3) := by decide +kernel
theorem dX0_playPairs_88 : decode cX0_playPairs 88 = .ok (.goto (-85), 3) := by decide +kernel
theorem dX0_playPairs_91 : decode cX0_playPairs 91 = .ok (.bipush (-9), 2) := by decide +kernel
theorem dX0_playPairs_93 : decode cX0_playPairs 93 = .ok (.ireturn, 1) := by decide +kernel
theorem dX0_choiceOf_0 : decode cX0_choiceOf 0 = .ok (.iload_n 0, 1) := by decide +kernel
theorem dX0_choiceOf_1 : decode cX0_choiceOf 1 = .ok (.bipush 18, 2) := by decide +kernel
theorem dX0_choiceOf_3 : decode cX0_choiceOf 3 = .ok (.imul, 1) := by decide +kernel
theorem dX0_choiceOf_4 : decode cX0_choiceOf 4 = .ok (.bipush 18, 2) := by decide +kernel
theorem dX0_choiceOf_6 : decode cX0_choiceOf 6 = .ok (.iadd, 1) := by decide +kernel
theorem dX0_choiceOf_7 : decode cX0_choiceOf 7 = .ok (.iconst 1, 1) := by decide +kernel
theorem dX0_choiceOf_8 : decode cX0_choiceOf 8 = .ok (.isub, 1) := by decide +kernel
theorem dX0_choiceOf_9 : decode cX0_choiceOf 9 = .ok (.iload_n 1, 1) := by decide +kernel
theorem dX0_choiceOf_10 : decode cX0_choiceOf 10 = .ok (.isub, 1) := by decide +kernel
theorem dX0_choiceOf_11 : decode cX0_choiceOf 11 = .ok (.ireturn, 1) := by decide +kernel
theorem dX0_leadOfChoice_0 : decode cX0_leadOfChoice 0 = .ok (.iload_n 0, 1) := by decide +kernel
theorem dX0_leadOfChoice_1 : decode cX0_leadOfChoice 1 = .ok (.bipush 18, 2) := by decide +kernel
theorem dX0_leadOfChoice_3 : decode cX0_leadOfChoice 3 = .ok (.idiv, 1) := by decide +kernel
theorem dX0_leadOfChoice_4 : decode cX0_leadOfChoice 4 = .ok (.ireturn, 1) := by decide +kernel
theorem dX0_moveOfChoice_0 : decode cX0_moveOfChoice 0 = .ok (.bipush 17, 2) := by decide +kernel
theorem dX0_moveOfChoice_2 : decode cX0_moveOfChoice 2 = .ok (.iload_n 0, 1) := by decide +kernel
theorem dX0_moveOfChoice_3 : decode cX0_moveOfChoice 3 = .ok (.bipush 18, 2) := by decide +kernel
theorem dX0_moveOfChoice_5 : decode cX0_moveOfChoice 5 = .ok (.irem, 1) := by decide +kernel
theorem dX0_moveOfChoice_6 : decode cX0_moveOfChoice 6 = .ok (.isub, 1) := by decide +kernel
theorem dX0_moveOfChoice_7 : decode cX0_moveOfChoice 7 = .ok (.ireturn, 1) := by decide +kernel
set_option maxRecDepth 20000 in
theorem ggX0_canMove_X0_canDo : GoodIn wsX0_canMove wsX0_canDo := goodIn_r _ [6, 7, 8, 9, 10, 11, 5, 12, 13, 14, 15, 16, 17, 18, 19, 20, 21] (by decide +kernel) (by decide +kernel)
set_option maxRecDepth 20000 in
theorem gX0_canMove_X0_canDo : GoodIn wsX0_canMove (wsV RX0 87 RX0 yX0_canDo wsX0_canDo) := goodIn_app (goodIn_of _ (by decide +kernel)) ggX0_canMove_X0_canDo
theorem dX0_canMove_0 : decode cX0_canMove 0 = .ok (.aload_n 0, 1) := by decide +kernel
theorem dX0_canMove_1 : decode cX0_canMove 1 = .ok (.getfield 18, 3) := by decide +kernel
theorem dX0_canMove_4 : decode cX0_canMove 4 = .ok (.iload_n 2, 1) := by decide +kernel
theorem dX0_canMove_5 : decode cX0_canMove 5 = .ok (.iconst 3, 1) := by decide +kernel
theorem dX0_canMove_6 : decode cX0_canMove 6 = .ok (.idiv, 1) := by decide +kernel
theorem dX0_canMove_7 : decode cX0_canMove 7 = .ok (.iaload, 1) := by decide +kernel
theorem dX0_canMove_8 : decode cX0_canMove 8 = .ok (.iload_n 1, 1) := by decide +kernel
theorem dX0_canMove_9 : decode cX0_canMove 9 = .ok (.if_icmp .ne 20, 3) := by decide +kernel
theorem dX0_canMove_12 : decode cX0_canMove 12 = .ok (.aload_n 0, 1) := by decide +kernel
theorem dX0_canMove_13 : decode cX0_canMove 13 = .ok (.iload_n 2, 1) := by decide +kernel
theorem dX0_canMove_14 : decode cX0_canMove 14 = .ok (.iconst 3, 1) := by decide +kernel
theorem dX0_canMove_15 : decode cX0_canMove 15 = .ok (.idiv, 1) := by decide +kernel
theorem dX0_canMove_16 : decode cX0_canMove 16 = .ok (.iload_n 2, 1) := by decide +kernel
theorem dX0_canMove_17 : decode cX0_canMove 17 = .ok (.iconst 3, 1) := by decide +kernel
theorem dX0_canMove_18 : decode cX0_canMove 18 = .ok (.irem, 1) := by decide +kernel
theorem dX0_canMove_19 : decode cX0_canMove 19 = .ok (.invokevirtual 87, 3) := by decide +kernel
theorem dX0_canMove_22 : decode cX0_canMove 22 = .ok (.ifCond .eq 7, 3) := by decide +kernel
theorem dX0_canMove_25 : decode cX0_canMove 25 = .ok (.iconst 1, 1) := by decide +kernel
theorem dX0_canMove_26 : decode cX0_canMove 26 = .ok (.goto 4, 3) := by decide +kernel
theorem dX0_canMove_29 : decode cX0_canMove 29 = .ok (.iconst 0, 1) := by decide +kernel
theorem dX0_canMove_30 : decode cX0_canMove 30 = .ok (.ireturn, 1) := by decide +kernel
set_option maxRecDepth 20000 in
theorem ggX0_goodChoice_X0_canMove : GoodIn wsX0_goodChoice wsX0_canMove := goodIn_r _ [10, 11, 12, 13, 14, 9, 15, 16, 17, 18, 19, 20, 21, 22, 49, 50, 51, 52, 53, 54, 55, 56] (by decide +kernel) (by decide +kernel)
set_option maxRecDepth 20000 in
theorem gX0_goodChoice_X0_canMove : GoodIn wsX0_goodChoice (wsV RX0 94 RX0 yX0_canMove wsX0_canMove) := goodIn_app (goodIn_of _ (by decide +kernel)) ggX0_goodChoice_X0_canMove
set_option maxRecDepth 20000 in
theorem ggX0_goodChoice_X0_doAct : GoodIn wsX0_goodChoice wsX0_doAct := goodIn_r _ [26, 16, 22, 49, 50, 51, 52, 53, 54, 55, 56] (by decide +kernel) (by decide +kernel)
set_option maxRecDepth 20000 in
theorem gX0_goodChoice_X0_doAct : GoodIn wsX0_goodChoice (wsV RX0 91 RX0 yX0_doAct wsX0_doAct) := goodIn_app (goodIn_of _ (by decide +kernel)) ggX0_goodChoice_X0_doAct
set_option maxRecDepth 20000 in
theorem ggX0_goodChoice_X0_leadOf : GoodIn wsX0_goodChoice wsX0_leadOf := goodIn_r _ [30, 17, 31, 32, 33, 34, 9, 35, 1, 16, 11, 36, 37, 38, 39, 40, 41, 18, 19, 20, 21, 22, 49, 50, 51, 52, 53, 54, 55, 56] (by decide +kernel) (by decide +kernel)
set_option maxRecDepth 20000 in
theorem gX0_goodChoice_X0_leadOf : GoodIn wsX0_goodChoice (wsV RX0 97 RX0 yX0_leadOf wsX0_leadOf) := goodIn_app (goodIn_of _ (by decide +kernel)) ggX0_goodChoice_X0_leadOf
set_option maxRecDepth 20000 in
theorem ggX0_goodChoice_X0_choiceOf : GoodIn wsX0_goodChoice wsX0_choiceOf := goodIn_r _ [44] (by decide +kernel) (by decide +kernel)
set_option maxRecDepth 20000 in
theorem gX0_goodChoice_X0_choiceOf : GoodIn wsX0_goodChoice (va_wsS RX0 100 yX0_choiceOf wsX0_choiceOf) := goodIn_app (goodIn_of _ (by decide +kernel)) ggX0_goodChoice_X0_choiceOf
set_option maxRecDepth 20000 in
theorem ggX0_goodChoice_X0_undoAct : GoodIn wsX0_goodChoice wsX0_undoAct := goodIn_r _ [48, 16, 22, 49, 50, 51, 52, 53, 54, 55, 56] (by decide +kernel) (by decide +kernel)
set_option maxRecDepth 20000 in
theorem gX0_goodChoice_X0_undoAct : GoodIn wsX0_goodChoice (wsV RX0 106 RX0 yX0_undoAct wsX0_undoAct) := goodIn_app (goodIn_of _ (by decide +kernel)) ggX0_goodChoice_X0_undoAct
theorem dX0_goodChoice_0 : decode cX0_goodChoice 0 = .ok (.bipush (-9), 2) := by decide +kernel
theorem dX0_goodChoice_2 : decode cX0_goodChoice 2 = .ok (.istore_n 2, 1) := by decide +kernel
theorem dX0_goodChoice_3 : decode cX0_goodChoice 3 = .ok (.iconst 0, 1) := by decide +kernel
theorem dX0_goodChoice_4 : decode cX0_goodChoice 4 = .ok (.istore_n 3, 1) := by decide +kernel
theorem dX0_goodChoice_5 : decode cX0_goodChoice 5 = .ok (.iload_n 3, 1) := by decide +kernel
theorem dX0_goodChoice_6 : decode cX0_goodChoice 6 = .ok (.aload_n 0, 1) := by decide +kernel
theorem dX0_goodChoice_7 : decode cX0_goodChoice 7 = .ok (.getfield 37, 3) := by decide +kernel
theorem dX0_goodChoice_10 : decode cX0_goodChoice 10 = .ok (.iconst 3, 1) := by decide +kernel
theorem dX0_goodChoice_11 : decode cX0_goodChoice 11 = .ok (.imul, 1) := by decide +kernel
theorem dX0_goodChoice_12 : decode cX0_goodChoice 12 = .ok (.if_icmp .ge 52, 3) := by decide +kernel
theorem dX0_goodChoice_15 : decode cX0_goodChoice 15 = .ok (.aload_n 0, 1) := by decide +kernel
theorem dX0_goodChoice_16 : decode cX0_goodChoice 16 = .ok (.iload_n 1, 1) := by decide +kernel
theorem dX0_goodChoice_17 : decode cX0_goodChoice 17 = .ok (.iload_n 3, 1) := by decide +kernel
theorem dX0_goodChoice_18 : decode cX0_goodChoice 18 = .ok (.invokevirtual 94, 3) := by decide +kernel
theorem dX0_goodChoice_21 : decode cX0_goodChoice 21 = .ok (.ifCond .eq 37, 3) := by decide +kernel
theorem dX0_goodChoice_24 : decode cX0_goodChoice 24 = .ok (.aload_n 0, 1) := by decide +kernel
theorem dX0_goodChoice_25 : decode cX0_goodChoice 25 = .ok (.iload_n 3, 1) := by decide +kernel
theorem dX0_goodChoice_26 : decode cX0_goodChoice 26 = .ok (.iconst 3, 1) := by decide +kernel
theorem dX0_goodChoice_27 : decode cX0_goodChoice 27 = .ok (.idiv, 1) := by decide +kernel
theorem dX0_goodChoice_28 : decode cX0_goodChoice 28 = .ok (.iload_n 3, 1) := by decide +kernel
theorem dX0_goodChoice_29 : decode cX0_goodChoice 29 = .ok (.iconst 3, 1) := by decide +kernel
theorem dX0_goodChoice_30 : decode cX0_goodChoice 30 = .ok (.irem, 1) := by decide +kernel
theorem dX0_goodChoice_31 : decode cX0_goodChoice 31 = .ok (.invokevirtual 91, 3) := by decide +kernel
theorem dX0_goodChoice_34 : decode cX0_goodChoice 34 = .ok (.iload_n 2, 1) := by decide +kernel
theorem dX0_goodChoice_35 : decode cX0_goodChoice 35 = .ok (.aload_n 0, 1) := by decide +kernel
theorem dX0_goodChoice_36 : decode cX0_goodChoice 36 = .ok (.iload_n 1, 1) := by decide +kernel
theorem dX0_goodChoice_37 : decode cX0_goodChoice 37 = .ok (.invokevirtual 97, 3) := by decide +kernel
theorem dX0_goodChoice_40 : decode cX0_goodChoice 40 = .ok (.iload_n 3, 1) := by decide +kernel
theorem dX0_goodChoice_41 : decode cX0_goodChoice 41 = .ok (.invokestatic 100, 3) := by decide +kernel
theorem dX0_goodChoice_44 : decode cX0_goodChoice 44 = .ok (.invokestatic 103, 3) := by decide +kernel
theorem dX0_goodChoice_47 : decode cX0_goodChoice 47 = .ok (.istore_n 2, 1) := by decide +kernel
theorem dX0_goodChoice_48 : decode cX0_goodChoice 48 = .ok (.aload_n 0, 1) := by decide +kernel
theorem dX0_goodChoice_49 : decode cX0_goodChoice 49 = .ok (.iload_n 3, 1) := by decide +kernel
theorem dX0_goodChoice_50 : decode cX0_goodChoice 50 = .ok (.iconst 3, 1) := by decide +kernel
theorem dX0_goodChoice_51 : decode cX0_goodChoice 51 = .ok (.idiv, 1) := by decide +kernel
theorem dX0_goodChoice_52 : decode cX0_goodChoice 52 = .ok (.iload_n 3, 1) := by decide +kernel
theorem dX0_goodChoice_53 : decode cX0_goodChoice 53 = .ok (.iconst 3, 1) := by decide +kernel
theorem dX0_goodChoice_54 : decode cX0_goodChoice 54 = .ok (.irem, 1) := by decide +kernel
theorem dX0_goodChoice_55 : decode cX0_goodChoice 55 = .ok (.invokevirtual 106, 3) := by decide +kernel
theorem dX0_goodChoice_58 : decode cX0_goodChoice 58 = .ok (.iinc 3 1, 3) := by decide +kernel
theorem dX0_goodChoice_61 : decode cX0_goodChoice 61 = .ok (.goto (-56), 3) := by decide +kernel
theorem dX0_goodChoice_64 : decode cX0_goodChoice 64 = .ok (.iload_n 2, 1) := by decide +kernel
theorem dX0_goodChoice_65 : decode cX0_goodChoice 65 = .ok (.ireturn, 1) := by decide +kernel
set_option maxRecDepth 20000 in
theorem ggX0_safeChoice_X0_canMove : GoodIn wsX0_safeChoice wsX0_canMove := goodIn_r _ [10, 11, 12, 13, 14, 9, 15, 16, 17, 18, 19, 20, 21, 22, 56, 57, 58, 59, 60, 61, 62, 63] (by decide +kernel) (by decide +kernel)
set_option maxRecDepth 20000 in
theorem gX0_safeChoice_X0_canMove : GoodIn wsX0_safeChoice (wsV RX0 94 RX0 yX0_canMove wsX0_canMove) := goodIn_app (goodIn_of _ (by decide +kernel)) ggX0_safeChoice_X0_canMove
set_option maxRecDepth 20000 in
theorem ggX0_safeChoice_X0_doAct : GoodIn wsX0_safeChoice wsX0_doAct := goodIn_r _ [26, 16, 22, 56, 57, 58, 59, 60, 61, 62, 63] (by decide +kernel) (by decide +kernel)
set_option maxRecDepth 20000 in
theorem gX0_safeChoice_X0_doAct : GoodIn wsX0_safeChoice (wsV RX0 91 RX0 yX0_doAct wsX0_doAct) := goodIn_app (goodIn_of _ (by decide +kernel)) ggX0_safeChoice_X0_doAct
set_option maxRecDepth 20000 in
theorem ggX0_safeChoice_X0_goodChoice : GoodIn wsX0_safeChoice wsX0_goodChoice := goodIn_r _ [30, 1, 2, 3, 4, 5, 6, 7, 8, 9, 10, 11, 12, 13, 14, 15, 16, 17, 18, 19, 20, 21, 22, 23, 24, 25, 26, 31, 32, 33, 34, 35, 36, 37, 38, 39, 40, 41, 42, 43, 44, 45, 46, 47, 48, 49, 50, 51, 52, 56, 57, 58, 59, 60, 61, 62, 63] (by decide +kernel) (by decide +kernel)
set_option maxRecDepth 20000 in
theorem gX0_safeChoice_X0_goodChoice : GoodIn wsX0_safeChoice (wsV RX0 109 RX0 yX0_goodChoice wsX0_goodChoice) := goodIn_app (goodIn_of _ (by decide +kernel)) ggX0_safeChoice_X0_goodChoice
set_option maxRecDepth 20000 in
theorem ggX0_safeChoice_X0_leadOf : GoodIn wsX0_safeChoice wsX0_leadOf := goodIn_r _ [34, 17, 35, 36, 37, 38, 9, 39, 1, 16, 11, 40, 41, 42, 43, 44, 45, 18, 19, 20, 21, 22, 56, 57, 58, 59, 60, 61, 62, 63] (by decide +kernel) (by decide +kernel)
set_option maxRecDepth 20000 in
theorem gX0_safeChoice_X0_leadOf : GoodIn wsX0_safeChoice (wsV RX0 97 RX0 yX0_leadOf wsX0_leadOf) := goodIn_app (goodIn_of _ (by decide +kernel)) ggX0_safeChoice_X0_leadOf
set_option maxRecDepth 20000 in
theorem ggX0_safeChoice_X0_leadOfChoice : GoodIn wsX0_safeChoice wsX0_leadOfChoice := goodIn_r _ [55] (by decide +kernel) (by decide +kernel)
set_option maxRecDepth 20000 in
theorem gX0_safeChoice_X0_leadOfChoice : GoodIn wsX0_safeChoice (va_wsS RX0 112 yX0_leadOfChoice wsX0_leadOfChoice) := goodIn_app (goodIn_of _ (by decide +kernel)) ggX0_safeChoice_X0_leadOfChoice
set_option maxRecDepth 20000 in
theorem ggX0_safeChoice_X0_choiceOf : GoodIn wsX0_safeChoice wsX0_choiceOf := goodIn_r _ [48] (by decide +kernel) (by decide +kernel)
set_option maxRecDepth 20000 in
theorem gX0_safeChoice_X0_choiceOf : GoodIn wsX0_safeChoice (va_wsS RX0 100 yX0_choiceOf wsX0_choiceOf) := goodIn_app (goodIn_of _ (by decide +kernel)) ggX0_safeChoice_X0_choiceOf
set_option maxRecDepth 20000 in
theorem ggX0_safeChoice_X0_undoAct : GoodIn wsX0_safeChoice wsX0_undoAct := goodIn_r _ [52, 16, 22, 56, 57, 58, 59, 60, 61, 62, 63] (by decide +kernel) (by decide +kernel)
set_option maxRecDepth 20000 in
theorem gX0_safeChoice_X0_undoAct : GoodIn wsX0_safeChoice (wsV RX0 106 RX0 yX0_undoAct wsX0_undoAct) := goodIn_app (goodIn_of _ (by decide +kernel)) ggX0_safeChoice_X0_undoAct
theorem dX0_safeChoice_0 : decode cX0_safeChoice 0 = .ok (.bipush (-9), 2) := by decide +kernel
theorem dX0_safeChoice_2 : decode cX0_safeChoice 2 = .ok (.istore_n 2, 1) := by decide +kernel
theorem dX0_safeChoice_3 : decode cX0_safeChoice 3 = .ok (.iconst 0, 1) := by decide +kernel
theorem dX0_safeChoice_4 : decode cX0_safeChoice 4 = .ok (.istore_n 3, 1) := by decide +kernel
theorem dX0_safeChoice_5 : decode cX0_safeChoice 5 = .ok (.iload_n 3, 1) := by decide +kernel
theorem dX0_safeChoice_6 : decode cX0_safeChoice 6 = .ok (.aload_n 0, 1) := by decide +kernel
theorem dX0_safeChoice_7 : decode cX0_safeChoice 7 = .ok (.getfield 37, 3) := by decide +kernel
theorem dX0_safeChoice_10 : decode cX0_safeChoice 10 = .ok (.iconst 3, 1) := by decide +kernel
theorem dX0_safeChoice_11 : decode cX0_safeChoice 11 = .ok (.imul, 1) := by decide +kernel
theorem dX0_safeChoice_12 : decode cX0_safeChoice 12 = .ok (.if_icmp .ge 84, 3) := by decide +kernel
theorem dX0_safeChoice_15 : decode cX0_safeChoice 15 = .ok (.aload_n 0, 1) := by decide +kernel
theorem dX0_safeChoice_16 : decode cX0_safeChoice 16 = .ok (.iload_n 1, 1) := by decide +kernel
theorem dX0_safeChoice_17 : decode cX0_safeChoice 17 = .ok (.iload_n 3, 1) := by decide +kernel
theorem dX0_safeChoice_18 : decode cX0_safeChoice 18 = .ok (.invokevirtual 94, 3) := by decide +kernel
theorem dX0_safeChoice_21 : decode cX0_safeChoice 21 = .ok (.ifCond .eq 69, 3) := by decide +kernel
theorem dX0_safeChoice_24 : decode cX0_safeChoice 24 = .ok (.aload_n 0, 1) := by decide +kernel
theorem dX0_safeChoice_25 : decode cX0_safeChoice 25 = .ok (.iload_n 3, 1) := by decide +kernel
theorem dX0_safeChoice_26 : decode cX0_safeChoice 26 = .ok (.iconst 3, 1) := by decide +kernel
theorem dX0_safeChoice_27 : decode cX0_safeChoice 27 = .ok (.idiv, 1) := by decide +kernel
theorem dX0_safeChoice_28 : decode cX0_safeChoice 28 = .ok (.iload_n 3, 1) := by decide +kernel
theorem dX0_safeChoice_29 : decode cX0_safeChoice 29 = .ok (.iconst 3, 1) := by decide +kernel
theorem dX0_safeChoice_30 : decode cX0_safeChoice 30 = .ok (.irem, 1) := by decide +kernel
theorem dX0_safeChoice_31 : decode cX0_safeChoice 31 = .ok (.invokevirtual 91, 3) := by decide +kernel
theorem dX0_safeChoice_34 : decode cX0_safeChoice 34 = .ok (.aload_n 0, 1) := by decide +kernel
theorem dX0_safeChoice_35 : decode cX0_safeChoice 35 = .ok (.iconst 1, 1) := by decide +kernel
theorem dX0_safeChoice_36 : decode cX0_safeChoice 36 = .ok (.iload_n 1, 1) := by decide +kernel
theorem dX0_safeChoice_37 : decode cX0_safeChoice 37 = .ok (.isub, 1) := by decide +kernel
theorem dX0_safeChoice_38 : decode cX0_safeChoice 38 = .ok (.invokevirtual 109, 3) := by decide +kernel
theorem dX0_safeChoice_41 : decode cX0_safeChoice 41 = .ok (.istore 4, 2) := by decide +kernel
theorem dX0_safeChoice_43 : decode cX0_safeChoice 43 = .ok (.iload 4, 2) := by decide +kernel
theorem dX0_safeChoice_45 : decode cX0_safeChoice 45 = .ok (.bipush (-9), 2) := by decide +kernel
theorem dX0_safeChoice_47 : decode cX0_safeChoice 47 = .ok (.if_icmp .ne 11, 3) := by decide +kernel
theorem dX0_safeChoice_50 : decode cX0_safeChoice 50 = .ok (.aload_n 0, 1) := by decide +kernel
theorem dX0_safeChoice_51 : decode cX0_safeChoice 51 = .ok (.iload_n 1, 1) := by decide +kernel
theorem dX0_safeChoice_52 : decode cX0_safeChoice 52 = .ok (.invokevirtual 97, 3) := by decide +kernel
theorem dX0_safeChoice_55 : decode cX0_safeChoice 55 = .ok (.goto 12, 3) := by decide +kernel
theorem dX0_safeChoice_58 : decode cX0_safeChoice 58 = .ok (.sipush 200, 3) := by decide +kernel
theorem dX0_safeChoice_61 : decode cX0_safeChoice 61 = .ok (.iload 4, 2) := by decide +kernel
theorem dX0_safeChoice_63 : decode cX0_safeChoice 63 = .ok (.invokestatic 112, 3) := by decide +kernel
theorem dX0_safeChoice_66 : decode cX0_safeChoice 66 = .ok (.isub, 1) := by decide +kernel
theorem dX0_safeChoice_67 : decode cX0_safeChoice 67 = .ok (.istore 5, 2) := by decide +kernel
theorem dX0_safeChoice_69 : decode cX0_safeChoice 69 = .ok (.iload_n 2, 1) := by decide +kernel
theorem dX0_safeChoice_70 : decode cX0_safeChoice 70 = .ok (.iload 5, 2) := by decide +kernel
theorem dX0_safeChoice_72 : decode cX0_safeChoice 72 = .ok (.iload_n 3, 1) := by decide +kernel
theorem dX0_safeChoice_73 : decode cX0_safeChoice 73 = .ok (.invokestatic 100, 3) := by decide +kernel
theorem dX0_safeChoice_76 : decode cX0_safeChoice 76 = .ok (.invokestatic 103, 3) := by decide +kernel
theorem dX0_safeChoice_79 : decode cX0_safeChoice 79 = .ok (.istore_n 2, 1) := by decide +kernel
theorem dX0_safeChoice_80 : decode cX0_safeChoice 80 = .ok (.aload_n 0, 1) := by decide +kernel
theorem dX0_safeChoice_81 : decode cX0_safeChoice 81 = .ok (.iload_n 3, 1) := by decide +kernel
theorem dX0_safeChoice_82 : decode cX0_safeChoice 82 = .ok (.iconst 3, 1) := by decide +kernel
theorem dX0_safeChoice_83 : decode cX0_safeChoice 83 = .ok (.idiv, 1) := by decide +kernel
theorem dX0_safeChoice_84 : decode cX0_safeChoice 84 = .ok (.iload_n 3, 1) := by decide +kernel
theorem dX0_safeChoice_85 : decode cX0_safeChoice 85 = .ok (.iconst 3, 1) := by decide +kernel
theorem dX0_safeChoice_86 : decode cX0_safeChoice 86 = .ok (.irem, 1) := by decide +kernel
theorem dX0_safeChoice_87 : decode cX0_safeChoice 87 = .ok (.invokevirtual 106, 3) := by decide +kernel
theorem dX0_safeChoice_90 : decode cX0_safeChoice 90 = .ok (.iinc 3 1, 3) := by decide +kernel
theorem dX0_safeChoice_93 : decode cX0_safeChoice 93 = .ok (.goto (-88), 3) := by decide +kernel
theorem dX0_safeChoice_96 : decode cX0_safeChoice 96 = .ok (.iload_n 2, 1) := by decide +kernel
theorem dX0_safeChoice_97 : decode cX0_safeChoice 97 = .ok (.ireturn, 1) := by decide +kernel
set_option maxRecDepth 20000 in
theorem ggX0_fewestSteps_X0_mightIn : GoodIn wsX0_fewestSteps wsX0_mightIn := goodIn_r _ [12, 1, 2, 3, 13, 14, 15, 11, 16, 17, 18, 19, 20, 21, 22, 23, 24, 25, 26, 27, 28, 29, 30, 31] (by decide +kernel) (by decide +kernel)
set_option maxRecDepth 20000 in
theorem gX0_fewestSteps_X0_mightIn : GoodIn wsX0_fewestSteps (wsV RX0 115 RX0 yX0_mightIn wsX0_mightIn) := goodIn_app (goodIn_of _ (by decide +kernel)) ggX0_fewestSteps_X0_mightIn
set_option maxRecDepth 20000 in
theorem ggX0_fewestSteps_X0_isEaten : GoodIn wsX0_fewestSteps wsX0_isEaten := goodIn_r _ [22, 23, 24, 25, 26, 27, 28, 29, 30, 31] (by decide +kernel) (by decide +kernel)
set_option maxRecDepth 20000 in
theorem gX0_fewestSteps_X0_isEaten : GoodIn wsX0_fewestSteps (wsV RX0 78 RX0 yX0_isEaten wsX0_isEaten) := goodIn_app (goodIn_of _ (by decide +kernel)) ggX0_fewestSteps_X0_isEaten
set_option maxRecDepth 20000 in
theorem ggX0_fewestSteps_X0_mightOf : GoodIn wsX0_fewestSteps wsX0_mightOf := goodIn_r _ [16, 17, 18, 19, 20, 21, 11, 22, 23, 24, 25, 26, 27, 28, 29, 30, 31] (by decide +kernel) (by decide +kernel)
set_option maxRecDepth 20000 in
theorem gX0_fewestSteps_X0_mightOf : GoodIn wsX0_fewestSteps (wsV RX0 81 RX0 yX0_mightOf wsX0_mightOf) := goodIn_app (goodIn_of _ (by decide +kernel)) ggX0_fewestSteps_X0_mightOf
theorem dX0_fewestSteps_0 : decode cX0_fewestSteps 0 = .ok (.aload_n 0, 1) := by decide +kernel
theorem dX0_fewestSteps_1 : decode cX0_fewestSteps 1 = .ok (.iconst 1, 1) := by decide +kernel
theorem dX0_fewestSteps_2 : decode cX0_fewestSteps 2 = .ok (.iload_n 1, 1) := by decide +kernel
theorem dX0_fewestSteps_3 : decode cX0_fewestSteps 3 = .ok (.isub, 1) := by decide +kernel
theorem dX0_fewestSteps_4 : decode cX0_fewestSteps 4 = .ok (.iload_n 2, 1) := by decide +kernel
theorem dX0_fewestSteps_5 : decode cX0_fewestSteps 5 = .ok (.invokevirtual 115, 3) := by decide +kernel
theorem dX0_fewestSteps_8 : decode cX0_fewestSteps 8 = .ok (.istore_n 3, 1) := by decide +kernel
theorem dX0_fewestSteps_9 : decode cX0_fewestSteps 9 = .ok (.bipush (-9), 2) := by decide +kernel
theorem dX0_fewestSteps_11 : decode cX0_fewestSteps 11 = .ok (.istore 4, 2) := by decide +kernel
theorem dX0_fewestSteps_13 : decode cX0_fewestSteps 13 = .ok (.iconst 0, 1) := by decide +kernel
theorem dX0_fewestSteps_14 : decode cX0_fewestSteps 14 = .ok (.istore 5, 2) := by decide +kernel
theorem dX0_fewestSteps_16 : decode cX0_fewestSteps 16 = .ok (.iload 5, 2) := by decide +kernel
theorem dX0_fewestSteps_18 : decode cX0_fewestSteps 18 = .ok (.iconst 1, 1) := by decide +kernel
theorem dX0_fewestSteps_19 : decode cX0_fewestSteps 19 = .ok (.aload_n 0, 1) := by decide +kernel
theorem dX0_fewestSteps_20 : decode cX0_fewestSteps 20 = .ok (.getfield 37, 3) := by decide +kernel
theorem dX0_fewestSteps_23 : decode cX0_fewestSteps 23 = .ok (.ishl, 1) := by decide +kernel
theorem dX0_fewestSteps_24 : decode cX0_fewestSteps 24 = .ok (.if_icmp .ge 116, 3) := by decide +kernel
theorem dX0_fewestSteps_27 : decode cX0_fewestSteps 27 = .ok (.iconst 0, 1) := by decide +kernel
theorem dX0_fewestSteps_28 : decode cX0_fewestSteps 28 = .ok (.istore 6, 2) := by decide +kernel
theorem dX0_fewestSteps_30 : decode cX0_fewestSteps 30 = .ok (.iconst 0, 1) := by decide +kernel
theorem dX0_fewestSteps_31 : decode cX0_fewestSteps 31 = .ok (.istore 7, 2) := by decide +kernel
theorem dX0_fewestSteps_33 : decode cX0_fewestSteps 33 = .ok (.iconst 0, 1) := by decide +kernel
theorem dX0_fewestSteps_34 : decode cX0_fewestSteps 34 = .ok (.istore 8, 2) := by decide +kernel
theorem dX0_fewestSteps_36 : decode cX0_fewestSteps 36 = .ok (.iload 8, 2) := by decide +kernel
theorem dX0_fewestSteps_38 : decode cX0_fewestSteps 38 = .ok (.aload_n 0, 1) := by decide +kernel
theorem dX0_fewestSteps_39 : decode cX0_fewestSteps 39 = .ok (.getfield 37, 3) := by decide +kernel
theorem dX0_fewestSteps_42 : decode cX0_fewestSteps 42 = .ok (.if_icmp .ge 68, 3) := by decide +kernel
theorem dX0_fewestSteps_45 : decode cX0_fewestSteps 45 = .ok (.iload 5, 2) := by decide +kernel
theorem dX0_fewestSteps_47 : decode cX0_fewestSteps 47 = .ok (.iload 8, 2) := by decide +kernel
theorem dX0_fewestSteps_49 : decode cX0_fewestSteps 49 = .ok (.ishr, 1) := by decide +kernel
theorem dX0_fewestSteps_50 : decode cX0_fewestSteps 50 = .ok (.iconst 1, 1) := by decide +kernel
theorem dX0_fewestSteps_51 : decode cX0_fewestSteps 51 = .ok (.iand, 1) := by decide +kernel
theorem dX0_fewestSteps_52 : decode cX0_fewestSteps 52 = .ok (.iconst 1, 1) := by decide +kernel
theorem dX0_fewestSteps_53 : decode cX0_fewestSteps 53 = .ok (.if_icmp .ne 51, 3) := by decide +kernel
theorem dX0_fewestSteps_56 : decode cX0_fewestSteps 56 = .ok (.aload_n 0, 1) := by decide +kernel
theorem dX0_fewestSteps_57 : decode cX0_fewestSteps 57 = .ok (.getfield 18, 3) := by decide +kernel
theorem dX0_fewestSteps_60 : decode cX0_fewestSteps 60 = .ok (.iload 8, 2) := by decide +kernel
theorem dX0_fewestSteps_62 : decode cX0_fewestSteps 62 = .ok (.iaload, 1) := by decide +kernel
theorem dX0_fewestSteps_63 : decode cX0_fewestSteps 63 = .ok (.iload_n 1, 1) := by decide +kernel
theorem dX0_fewestSteps_64 : decode cX0_fewestSteps 64 = .ok (.if_icmp .ne 40, 3) := by decide +kernel
theorem dX0_fewestSteps_67 : decode cX0_fewestSteps 67 = .ok (.aload_n 0, 1) := by decide +kernel
theorem dX0_fewestSteps_68 : decode cX0_fewestSteps 68 = .ok (.iload 8, 2) := by decide +kernel
theorem dX0_fewestSteps_70 : decode cX0_fewestSteps 70 = .ok (.invokevirtual 78, 3) := by decide +kernel
theorem dX0_fewestSteps_73 : decode cX0_fewestSteps 73 = .ok (.ifCond .ne 31, 3) := by decide +kernel
theorem dX0_fewestSteps_76 : decode cX0_fewestSteps 76 = .ok (.iload 6, 2) := by decide +kernel
theorem dX0_fewestSteps_78 : decode cX0_fewestSteps 78 = .ok (.aload_n 0, 1) := by decide +kernel
theorem dX0_fewestSteps_79 : decode cX0_fewestSteps 79 = .ok (.iload 8, 2) := by decide +kernel
theorem dX0_fewestSteps_81 : decode cX0_fewestSteps 81 = .ok (.invokevirtual 81, 3) := by decide +kernel
theorem dX0_fewestSteps_84 : decode cX0_fewestSteps 84 = .ok (.iadd, 1) := by decide +kernel
theorem dX0_fewestSteps_85 : decode cX0_fewestSteps 85 = .ok (.istore 6, 2) := by decide +kernel
theorem dX0_fewestSteps_87 : decode cX0_fewestSteps 87 = .ok (.iload 7, 2) := by decide +kernel
theorem dX0_fewestSteps_89 : decode cX0_fewestSteps 89 = .ok (.aload_n 0, 1) := by decide +kernel
theorem dX0_fewestSteps_90 : decode cX0_fewestSteps 90 = .ok (.getfield 21, 3) := by decide +kernel
theorem dX0_fewestSteps_93 : decode cX0_fewestSteps 93 = .ok (.iload 8, 2) := by decide +kernel
theorem dX0_fewestSteps_95 : decode cX0_fewestSteps 95 = .ok (.iaload, 1) := by decide +kernel
theorem dX0_fewestSteps_96 : decode cX0_fewestSteps 96 = .ok (.iload_n 2, 1) := by decide +kernel
theorem dX0_fewestSteps_97 : decode cX0_fewestSteps 97 = .ok (.isub, 1) := by decide +kernel
theorem dX0_fewestSteps_98 : decode cX0_fewestSteps 98 = .ok (.invokestatic 118, 3) := by decide +kernel
theorem dX0_fewestSteps_101 : decode cX0_fewestSteps 101 = .ok (.iadd, 1) := by decide +kernel
theorem dX0_fewestSteps_102 : decode cX0_fewestSteps 102 = .ok (.istore 7, 2) := by decide +kernel
theorem dX0_fewestSteps_104 : decode cX0_fewestSteps 104 = .ok (.iinc 8 1, 3) := by decide +kernel
theorem dX0_fewestSteps_107 : decode cX0_fewestSteps 107 = .ok (.goto (-71), 3) := by decide +kernel
theorem dX0_fewestSteps_110 : decode cX0_fewestSteps 110 = .ok (.iload 6, 2) := by decide +kernel
theorem dX0_fewestSteps_112 : decode cX0_fewestSteps 112 = .ok (.iload_n 3, 1) := by decide +kernel
theorem dX0_fewestSteps_113 : decode cX0_fewestSteps 113 = .ok (.if_icmp .le 21, 3) := by decide +kernel
theorem dX0_fewestSteps_116 : decode cX0_fewestSteps 116 = .ok (.iload 4, 2) := by decide +kernel
theorem dX0_fewestSteps_118 : decode cX0_fewestSteps 118 = .ok (.bipush (-9), 2) := by decide +kernel
theorem dX0_fewestSteps_120 : decode cX0_fewestSteps 120 = .ok (.if_icmp .eq 10, 3) := by decide +kernel
theorem dX0_fewestSteps_123 : decode cX0_fewestSteps 123 = .ok (.iload 7, 2) := by decide +kernel
theorem dX0_fewestSteps_125 : decode cX0_fewestSteps 125 = .ok (.iload 4, 2) := by decide +kernel
theorem dX0_fewestSteps_127 : decode cX0_fewestSteps 127 = .ok (.if_icmp .ge 7, 3) := by decide +kernel
theorem dX0_fewestSteps_130 : decode cX0_fewestSteps 130 = .ok (.iload 7, 2) := by decide +kernel
theorem dX0_fewestSteps_132 : decode cX0_fewestSteps 132 = .ok (.istore 4, 2) := by decide +kernel
theorem dX0_fewestSteps_134 : decode cX0_fewestSteps 134 = .ok (.iinc 5 1, 3) := by decide +kernel
theorem dX0_fewestSteps_137 : decode cX0_fewestSteps 137 = .ok (.goto (-121), 3) := by decide +kernel
theorem dX0_fewestSteps_140 : decode cX0_fewestSteps 140 = .ok (.iload 4, 2) := by decide +kernel
theorem dX0_fewestSteps_142 : decode cX0_fewestSteps 142 = .ok (.ireturn, 1) := by decide +kernel
set_option maxRecDepth 20000 in
theorem ggX0_countSetsWithLead_X0_leadOf : GoodIn wsX0_countSetsWithLead wsX0_leadOf := goodIn_r _ [7, 8, 9, 10, 11, 12, 6, 13, 2, 14, 15, 16, 17, 18, 19, 20, 21, 22, 23, 24, 25, 1, 26, 27, 28, 29, 30, 31, 32, 33] (by decide +kernel) (by decide +kernel)
set_option maxRecDepth 20000 in
theorem gX0_countSetsWithLead_X0_leadOf : GoodIn wsX0_countSetsWithLead (wsV RX0 97 RX0 yX0_leadOf wsX0_leadOf) := goodIn_app (goodIn_of _ (by decide +kernel)) ggX0_countSetsWithLead_X0_leadOf
theorem dX0_countSetsWithLead_0 : decode cX0_countSetsWithLead 0 = .ok (.aload_n 0, 1) := by decide +kernel
theorem dX0_countSetsWithLead_1 : decode cX0_countSetsWithLead 1 = .ok (.getfield 40, 3) := by decide +kernel
theorem dX0_countSetsWithLead_4 : decode cX0_countSetsWithLead 4 = .ok (.istore_n 2, 1) := by decide +kernel
theorem dX0_countSetsWithLead_5 : decode cX0_countSetsWithLead 5 = .ok (.iconst 0, 1) := by decide +kernel
theorem dX0_countSetsWithLead_6 : decode cX0_countSetsWithLead 6 = .ok (.istore_n 3, 1) := by decide +kernel
theorem dX0_countSetsWithLead_7 : decode cX0_countSetsWithLead 7 = .ok (.iconst 0, 1) := by decide +kernel
theorem dX0_countSetsWithLead_8 : decode cX0_countSetsWithLead 8 = .ok (.istore 4, 2) := by decide +kernel
theorem dX0_countSetsWithLead_10 : decode cX0_countSetsWithLead 10 = .ok (.iload 4, 2) := by decide +kernel
theorem dX0_countSetsWithLead_12 : decode cX0_countSetsWithLead 12 = .ok (.iconst 1, 1) := by decide +kernel
theorem dX0_countSetsWithLead_13 : decode cX0_countSetsWithLead 13 = .ok (.aload_n 0, 1) := by decide +kernel
theorem dX0_countSetsWithLead_14 : decode cX0_countSetsWithLead 14 = .ok (.getfield 37, 3) := by decide +kernel
theorem dX0_countSetsWithLead_17 : decode cX0_countSetsWithLead 17 = .ok (.ishl, 1) := by decide +kernel
theorem dX0_countSetsWithLead_18 : decode cX0_countSetsWithLead 18 = .ok (.if_icmp .ge 30, 3) := by decide +kernel
theorem dX0_countSetsWithLead_21 : decode cX0_countSetsWithLead 21 = .ok (.aload_n 0, 1) := by decide +kernel
theorem dX0_countSetsWithLead_22 : decode cX0_countSetsWithLead 22 = .ok (.iload_n 2, 1) := by decide +kernel
theorem dX0_countSetsWithLead_23 : decode cX0_countSetsWithLead 23 = .ok (.iload 4, 2) := by decide +kernel
theorem dX0_countSetsWithLead_25 : decode cX0_countSetsWithLead 25 = .ok (.ior, 1) := by decide +kernel
theorem dX0_countSetsWithLead_26 : decode cX0_countSetsWithLead 26 = .ok (.putfield 40, 3) := by decide +kernel
theorem dX0_countSetsWithLead_29 : decode cX0_countSetsWithLead 29 = .ok (.aload_n 0, 1) := by decide +kernel
theorem dX0_countSetsWithLead_30 : decode cX0_countSetsWithLead 30 = .ok (.iload_n 1, 1) := by decide +kernel
theorem dX0_countSetsWithLead_31 : decode cX0_countSetsWithLead 31 = .ok (.invokevirtual 97, 3) := by decide +kernel
theorem dX0_countSetsWithLead_34 : decode cX0_countSetsWithLead 34 = .ok (.bipush 100, 2) := by decide +kernel
theorem dX0_countSetsWithLead_36 : decode cX0_countSetsWithLead 36 = .ok (.if_icmp .le 6, 3) := by decide +kernel
theorem dX0_countSetsWithLead_39 : decode cX0_countSetsWithLead 39 = .ok (.iinc 3 1, 3) := by decide +kernel
theorem dX0_countSetsWithLead_42 : decode cX0_countSetsWithLead 42 = .ok (.iinc 4 1, 3) := by decide +kernel
theorem dX0_countSetsWithLead_45 : decode cX0_countSetsWithLead 45 = .ok (.goto (-35), 3) := by decide +kernel
theorem dX0_countSetsWithLead_48 : decode cX0_countSetsWithLead 48 = .ok (.aload_n 0, 1) := by decide +kernel
theorem dX0_countSetsWithLead_49 : decode cX0_countSetsWithLead 49 = .ok (.iload_n 2, 1) := by decide +kernel
theorem dX0_countSetsWithLead_50 : decode cX0_countSetsWithLead 50 = .ok (.putfield 40, 3) := by decide +kernel
theorem dX0_countSetsWithLead_53 : decode cX0_countSetsWithLead 53 = .ok (.iload_n 3, 1) := by decide +kernel
theorem dX0_countSetsWithLead_54 : decode cX0_countSetsWithLead 54 = .ok (.ireturn, 1) := by decide +kernel
theorem dX1_init_0 : decode cX1_init 0 = .ok (.aload_n 0, 1) := by decide +kernel
theorem dX1_init_1 : decode cX1_init 1 = .ok (.invokespecial 3, 3) := by decide +kernel
theorem dX1_init_4 : decode cX1_init 4 = .ok (.aload_n 0, 1) := by decide +kernel
theorem dX1_init_5 : decode cX1_init 5 = .ok (.bipush 60, 2) := by decide +kernel
theorem dX1_init_7 : decode cX1_init 7 = .ok (.newarray .int, 2) := by decide +kernel
theorem dX1_init_9 : decode cX1_init 9 = .ok (.putfield 11, 3) := by decide +kernel
theorem dX1_init_12 : decode cX1_init 12 = .ok (.aload_n 0, 1) := by decide +kernel
theorem dX1_init_13 : decode cX1_init 13 = .ok (.iconst (-1), 1) := by decide +kernel
theorem dX1_init_14 : decode cX1_init 14 = .ok (.putfield 15, 3) := by decide +kernel
theorem dX1_init_17 : decode cX1_init 17 = .ok (.return_, 1) := by decide +kernel
theorem dX1_isNothing_0 : decode cX1_isNothing 0 = .ok (.aload_n 0, 1) := by decide +kernel
theorem dX1_isNothing_1 : decode cX1_isNothing 1 = .ok (.getfield 15, 3) := by decide +kernel
theorem dX1_isNothing_4 : decode cX1_isNothing 4 = .ok (.iconst (-1), 1) := by decide +kernel
theorem dX1_isNothing_5 : decode cX1_isNothing 5 = .ok (.if_icmp .ne 7, 3) := by decide +kernel
theorem dX1_isNothing_8 : decode cX1_isNothing 8 = .ok (.iconst 1, 1) := by decide +kernel
theorem dX1_isNothing_9 : decode cX1_isNothing 9 = .ok (.goto 4, 3) := by decide +kernel
theorem dX1_isNothing_12 : decode cX1_isNothing 12 = .ok (.iconst 0, 1) := by decide +kernel
theorem dX1_isNothing_13 : decode cX1_isNothing 13 = .ok (.ireturn, 1) := by decide +kernel
theorem dX1_clear_0 : decode cX1_clear 0 = .ok (.aload_n 0, 1) := by decide +kernel
theorem dX1_clear_1 : decode cX1_clear 1 = .ok (.iconst (-1), 1) := by decide +kernel
theorem dX1_clear_2 : decode cX1_clear 2 = .ok (.putfield 15, 3) := by decide +kernel
theorem dX1_clear_5 : decode cX1_clear 5 = .ok (.aload_n 0, 1) := by decide +kernel
theorem dX1_clear_6 : decode cX1_clear 6 = .ok (.iconst 0, 1) := by decide +kernel
theorem dX1_clear_7 : decode cX1_clear 7 = .ok (.putfield 19, 3) := by decide +kernel
theorem dX1_clear_10 : decode cX1_clear 10 = .ok (.return_, 1) := by decide +kernel
set_option maxRecDepth 20000 in
theorem ggX1_renew_J7_fill_53178 : GoodIn wsX1_renew wsJ7_fill_53178 := goodIn_r _ [7] (by decide +kernel) (by decide +kernel)
set_option maxRecDepth 20000 in
theorem gX1_renew_J7_fill_53178 : GoodIn wsX1_renew (va_wsS RX1 22 yJ7_fill_53178 wsJ7_fill_53178) := goodIn_app (goodIn_of _ (by decide +kernel)) ggX1_renew_J7_fill_53178
theorem dX1_renew_0 : decode cX1_renew 0 = .ok (.aload_n 0, 1) := by decide +kernel
theorem dX1_renew_1 : decode cX1_renew 1 = .ok (.iload_n 1, 1) := by decide +kernel
theorem dX1_renew_2 : decode cX1_renew 2 = .ok (.putfield 15, 3) := by decide +kernel
theorem dX1_renew_5 : decode cX1_renew 5 = .ok (.aload_n 0, 1) := by decide +kernel
theorem dX1_renew_6 : decode cX1_renew 6 = .ok (.iload_n 2, 1) := by decide +kernel
theorem dX1_renew_7 : decode cX1_renew 7 = .ok (.putfield 19, 3) := by decide +kernel
theorem dX1_renew_10 : decode cX1_renew 10 = .ok (.aload_n 0, 1) := by decide +kernel
theorem dX1_renew_11 : decode cX1_renew 11 = .ok (.getfield 11, 3) := by decide +kernel
theorem dX1_renew_14 : decode cX1_renew 14 = .ok (.iconst 0, 1) := by decide +kernel
theorem dX1_renew_15 : decode cX1_renew 15 = .ok (.invokestatic 22, 3) := by decide +kernel
theorem dX1_renew_18 : decode cX1_renew 18 = .ok (.return_, 1) := by decide +kernel
theorem dX1_at_0 : decode cX1_at 0 = .ok (.iload_n 1, 1) := by decide +kernel
theorem dX1_at_1 : decode cX1_at 1 = .ok (.ifCond .lt 20, 3) := by decide +kernel
theorem dX1_at_4 : decode cX1_at 4 = .ok (.iload_n 1, 1) := by decide +kernel
theorem dX1_at_5 : decode cX1_at 5 = .ok (.aload_n 0, 1) := by decide +kernel
theorem dX1_at_6 : decode cX1_at 6 = .ok (.getfield 19, 3) := by decide +kernel
theorem dX1_at_9 : decode cX1_at 9 = .ok (.if_icmp .ge 12, 3) := by decide +kernel
theorem dX1_at_12 : decode cX1_at 12 = .ok (.aload_n 0, 1) := by decide +kernel
theorem dX1_at_13 : decode cX1_at 13 = .ok (.getfield 11, 3) := by decide +kernel
theorem dX1_at_16 : decode cX1_at 16 = .ok (.iload_n 1, 1) := by decide +kernel
theorem dX1_at_17 : decode cX1_at 17 = .ok (.iaload, 1) := by decide +kernel
theorem dX1_at_18 : decode cX1_at 18 = .ok (.goto 4, 3) := by decide +kernel
theorem dX1_at_21 : decode cX1_at 21 = .ok (.iconst 0, 1) := by decide +kernel
theorem dX1_at_22 : decode cX1_at 22 = .ok (.ireturn, 1) := by decide +kernel
set_option maxRecDepth 20000 in
theorem ggX1_setAt_X1_cutToLane : GoodIn wsX1_setAt wsX1_cutToLane := goodIn_r _ [7, 8, 9, 10, 11] (by decide +kernel) (by decide +kernel)
set_option maxRecDepth 20000 in
theorem gX1_setAt_X1_cutToLane : GoodIn wsX1_setAt (wsV RX1 28 RX1 yX1_cutToLane wsX1_cutToLane) := goodIn_app (goodIn_of _ (by decide +kernel)) ggX1_setAt_X1_cutToLane
theorem dX1_setAt_0 : decode cX1_setAt 0 = .ok (.iload_n 1, 1) := by decide +kernel
theorem dX1_setAt_1 : decode cX1_setAt 1 = .ok (.ifCond .lt 22, 3) := by decide +kernel
theorem dX1_setAt_4 : decode cX1_setAt 4 = .ok (.iload_n 1, 1) := by decide +kernel
theorem dX1_setAt_5 : decode cX1_setAt 5 = .ok (.aload_n 0, 1) := by decide +kernel
theorem dX1_setAt_6 : decode cX1_setAt 6 = .ok (.getfield 19, 3) := by decide +kernel
theorem dX1_setAt_9 : decode cX1_setAt 9 = .ok (.if_icmp .ge 14, 3) := by decide +kernel
theorem dX1_setAt_12 : decode cX1_setAt 12 = .ok (.aload_n 0, 1) := by decide +kernel
theorem dX1_setAt_13 : decode cX1_setAt 13 = .ok (.getfield 11, 3) := by decide +kernel
theorem dX1_setAt_16 : decode cX1_setAt 16 = .ok (.iload_n 1, 1) := by decide +kernel
theorem dX1_setAt_17 : decode cX1_setAt 17 = .ok (.aload_n 0, 1) := by decide +kernel
theorem dX1_setAt_18 : decode cX1_setAt 18 = .ok (.iload_n 2, 1) := by decide +kernel
theorem dX1_setAt_19 : decode cX1_setAt 19 = .ok (.invokevirtual 28, 3) := by decide +kernel
theorem dX1_setAt_22 : decode cX1_setAt 22 = .ok (.iastore, 1) := by decide +kernel
theorem dX1_setAt_23 : decode cX1_setAt 23 = .ok (.return_, 1) := by decide +kernel
theorem dX1_cutToLane_0 : decode cX1_cutToLane 0 = .ok (.aload_n 0, 1) := by decide +kernel
theorem dX1_cutToLane_1 : decode cX1_cutToLane 1 = .ok (.getfield 15, 3) := by decide +kernel
theorem dX1_cutToLane_4 : decode cX1_cutToLane 4 = .ok (.lookupswitch 34 #[(0, 28), (1, 31)], 28) := by decide +kernel
theorem dX1_cutToLane_32 : decode cX1_cutToLane 32 = .ok (.iload_n 1, 1) := by decide +kernel
theorem dX1_cutToLane_33 : decode cX1_cutToLane 33 = .ok (.i2b, 1) := by decide +kernel
theorem dX1_cutToLane_34 : decode cX1_cutToLane 34 = .ok (.ireturn, 1) := by decide +kernel
theorem dX1_cutToLane_35 : decode cX1_cutToLane 35 = .ok (.iload_n 1, 1) := by decide +kernel
theorem dX1_cutToLane_36 : decode cX1_cutToLane 36 = .ok (.i2s, 1) := by decide +kernel
theorem dX1_cutToLane_37 : decode cX1_cutToLane 37 = .ok (.ireturn, 1) := by decide +kernel
theorem dX1_cutToLane_38 : decode cX1_cutToLane 38 = .ok (.iload_n 1, 1) := by decide +kernel
theorem dX1_cutToLane_39 : decode cX1_cutToLane 39 = .ok (.ireturn, 1) := by decide +kernel
theorem dX1_hasCells_0 : decode cX1_hasCells 0 = .ok (.iload_n 1, 1) := by decide +kernel
theorem dX1_hasCells_1 : decode cX1_hasCells 1 = .ok (.ifCond .lt 25, 3) := by decide +kernel
theorem dX1_hasCells_4 : decode cX1_hasCells 4 = .ok (.iload_n 1, 1) := by decide +kernel
theorem dX1_hasCells_5 : decode cX1_hasCells 5 = .ok (.aload_n 0, 1) := by decide +kernel
theorem dX1_hasCells_6 : decode cX1_hasCells 6 = .ok (.getfield 19, 3) := by decide +kernel
theorem dX1_hasCells_9 : decode cX1_hasCells 9 = .ok (.if_icmp .gt 17, 3) := by decide +kernel
theorem dX1_hasCells_12 : decode cX1_hasCells 12 = .ok (.iload_n 2, 1) := by decide +kernel
theorem dX1_hasCells_13 : decode cX1_hasCells 13 = .ok (.aload_n 0, 1) := by decide +kernel
theorem dX1_hasCells_14 : decode cX1_hasCells 14 = .ok (.getfield 19, 3) := by decide +kernel
theorem dX1_hasCells_17 : decode cX1_hasCells 17 = .ok (.iload_n 1, 1) := by decide +kernel
theorem dX1_hasCells_18 : decode cX1_hasCells 18 = .ok (.isub, 1) := by decide +kernel
theorem dX1_hasCells_19 : decode cX1_hasCells 19 = .ok (.if_icmp .gt 7, 3) := by decide +kernel
theorem dX1_hasCells_22 : decode cX1_hasCells 22 = .ok (.iconst 1, 1) := by decide +kernel
theorem dX1_hasCells_23 : decode cX1_hasCells 23 = .ok (.goto 4, 3) := by decide +kernel
theorem dX1_hasCells_26 : decode cX1_hasCells 26 = .ok (.iconst 0, 1) := by decide +kernel
theorem dX1_hasCells_27 : decode cX1_hasCells 27 = .ok (.ireturn, 1) := by decide +kernel
set_option maxRecDepth 20000 in
theorem ggX1_faultOfCells_X1_isNothing : GoodIn wsX1_faultOfCells wsX1_isNothing := goodIn_r _ [6, 1, 12, 13, 14] (by decide +kernel) (by decide +kernel)
set_option maxRecDepth 20000 in
theorem gX1_faultOfCells_X1_isNothing : GoodIn wsX1_faultOfCells (wsV RX1 32 RX1 yX1_isNothing wsX1_isNothing) := goodIn_app (goodIn_of _ (by decide +kernel)) ggX1_faultOfCells_X1_isNothing
set_option maxRecDepth 20000 in
theorem ggX1_faultOfCells_X1_hasCells : GoodIn wsX1_faultOfCells wsX1_hasCells := goodIn_r _ [10, 11, 12, 13, 14] (by decide +kernel) (by decide +kernel)
set_option maxRecDepth 20000 in
theorem gX1_faultOfCells_X1_hasCells : GoodIn wsX1_faultOfCells (wsV RX1 36 RX1 yX1_hasCells wsX1_hasCells) := goodIn_app (goodIn_of _ (by decide +kernel)) ggX1_faultOfCells_X1_hasCells
theorem dX1_faultOfCells_0 : decode cX1_faultOfCells 0 = .ok (.aload_n 0, 1) := by decide +kernel
theorem dX1_faultOfCells_1 : decode cX1_faultOfCells 1 = .ok (.invokevirtual 32, 3) := by decide +kernel
theorem dX1_faultOfCells_4 : decode cX1_faultOfCells 4 = .ok (.ifCond .eq 5, 3) := by decide +kernel
theorem dX1_faultOfCells_7 : decode cX1_faultOfCells 7 = .ok (.iconst 1, 1) := by decide +kernel
theorem dX1_faultOfCells_8 : decode cX1_faultOfCells 8 = .ok (.ireturn, 1) := by decide +kernel
theorem dX1_faultOfCells_9 : decode cX1_faultOfCells 9 = .ok (.aload_n 0, 1) := by decide +kernel
theorem dX1_faultOfCells_10 : decode cX1_faultOfCells 10 = .ok (.getfield 15, 3) := by decide +kernel
theorem dX1_faultOfCells_13 : decode cX1_faultOfCells 13 = .ok (.iload_n 1, 1) := by decide +kernel
theorem dX1_faultOfCells_14 : decode cX1_faultOfCells 14 = .ok (.if_icmp .eq 5, 3) := by decide +kernel
theorem dX1_faultOfCells_17 : decode cX1_faultOfCells 17 = .ok (.iconst 2, 1) := by decide +kernel
theorem dX1_faultOfCells_18 : decode cX1_faultOfCells 18 = .ok (.ireturn, 1) := by decide +kernel
theorem dX1_faultOfCells_19 : decode cX1_faultOfCells 19 = .ok (.iload_n 3, 1) := by decide +kernel
theorem dX1_faultOfCells_20 : decode cX1_faultOfCells 20 = .ok (.ifCond .ge 5, 3) := by decide +kernel
theorem dX1_faultOfCells_23 : decode cX1_faultOfCells 23 = .ok (.iconst 4, 1) := by decide +kernel
theorem dX1_faultOfCells_24 : decode cX1_faultOfCells 24 = .ok (.ireturn, 1) := by decide +kernel
theorem dX1_faultOfCells_25 : decode cX1_faultOfCells 25 = .ok (.aload_n 0, 1) := by decide +kernel
theorem dX1_faultOfCells_26 : decode cX1_faultOfCells 26 = .ok (.iload_n 2, 1) := by decide +kernel
theorem dX1_faultOfCells_27 : decode cX1_faultOfCells 27 = .ok (.iload_n 3, 1) := by decide +kernel
theorem dX1_faultOfCells_28 : decode cX1_faultOfCells 28 = .ok (.invokevirtual 36, 3) := by decide +kernel
theorem dX1_faultOfCells_31 : decode cX1_faultOfCells 31 = .ok (.ifCond .eq 7, 3) := by decide +kernel
theorem dX1_faultOfCells_34 : decode cX1_faultOfCells 34 = .ok (.iconst 0, 1) := by decide +kernel
theorem dX1_faultOfCells_35 : decode cX1_faultOfCells 35 = .ok (.goto 4, 3) := by decide +kernel
theorem dX1_faultOfCells_38 : decode cX1_faultOfCells 38 = .ok (.iconst 3, 1) := by decide +kernel
theorem dX1_faultOfCells_39 : decode cX1_faultOfCells 39 = .ok (.ireturn, 1) := by decide +kernel
theorem dJ6_bitCount_0f7a4_0 : decode cJ6_bitCount_0f7a4 0 = .ok (.iload_n 0, 1) := by decide +kernel
theorem dJ6_bitCount_0f7a4_1 : decode cJ6_bitCount_0f7a4 1 = .ok (.iload_n 0, 1) := by decide +kernel
theorem dJ6_bitCount_0f7a4_2 : decode cJ6_bitCount_0f7a4 2 = .ok (.iconst 1, 1) := by decide +kernel
theorem dJ6_bitCount_0f7a4_3 : decode cJ6_bitCount_0f7a4 3 = .ok (.iushr, 1) := by decide +kernel
theorem dJ6_bitCount_0f7a4_4 : decode cJ6_bitCount_0f7a4 4 = .ok (.ldc_w 265, 3) := by decide +kernel
theorem dJ6_bitCount_0f7a4_7 : decode cJ6_bitCount_0f7a4 7 = .ok (.iand, 1) := by decide +kernel
theorem dJ6_bitCount_0f7a4_8 : decode cJ6_bitCount_0f7a4 8 = .ok (.isub, 1) := by decide +kernel
theorem dJ6_bitCount_0f7a4_9 : decode cJ6_bitCount_0f7a4 9 = .ok (.istore_n 0, 1) := by decide +kernel
theorem dJ6_bitCount_0f7a4_10 : decode cJ6_bitCount_0f7a4 10 = .ok (.iload_n 0, 1) := by decide +kernel
theorem dJ6_bitCount_0f7a4_11 : decode cJ6_bitCount_0f7a4 11 = .ok (.ldc_w 266, 3) := by decide +kernel
theorem dJ6_bitCount_0f7a4_14 : decode cJ6_bitCount_0f7a4 14 = .ok (.iand, 1) := by decide +kernel
theorem dJ6_bitCount_0f7a4_15 : decode cJ6_bitCount_0f7a4 15 = .ok (.iload_n 0, 1) := by decide +kernel
theorem dJ6_bitCount_0f7a4_16 : decode cJ6_bitCount_0f7a4 16 = .ok (.iconst 2, 1) := by decide +kernel
theorem dJ6_bitCount_0f7a4_17 : decode cJ6_bitCount_0f7a4 17 = .ok (.iushr, 1) := by decide +kernel
theorem dJ6_bitCount_0f7a4_18 : decode cJ6_bitCount_0f7a4 18 = .ok (.ldc_w 266, 3) := by decide +kernel
theorem dJ6_bitCount_0f7a4_21 : decode cJ6_bitCount_0f7a4 21 = .ok (.iand, 1) := by decide +kernel
theorem dJ6_bitCount_0f7a4_22 : decode cJ6_bitCount_0f7a4 22 = .ok (.iadd, 1) := by decide +kernel
theorem dJ6_bitCount_0f7a4_23 : decode cJ6_bitCount_0f7a4 23 = .ok (.istore_n 0, 1) := by decide +kernel
theorem dJ6_bitCount_0f7a4_24 : decode cJ6_bitCount_0f7a4 24 = .ok (.iload_n 0, 1) := by decide +kernel
theorem dJ6_bitCount_0f7a4_25 : decode cJ6_bitCount_0f7a4 25 = .ok (.iload_n 0, 1) := by decide +kernel
theorem dJ6_bitCount_0f7a4_26 : decode cJ6_bitCount_0f7a4 26 = .ok (.iconst 4, 1) := by decide +kernel
theorem dJ6_bitCount_0f7a4_27 : decode cJ6_bitCount_0f7a4 27 = .ok (.iushr, 1) := by decide +kernel
theorem dJ6_bitCount_0f7a4_28 : decode cJ6_bitCount_0f7a4 28 = .ok (.iadd, 1) := by decide +kernel
theorem dJ6_bitCount_0f7a4_29 : decode cJ6_bitCount_0f7a4 29 = .ok (.ldc_w 267, 3) := by decide +kernel
theorem dJ6_bitCount_0f7a4_32 : decode cJ6_bitCount_0f7a4 32 = .ok (.iand, 1) := by decide +kernel
theorem dJ6_bitCount_0f7a4_33 : decode cJ6_bitCount_0f7a4 33 = .ok (.istore_n 0, 1) := by decide +kernel
theorem dJ6_bitCount_0f7a4_34 : decode cJ6_bitCount_0f7a4 34 = .ok (.iload_n 0, 1) := by decide +kernel
theorem dJ6_bitCount_0f7a4_35 : decode cJ6_bitCount_0f7a4 35 = .ok (.iload_n 0, 1) := by decide +kernel
theorem dJ6_bitCount_0f7a4_36 : decode cJ6_bitCount_0f7a4 36 = .ok (.bipush 8, 2) := by decide +kernel
theorem dJ6_bitCount_0f7a4_38 : decode cJ6_bitCount_0f7a4 38 = .ok (.iushr, 1) := by decide +kernel
theorem dJ6_bitCount_0f7a4_39 : decode cJ6_bitCount_0f7a4 39 = .ok (.iadd, 1) := by decide +kernel
theorem dJ6_bitCount_0f7a4_40 : decode cJ6_bitCount_0f7a4 40 = .ok (.istore_n 0, 1) := by decide +kernel
theorem dJ6_bitCount_0f7a4_41 : decode cJ6_bitCount_0f7a4 41 = .ok (.iload_n 0, 1) := by decide +kernel
theorem dJ6_bitCount_0f7a4_42 : decode cJ6_bitCount_0f7a4 42 = .ok (.iload_n 0, 1) := by decide +kernel
theorem dJ6_bitCount_0f7a4_43 : decode cJ6_bitCount_0f7a4 43 = .ok (.bipush 16, 2) := by decide +kernel
theorem dJ6_bitCount_0f7a4_45 : decode cJ6_bitCount_0f7a4 45 = .ok (.iushr, 1) := by decide +kernel
theorem dJ6_bitCount_0f7a4_46 : decode cJ6_bitCount_0f7a4 46 = .ok (.iadd, 1) := by decide +kernel
theorem dJ6_bitCount_0f7a4_47 : decode cJ6_bitCount_0f7a4 47 = .ok (.istore_n 0, 1) := by decide +kernel
theorem dJ6_bitCount_0f7a4_48 : decode cJ6_bitCount_0f7a4 48 = .ok (.iload_n 0, 1) := by decide +kernel
theorem dJ6_bitCount_0f7a4_49 : decode cJ6_bitCount_0f7a4 49 = .ok (.bipush 63, 2) := by decide +kernel
theorem dJ6_bitCount_0f7a4_51 : decode cJ6_bitCount_0f7a4 51 = .ok (.iand, 1) := by decide +kernel
theorem dJ6_bitCount_0f7a4_52 : decode cJ6_bitCount_0f7a4 52 = .ok (.ireturn, 1) := by decide +kernel
theorem dJ9_abs_0f7a4_0 : decode cJ9_abs_0f7a4 0 = .ok (.iload_n 0, 1) := by decide +kernel
theorem dJ9_abs_0f7a4_1 : decode cJ9_abs_0f7a4 1 = .ok (.ifCond .ge 8, 3) := by decide +kernel
theorem dJ9_abs_0f7a4_4 : decode cJ9_abs_0f7a4 4 = .ok (.iload_n 0, 1) := by decide +kernel
theorem dJ9_abs_0f7a4_5 : decode cJ9_abs_0f7a4 5 = .ok (.ineg, 1) := by decide +kernel
theorem dJ9_abs_0f7a4_6 : decode cJ9_abs_0f7a4 6 = .ok (.goto 4, 3) := by decide +kernel
theorem dJ9_abs_0f7a4_9 : decode cJ9_abs_0f7a4 9 = .ok (.iload_n 0, 1) := by decide +kernel
theorem dJ9_abs_0f7a4_10 : decode cJ9_abs_0f7a4 10 = .ok (.ireturn, 1) := by decide +kernel
theorem dJ9_max_7cf53_0 : decode cJ9_max_7cf53 0 = .ok (.iload_n 0, 1) := by decide +kernel
theorem dJ9_max_7cf53_1 : decode cJ9_max_7cf53 1 = .ok (.iload_n 1, 1) := by decide +kernel
theorem dJ9_max_7cf53_2 : decode cJ9_max_7cf53 2 = .ok (.if_icmp .lt 7, 3) := by decide +kernel
theorem dJ9_max_7cf53_5 : decode cJ9_max_7cf53 5 = .ok (.iload_n 0, 1) := by decide +kernel
theorem dJ9_max_7cf53_6 : decode cJ9_max_7cf53 6 = .ok (.goto 4, 3) := by decide +kernel
theorem dJ9_max_7cf53_9 : decode cJ9_max_7cf53 9 = .ok (.iload_n 1, 1) := by decide +kernel
theorem dJ9_max_7cf53_10 : decode cJ9_max_7cf53 10 = .ok (.ireturn, 1) := by decide +kernel
theorem dJ9_min_7cf53_0 : decode cJ9_min_7cf53 0 = .ok (.iload_n 0, 1) := by decide +kernel
theorem dJ9_min_7cf53_1 : decode cJ9_min_7cf53 1 = .ok (.iload_n 1, 1) := by decide +kernel
theorem dJ9_min_7cf53_2 : decode cJ9_min_7cf53 2 = .ok (.if_icmp .gt 7, 3) := by decide +kernel
theorem dJ9_min_7cf53_5 : decode cJ9_min_7cf53 5 = .ok (.iload_n 0, 1) := by decide +kernel
theorem dJ9_min_7cf53_6 : decode cJ9_min_7cf53 6 = .ok (.goto 4, 3) := by decide +kernel
theorem dJ9_min_7cf53_9 : decode cJ9_min_7cf53 9 = .ok (.iload_n 1, 1) := by decide +kernel
theorem dJ9_min_7cf53_10 : decode cJ9_min_7cf53 10 = .ok (.ireturn, 1) := by decide +kernel
theorem dJ7_fill_53178_0 : decode cJ7_fill_53178 0 = .ok (.iconst 0, 1) := by decide +kernel
theorem dJ7_fill_53178_1 : decode cJ7_fill_53178 1 = .ok (.istore_n 2, 1) := by decide +kernel
theorem dJ7_fill_53178_2 : decode cJ7_fill_53178 2 = .ok (.aload_n 0, 1) := by decide +kernel
theorem dJ7_fill_53178_3 : decode cJ7_fill_53178 3 = .ok (.arraylength, 1) := by decide +kernel
theorem dJ7_fill_53178_4 : decode cJ7_fill_53178 4 = .ok (.istore_n 3, 1) := by decide +kernel
theorem dJ7_fill_53178_5 : decode cJ7_fill_53178 5 = .ok (.iload_n 2, 1) := by decide +kernel
theorem dJ7_fill_53178_6 : decode cJ7_fill_53178 6 = .ok (.iload_n 3, 1) := by decide +kernel
theorem dJ7_fill_53178_7 : decode cJ7_fill_53178 7 = .ok (.if_icmp .ge 13, 3) := by decide +kernel
theorem dJ7_fill_53178_10 : decode cJ7_fill_53178 10 = .ok (.aload_n 0, 1) := by decide +kernel
theorem dJ7_fill_53178_11 : decode cJ7_fill_53178 11 = .ok (.iload_n 2, 1) := by decide +kernel
theorem dJ7_fill_53178_12 : decode cJ7_fill_53178 12 = .ok (.iload_n 1, 1) := by decide +kernel
theorem dJ7_fill_53178_13 : decode cJ7_fill_53178 13 = .ok (.iastore, 1) := by decide +kernel
theorem dJ7_fill_53178_14 : decode cJ7_fill_53178 14 = .ok (.iinc 2 1, 3) := by decide +kernel
theorem dJ7_fill_53178_17 : decode cJ7_fill_53178 17 = .ok (.goto (-12), 3) := by decide +kernel
theorem dJ7_fill_53178_20 : decode cJ7_fill_53178 20 = .ok (.return_, 1) := by decide +kernel
