set_option maxRecDepth 20000 in
theorem ggX3_leadOf_X3_landOf : GoodIn wsX3_leadOf wsX3_landOf := goodIn_r _ [5, 6, 7, 8, 9, 10, 4, 11, 12, 13, 14, 15, 16, 17, 18, 19, 20, 21, 22, 23, 24, 25, 26, 27, 28, 29, 30, 31, 32, 33, 34, 35, 36, 37, 38, 39, 40, 41, 42, 43, 44, 45, 46, 47, 48, 49, 50, 51, 52, 53, 54] (by decide +kernel) (by decide +kernel)
set_option maxRecDepth 20000 in
theorem gX3_leadOf_X3_landOf : GoodIn wsX3_leadOf (wsV RX3 158 RX3 yX3_landOf wsX3_landOf) := goodIn_app (goodIn_of _ (by decide +kernel)) ggX3_leadOf_X3_landOf
theorem dX3_leadOf_0 : decode cX3_leadOf 0 = .ok (.bipush 100, 2) := by decide +kernel
theorem dX3_leadOf_2 : decode cX3_leadOf 2 = .ok (.aload_n 0, 1) := by decide +kernel
theorem dX3_leadOf_3 : decode cX3_leadOf 3 = .ok (.iload_n 1, 1) := by decide +kernel
theorem dX3_leadOf_4 : decode cX3_leadOf 4 = .ok (.invokevirtual 158, 3) := by decide +kernel
theorem dX3_leadOf_7 : decode cX3_leadOf 7 = .ok (.iadd, 1) := by decide +kernel
theorem dX3_leadOf_8 : decode cX3_leadOf 8 = .ok (.aload_n 0, 1) := by decide +kernel
theorem dX3_leadOf_9 : decode cX3_leadOf 9 = .ok (.iconst 1, 1) := by decide +kernel
theorem dX3_leadOf_10 : decode cX3_leadOf 10 = .ok (.iload_n 1, 1) := by decide +kernel
theorem dX3_leadOf_11 : decode cX3_leadOf 11 = .ok (.isub, 1) := by decide +kernel
theorem dX3_leadOf_12 : decode cX3_leadOf 12 = .ok (.invokevirtual 158, 3) := by decide +kernel
theorem dX3_leadOf_15 : decode cX3_leadOf 15 = .ok (.isub, 1) := by decide +kernel
theorem dX3_leadOf_16 : decode cX3_leadOf 16 = .ok (.ireturn, 1) := by decide +kernel
set_option maxRecDepth 20000 in
theorem ggX3_mayMove_X3_mayAct : GoodIn wsX3_mayMove wsX3_mayAct := goodIn_r _ [6, 7, 8, 9, 10, 11, 5, 12, 13, 14, 15, 16, 17, 18, 19, 20, 21, 22, 23, 24, 25, 26, 27, 28, 29, 30, 31, 32, 33, 34, 35, 36, 37, 38] (by decide +kernel) (by decide +kernel)
set_option maxRecDepth 20000 in
theorem gX3_mayMove_X3_mayAct : GoodIn wsX3_mayMove (wsV RX3 161 RX3 yX3_mayAct wsX3_mayAct) := goodIn_app (goodIn_of _ (by decide +kernel)) ggX3_mayMove_X3_mayAct
theorem dX3_mayMove_0 : decode cX3_mayMove 0 = .ok (.aload_n 0, 1) := by decide +kernel
theorem dX3_mayMove_1 : decode cX3_mayMove 1 = .ok (.getfield 16, 3) := by decide +kernel
theorem dX3_mayMove_4 : decode cX3_mayMove 4 = .ok (.iload_n 2, 1) := by decide +kernel
theorem dX3_mayMove_5 : decode cX3_mayMove 5 = .ok (.iconst 3, 1) := by decide +kernel
theorem dX3_mayMove_6 : decode cX3_mayMove 6 = .ok (.idiv, 1) := by decide +kernel
theorem dX3_mayMove_7 : decode cX3_mayMove 7 = .ok (.iaload, 1) := by decide +kernel
theorem dX3_mayMove_8 : decode cX3_mayMove 8 = .ok (.iload_n 1, 1) := by decide +kernel
theorem dX3_mayMove_9 : decode cX3_mayMove 9 = .ok (.if_icmp .ne 20, 3) := by decide +kernel
theorem dX3_mayMove_12 : decode cX3_mayMove 12 = .ok (.aload_n 0, 1) := by decide +kernel
theorem dX3_mayMove_13 : decode cX3_mayMove 13 = .ok (.iload_n 2, 1) := by decide +kernel
theorem dX3_mayMove_14 : decode cX3_mayMove 14 = .ok (.iconst 3, 1) := by decide +kernel
theorem dX3_mayMove_15 : decode cX3_mayMove 15 = .ok (.idiv, 1) := by decide +kernel
theorem dX3_mayMove_16 : decode cX3_mayMove 16 = .ok (.iload_n 2, 1) := by decide +kernel
theorem dX3_mayMove_17 : decode cX3_mayMove 17 = .ok (.iconst 3, 1) := by decide +kernel
theorem dX3_mayMove_18 : decode cX3_mayMove 18 = .ok (.irem, 1) := by decide +kernel
theorem dX3_mayMove_19 : decode cX3_mayMove 19 = .ok (.invokevirtual 161, 3) := by decide +kernel
theorem dX3_mayMove_22 : decode cX3_mayMove 22 = .ok (.ifCond .eq 7, 3) := by decide +kernel
theorem dX3_mayMove_25 : decode cX3_mayMove 25 = .ok (.iconst 1, 1) := by decide +kernel
theorem dX3_mayMove_26 : decode cX3_mayMove 26 = .ok (.goto 4, 3) := by decide +kernel
theorem dX3_mayMove_29 : decode cX3_mayMove 29 = .ok (.iconst 0, 1) := by decide +kernel
theorem dX3_mayMove_30 : decode cX3_mayMove 30 = .ok (.ireturn, 1) := by decide +kernel
set_option maxRecDepth 20000 in
theorem ggX3_goodMove_X3_mayMove : GoodIn wsX3_goodMove wsX3_mayMove := goodIn_r _ [6, 7, 8, 9, 10, 5, 11, 12, 13, 14, 15, 16, 17, 49, 50, 51, 52, 53, 54, 55, 56, 57, 58, 59, 60, 61, 62, 63, 64, 65, 66, 67, 68, 69, 70, 71, 72, 73, 74] (by decide +kernel) (by decide +kernel)
set_option maxRecDepth 20000 in
theorem gX3_goodMove_X3_mayMove : GoodIn wsX3_goodMove (wsV RX3 190 RX3 yX3_mayMove wsX3_mayMove) := goodIn_app (goodIn_of _ (by decide +kernel)) ggX3_goodMove_X3_mayMove
set_option maxRecDepth 20000 in
theorem ggX3_goodMove_X3_doAct : GoodIn wsX3_goodMove wsX3_doAct := goodIn_r _ [21, 13, 12, 49, 50, 51, 52, 53, 54, 55, 56, 57, 58, 59, 60, 61, 62, 63, 64, 65, 66, 67, 68, 69, 70, 71, 72, 73, 74] (by decide +kernel) (by decide +kernel)
set_option maxRecDepth 20000 in
theorem gX3_goodMove_X3_doAct : GoodIn wsX3_goodMove (wsV RX3 164 RX3 yX3_doAct wsX3_doAct) := goodIn_app (goodIn_of _ (by decide +kernel)) ggX3_goodMove_X3_doAct
set_option maxRecDepth 20000 in
theorem ggX3_goodMove_X3_leadOf : GoodIn wsX3_goodMove wsX3_leadOf := goodIn_r _ [25, 26, 27, 28, 5, 29, 14, 30, 31, 32, 33, 34, 35, 36, 37, 38, 1, 7, 13, 39, 40, 41, 42, 43, 44, 12, 15, 16, 17, 49, 50, 51, 52, 53, 54, 55, 56, 57, 58, 59, 60, 61, 62, 63, 64, 65, 66, 67, 68, 69, 70, 71, 72, 73, 74] (by decide +kernel) (by decide +kernel)
set_option maxRecDepth 20000 in
theorem gX3_goodMove_X3_leadOf : GoodIn wsX3_goodMove (wsV RX3 193 RX3 yX3_leadOf wsX3_leadOf) := goodIn_app (goodIn_of _ (by decide +kernel)) ggX3_goodMove_X3_leadOf
set_option maxRecDepth 20000 in
theorem ggX3_goodMove_X3_undoAct : GoodIn wsX3_goodMove wsX3_undoAct := goodIn_r _ [48, 13, 12, 49, 50, 51, 52, 53, 54, 55, 56, 57, 58, 59, 60, 61, 62, 63, 64, 65, 66, 67, 68, 69, 70, 71, 72, 73, 74] (by decide +kernel) (by decide +kernel)
set_option maxRecDepth 20000 in
theorem gX3_goodMove_X3_undoAct : GoodIn wsX3_goodMove (wsV RX3 196 RX3 yX3_undoAct wsX3_undoAct) := goodIn_app (goodIn_of _ (by decide +kernel)) ggX3_goodMove_X3_undoAct
theorem dX3_goodMove_0 : decode cX3_goodMove 0 = .ok (.bipush (-9), 2) := by decide +kernel
theorem dX3_goodMove_2 : decode cX3_goodMove 2 = .ok (.istore_n 2, 1) := by decide +kernel
theorem dX3_goodMove_3 : decode cX3_goodMove 3 = .ok (.bipush (-9), 2) := by decide +kernel
theorem dX3_goodMove_5 : decode cX3_goodMove 5 = .ok (.istore_n 3, 1) := by decide +kernel
theorem dX3_goodMove_6 : decode cX3_goodMove 6 = .ok (.iconst 0, 1) := by decide +kernel
theorem dX3_goodMove_7 : decode cX3_goodMove 7 = .ok (.istore 4, 2) := by decide +kernel
theorem dX3_goodMove_9 : decode cX3_goodMove 9 = .ok (.iload 4, 2) := by decide +kernel
theorem dX3_goodMove_11 : decode cX3_goodMove 11 = .ok (.iconst 3, 1) := by decide +kernel
theorem dX3_goodMove_12 : decode cX3_goodMove 12 = .ok (.aload_n 0, 1) := by decide +kernel
theorem dX3_goodMove_13 : decode cX3_goodMove 13 = .ok (.getfield 78, 3) := by decide +kernel
theorem dX3_goodMove_16 : decode cX3_goodMove 16 = .ok (.imul, 1) := by decide +kernel
theorem dX3_goodMove_17 : decode cX3_goodMove 17 = .ok (.if_icmp .ge 84, 3) := by decide +kernel
theorem dX3_goodMove_20 : decode cX3_goodMove 20 = .ok (.aload_n 0, 1) := by decide +kernel
theorem dX3_goodMove_21 : decode cX3_goodMove 21 = .ok (.iload_n 1, 1) := by decide +kernel
theorem dX3_goodMove_22 : decode cX3_goodMove 22 = .ok (.iload 4, 2) := by decide +kernel
theorem dX3_goodMove_24 : decode cX3_goodMove 24 = .ok (.invokevirtual 190, 3) := by decide +kernel
theorem dX3_goodMove_27 : decode cX3_goodMove 27 = .ok (.ifCond .eq 68, 3) := by decide +kernel
theorem dX3_goodMove_30 : decode cX3_goodMove 30 = .ok (.aload_n 0, 1) := by decide +kernel
theorem dX3_goodMove_31 : decode cX3_goodMove 31 = .ok (.iload 4, 2) := by decide +kernel
theorem dX3_goodMove_33 : decode cX3_goodMove 33 = .ok (.iconst 3, 1) := by decide +kernel
theorem dX3_goodMove_34 : decode cX3_goodMove 34 = .ok (.idiv, 1) := by decide +kernel
theorem dX3_goodMove_35 : decode cX3_goodMove 35 = .ok (.iload 4, 2) := by decide +kernel
theorem dX3_goodMove_37 : decode cX3_goodMove 37 = .ok (.iconst 3, 1) := by decide +kernel
theorem dX3_goodMove_38 : decode cX3_goodMove 38 = .ok (.irem, 1) := by decide +kernel
theorem dX3_goodMove_39 : decode cX3_goodMove 39 = .ok (.invokevirtual 164, 3) := by decide +kernel
theorem dX3_goodMove_42 : decode cX3_goodMove 42 = .ok (.aload_n 0, 1) := by decide +kernel
theorem dX3_goodMove_43 : decode cX3_goodMove 43 = .ok (.iload_n 1, 1) := by decide +kernel
theorem dX3_goodMove_44 : decode cX3_goodMove 44 = .ok (.invokevirtual 193, 3) := by decide +kernel
theorem dX3_goodMove_47 : decode cX3_goodMove 47 = .ok (.istore 5, 2) := by decide +kernel
theorem dX3_goodMove_49 : decode cX3_goodMove 49 = .ok (.aload_n 0, 1) := by decide +kernel
theorem dX3_goodMove_50 : decode cX3_goodMove 50 = .ok (.iload 4, 2) := by decide +kernel
theorem dX3_goodMove_52 : decode cX3_goodMove 52 = .ok (.iconst 3, 1) := by decide +kernel
theorem dX3_goodMove_53 : decode cX3_goodMove 53 = .ok (.idiv, 1) := by decide +kernel
theorem dX3_goodMove_54 : decode cX3_goodMove 54 = .ok (.iload 4, 2) := by decide +kernel
theorem dX3_goodMove_56 : decode cX3_goodMove 56 = .ok (.iconst 3, 1) := by decide +kernel
theorem dX3_goodMove_57 : decode cX3_goodMove 57 = .ok (.irem, 1) := by decide +kernel
theorem dX3_goodMove_58 : decode cX3_goodMove 58 = .ok (.invokevirtual 196, 3) := by decide +kernel
theorem dX3_goodMove_61 : decode cX3_goodMove 61 = .ok (.iload_n 2, 1) := by decide +kernel
theorem dX3_goodMove_62 : decode cX3_goodMove 62 = .ok (.ifCond .lt 9, 3) := by decide +kernel
theorem dX3_goodMove_65 : decode cX3_goodMove 65 = .ok (.iload 5, 2) := by decide +kernel
theorem dX3_goodMove_67 : decode cX3_goodMove 67 = .ok (.iload_n 3, 1) := by decide +kernel
theorem dX3_goodMove_68 : decode cX3_goodMove 68 = .ok (.if_icmp .le 8, 3) := by decide +kernel
theorem dX3_goodMove_71 : decode cX3_goodMove 71 = .ok (.iload 4, 2) := by decide +kernel
theorem dX3_goodMove_73 : decode cX3_goodMove 73 = .ok (.goto 4, 3) := by decide +kernel
theorem dX3_goodMove_76 : decode cX3_goodMove 76 = .ok (.iload_n 2, 1) := by decide +kernel
theorem dX3_goodMove_77 : decode cX3_goodMove 77 = .ok (.istore_n 2, 1) := by decide +kernel
theorem dX3_goodMove_78 : decode cX3_goodMove 78 = .ok (.iload_n 3, 1) := by decide +kernel
theorem dX3_goodMove_79 : decode cX3_goodMove 79 = .ok (.ifCond .lt 9, 3) := by decide +kernel
theorem dX3_goodMove_82 : decode cX3_goodMove 82 = .ok (.iload 5, 2) := by decide +kernel
theorem dX3_goodMove_84 : decode cX3_goodMove 84 = .ok (.iload_n 3, 1) := by decide +kernel
theorem dX3_goodMove_85 : decode cX3_goodMove 85 = .ok (.if_icmp .le 8, 3) := by decide +kernel
theorem dX3_goodMove_88 : decode cX3_goodMove 88 = .ok (.iload 5, 2) := by decide +kernel
theorem dX3_goodMove_90 : decode cX3_goodMove 90 = .ok (.goto 4, 3) := by decide +kernel
theorem dX3_goodMove_93 : decode cX3_goodMove 93 = .ok (.iload_n 3, 1) := by decide +kernel
theorem dX3_goodMove_94 : decode cX3_goodMove 94 = .ok (.istore_n 3, 1) := by decide +kernel
theorem dX3_goodMove_95 : decode cX3_goodMove 95 = .ok (.iinc 4 1, 3) := by decide +kernel
theorem dX3_goodMove_98 : decode cX3_goodMove 98 = .ok (.goto (-89), 3) := by decide +kernel
theorem dX3_goodMove_101 : decode cX3_goodMove 101 = .ok (.iload_n 2, 1) := by decide +kernel
theorem dX3_goodMove_102 : decode cX3_goodMove 102 = .ok (.ireturn, 1) := by decide +kernel
set_option maxRecDepth 20000 in
theorem ggX3_leadBehindOther_X3_goodMove : GoodIn wsX3_leadBehindOther wsX3_goodMove := goodIn_r _ [5, 6, 7, 8, 9, 4, 10, 11, 12, 13, 14, 15, 16, 17, 18, 19, 20, 21, 22, 23, 24, 25, 26, 27, 28, 29, 30, 31, 32, 33, 34, 35, 36, 37, 38, 39, 40, 41, 42, 43, 44, 45, 46, 47, 48, 49, 50, 51, 52, 53, 54, 55, 56, 57, 58, 59, 60, 61, 62, 63, 64, 65, 66, 67, 68, 69, 70, 71, 72, 73, 74, 75, 76, 77, 78] (by decide +kernel) (by decide +kernel)
set_option maxRecDepth 20000 in
theorem gX3_leadBehindOther_X3_goodMove : GoodIn wsX3_leadBehindOther (wsV RX3 199 RX3 yX3_goodMove wsX3_goodMove) := goodIn_app (goodIn_of _ (by decide +kernel)) ggX3_leadBehindOther_X3_goodMove
set_option maxRecDepth 20000 in
theorem ggX3_leadBehindOther_X3_leadOf : GoodIn wsX3_leadBehindOther wsX3_leadOf := goodIn_r _ [29, 30, 31, 32, 4, 33, 18, 34, 35, 36, 37, 38, 39, 40, 41, 42, 6, 11, 17, 43, 44, 45, 46, 47, 48, 16, 19, 20, 21, 53, 54, 55, 56, 57, 58, 59, 60, 61, 62, 63, 64, 65, 66, 67, 68, 69, 70, 71, 72, 73, 74, 75, 76, 77, 78] (by decide +kernel) (by decide +kernel)
set_option maxRecDepth 20000 in
theorem gX3_leadBehindOther_X3_leadOf : GoodIn wsX3_leadBehindOther (wsV RX3 193 RX3 yX3_leadOf wsX3_leadOf) := goodIn_app (goodIn_of _ (by decide +kernel)) ggX3_leadBehindOther_X3_leadOf
set_option maxRecDepth 20000 in
theorem ggX3_leadBehindOther_X3_doAct : GoodIn wsX3_leadBehindOther wsX3_doAct := goodIn_r _ [25, 17, 16, 53, 54, 55, 56, 57, 58, 59, 60, 61, 62, 63, 64, 65, 66, 67, 68, 69, 70, 71, 72, 73, 74, 75, 76, 77, 78] (by decide +kernel) (by decide +kernel)
set_option maxRecDepth 20000 in
theorem gX3_leadBehindOther_X3_doAct : GoodIn wsX3_leadBehindOther (wsV RX3 164 RX3 yX3_doAct wsX3_doAct) := goodIn_app (goodIn_of _ (by decide +kernel)) ggX3_leadBehindOther_X3_doAct
set_option maxRecDepth 20000 in
theorem ggX3_leadBehindOther_X3_undoAct : GoodIn wsX3_leadBehindOther wsX3_undoAct := goodIn_r _ [52, 17, 16, 53, 54, 55, 56, 57, 58, 59, 60, 61, 62, 63, 64, 65, 66, 67, 68, 69, 70, 71, 72, 73, 74, 75, 76, 77, 78] (by decide +kernel) (by decide +kernel)
set_option maxRecDepth 20000 in
theorem gX3_leadBehindOther_X3_undoAct : GoodIn wsX3_leadBehindOther (wsV RX3 196 RX3 yX3_undoAct wsX3_undoAct) := goodIn_app (goodIn_of _ (by decide +kernel)) ggX3_leadBehindOther_X3_undoAct
theorem dX3_leadBehindOther_0 : decode cX3_leadBehindOther 0 = .ok (.aload_n 0, 1) := by decide +kernel
theorem dX3_leadBehindOther_1 : decode cX3_leadBehindOther 1 = .ok (.iconst 1, 1) := by decide +kernel
theorem dX3_leadBehindOther_2 : decode cX3_leadBehindOther 2 = .ok (.iload_n 1, 1) := by decide +kernel
theorem dX3_leadBehindOther_3 : decode cX3_leadBehindOther 3 = .ok (.isub, 1) := by decide +kernel
theorem dX3_leadBehindOther_4 : decode cX3_leadBehindOther 4 = .ok (.invokevirtual 199, 3) := by decide +kernel
theorem dX3_leadBehindOther_7 : decode cX3_leadBehindOther 7 = .ok (.istore_n 2, 1) := by decide +kernel
theorem dX3_leadBehindOther_8 : decode cX3_leadBehindOther 8 = .ok (.iload_n 2, 1) := by decide +kernel
theorem dX3_leadBehindOther_9 : decode cX3_leadBehindOther 9 = .ok (.ifCond .ge 9, 3) := by decide +kernel
theorem dX3_leadBehindOther_12 : decode cX3_leadBehindOther 12 = .ok (.aload_n 0, 1) := by decide +kernel
theorem dX3_leadBehindOther_13 : decode cX3_leadBehindOther 13 = .ok (.iload_n 1, 1) := by decide +kernel
theorem dX3_leadBehindOther_14 : decode cX3_leadBehindOther 14 = .ok (.invokevirtual 193, 3) := by decide +kernel
theorem dX3_leadBehindOther_17 : decode cX3_leadBehindOther 17 = .ok (.ireturn, 1) := by decide +kernel
theorem dX3_leadBehindOther_18 : decode cX3_leadBehindOther 18 = .ok (.aload_n 0, 1) := by decide +kernel
theorem dX3_leadBehindOther_19 : decode cX3_leadBehindOther 19 = .ok (.iload_n 2, 1) := by decide +kernel
theorem dX3_leadBehindOther_20 : decode cX3_leadBehindOther 20 = .ok (.iconst 3, 1) := by decide +kernel
theorem dX3_leadBehindOther_21 : decode cX3_leadBehindOther 21 = .ok (.idiv, 1) := by decide +kernel
theorem dX3_leadBehindOther_22 : decode cX3_leadBehindOther 22 = .ok (.iload_n 2, 1) := by decide +kernel
theorem dX3_leadBehindOther_23 : decode cX3_leadBehindOther 23 = .ok (.iconst 3, 1) := by decide +kernel
theorem dX3_leadBehindOther_24 : decode cX3_leadBehindOther 24 = .ok (.irem, 1) := by decide +kernel
theorem dX3_leadBehindOther_25 : decode cX3_leadBehindOther 25 = .ok (.invokevirtual 164, 3) := by decide +kernel
theorem dX3_leadBehindOther_28 : decode cX3_leadBehindOther 28 = .ok (.aload_n 0, 1) := by decide +kernel
theorem dX3_leadBehindOther_29 : decode cX3_leadBehindOther 29 = .ok (.iload_n 1, 1) := by decide +kernel
theorem dX3_leadBehindOther_30 : decode cX3_leadBehindOther 30 = .ok (.invokevirtual 193, 3) := by decide +kernel
theorem dX3_leadBehindOther_33 : decode cX3_leadBehindOther 33 = .ok (.istore_n 3, 1) := by decide +kernel
theorem dX3_leadBehindOther_34 : decode cX3_leadBehindOther 34 = .ok (.aload_n 0, 1) := by decide +kernel
theorem dX3_leadBehindOther_35 : decode cX3_leadBehindOther 35 = .ok (.iload_n 2, 1) := by decide +kernel
theorem dX3_leadBehindOther_36 : decode cX3_leadBehindOther 36 = .ok (.iconst 3, 1) := by decide +kernel
theorem dX3_leadBehindOther_37 : decode cX3_leadBehindOther 37 = .ok (.idiv, 1) := by decide +kernel
theorem dX3_leadBehindOther_38 : decode cX3_leadBehindOther 38 = .ok (.iload_n 2, 1) := by decide +kernel
theorem dX3_leadBehindOther_39 : decode cX3_leadBehindOther 39 = .ok (.iconst 3, 1) := by decide +kernel
theorem dX3_leadBehindOther_40 : decode cX3_leadBehindOther 40 = .ok (.irem, 1) := by decide +kernel
theorem dX3_leadBehindOther_41 : decode cX3_leadBehindOther 41 = .ok (.invokevirtual 196, 3) := by decide +kernel
theorem dX3_leadBehindOther_44 : decode cX3_leadBehindOther 44 = .ok (.iload_n 3, 1) := by decide +kernel
theorem dX3_leadBehindOther_45 : decode cX3_leadBehindOther 45 = .ok (.ireturn, 1) := by decide +kernel
set_option maxRecDepth 20000 in
theorem ggX3_good_X3_noHouse : GoodIn wsX3_good wsX3_noHouse := goodIn_r _ [6, 7, 8, 5, 9] (by decide +kernel) (by decide +kernel)
set_option maxRecDepth 20000 in
theorem gX3_good_X3_noHouse : GoodIn wsX3_good (va_wsS RX3 155 yX3_noHouse wsX3_noHouse) := goodIn_app (goodIn_of _ (by decide +kernel)) ggX3_good_X3_noHouse
set_option maxRecDepth 20000 in
theorem ggX3_good_X3_in : GoodIn wsX3_good wsX3_in := goodIn_r _ [9] (by decide +kernel) (by decide +kernel)
set_option maxRecDepth 20000 in
theorem gX3_good_X3_in : GoodIn wsX3_good (va_wsS RX3 71 yX3_in wsX3_in) := goodIn_app (goodIn_of _ (by decide +kernel)) ggX3_good_X3_in
set_option maxRecDepth 20000 in
theorem ggX3_good_X3_goodMove : GoodIn wsX3_good wsX3_goodMove := goodIn_r _ [13, 2, 14, 15, 16, 5, 17, 18, 19, 20, 21, 22, 23, 24, 25, 26, 27, 28, 29, 30, 31, 32, 33, 34, 35, 36, 37, 38, 39, 40, 41, 42, 43, 44, 45, 46, 47, 48, 49, 50, 51, 52, 53, 54, 55, 56, 57, 58, 59, 60, 61, 62, 63, 64, 65, 66, 67, 68, 69, 70, 71, 72, 73, 74, 75, 76, 77, 78, 79, 80, 81, 82, 83, 84, 85] (by decide +kernel) (by decide +kernel)
set_option maxRecDepth 20000 in
theorem gX3_good_X3_goodMove : GoodIn wsX3_good (wsV RX3 199 RX3 yX3_goodMove wsX3_goodMove) := goodIn_app (goodIn_of _ (by decide +kernel)) ggX3_good_X3_goodMove
set_option maxRecDepth 20000 in
theorem ggX3_good_X3_doAct : GoodIn wsX3_good wsX3_doAct := goodIn_r _ [32, 24, 23, 60, 61, 62, 63, 64, 65, 66, 67, 68, 69, 70, 71, 72, 73, 74, 75, 76, 77, 78, 79, 80, 81, 82, 83, 84, 85] (by decide +kernel) (by decide +kernel)
set_option maxRecDepth 20000 in
theorem gX3_good_X3_doAct : GoodIn wsX3_good (wsV RX3 164 RX3 yX3_doAct wsX3_doAct) := goodIn_app (goodIn_of _ (by decide +kernel)) ggX3_good_X3_doAct
set_option maxRecDepth 20000 in
theorem ggX3_good_X3_leadOf : GoodIn wsX3_good wsX3_leadOf := goodIn_r _ [36, 37, 38, 39, 5, 40, 25, 41, 42, 43, 44, 45, 46, 47, 48, 49, 2, 18, 24, 50, 51, 52, 53, 54, 55, 23, 26, 27, 28, 60, 61, 62, 63, 64, 65, 66, 67, 68, 69, 70, 71, 72, 73, 74, 75, 76, 77, 78, 79, 80, 81, 82, 83, 84, 85] (by decide +kernel) (by decide +kernel)
set_option maxRecDepth 20000 in
theorem gX3_good_X3_leadOf : GoodIn wsX3_good (wsV RX3 193 RX3 yX3_leadOf wsX3_leadOf) := goodIn_app (goodIn_of _ (by decide +kernel)) ggX3_good_X3_leadOf
set_option maxRecDepth 20000 in
theorem ggX3_good_X3_undoAct : GoodIn wsX3_good wsX3_undoAct := goodIn_r _ [59, 24, 23, 60, 61, 62, 63, 64, 65, 66, 67, 68, 69, 70, 71, 72, 73, 74, 75, 76, 77, 78, 79, 80, 81, 82, 83, 84, 85] (by decide +kernel) (by decide +kernel)
set_option maxRecDepth 20000 in
theorem gX3_good_X3_undoAct : GoodIn wsX3_good (wsV RX3 196 RX3 yX3_undoAct wsX3_undoAct) := goodIn_app (goodIn_of _ (by decide +kernel)) ggX3_good_X3_undoAct
theorem dX3_good_0 : decode cX3_good 0 = .ok (.iload_n 1, 1) := by decide +kernel
theorem dX3_good_1 : decode cX3_good 1 = .ok (.invokestatic 155, 3) := by decide +kernel
theorem dX3_good_4 : decode cX3_good 4 = .ok (.ifCond .eq 5, 3) := by decide +kernel
theorem dX3_good_7 : decode cX3_good 7 = .ok (.iconst (-1), 1) := by decide +kernel
theorem dX3_good_8 : decode cX3_good 8 = .ok (.ireturn, 1) := by decide +kernel
theorem dX3_good_9 : decode cX3_good 9 = .ok (.iload_n 2, 1) := by decide +kernel
theorem dX3_good_10 : decode cX3_good 10 = .ok (.i2l, 1) := by decide +kernel
theorem dX3_good_11 : decode cX3_good 11 = .ok (.lconst 0, 1) := by decide +kernel
theorem dX3_good_12 : decode cX3_good 12 = .ok (.ldc2_w 120, 3) := by decide +kernel
theorem dX3_good_15 : decode cX3_good 15 = .ok (.invokestatic 71, 3) := by decide +kernel
theorem dX3_good_18 : decode cX3_good 18 = .ok (.ifCond .ne 6, 3) := by decide +kernel
theorem dX3_good_21 : decode cX3_good 21 = .ok (.bipush (-2), 2) := by decide +kernel
theorem dX3_good_23 : decode cX3_good 23 = .ok (.ireturn, 1) := by decide +kernel
theorem dX3_good_24 : decode cX3_good 24 = .ok (.aload_n 0, 1) := by decide +kernel
theorem dX3_good_25 : decode cX3_good 25 = .ok (.getfield 78, 3) := by decide +kernel
theorem dX3_good_28 : decode cX3_good 28 = .ok (.ifCond .ne 6, 3) := by decide +kernel
theorem dX3_good_31 : decode cX3_good 31 = .ok (.bipush (-3), 2) := by decide +kernel
theorem dX3_good_33 : decode cX3_good 33 = .ok (.ireturn, 1) := by decide +kernel
theorem dX3_good_34 : decode cX3_good 34 = .ok (.aload_n 0, 1) := by decide +kernel
theorem dX3_good_35 : decode cX3_good 35 = .ok (.iload_n 1, 1) := by decide +kernel
theorem dX3_good_36 : decode cX3_good 36 = .ok (.invokevirtual 199, 3) := by decide +kernel
theorem dX3_good_39 : decode cX3_good 39 = .ok (.istore_n 3, 1) := by decide +kernel
theorem dX3_good_40 : decode cX3_good 40 = .ok (.iload_n 3, 1) := by decide +kernel
theorem dX3_good_41 : decode cX3_good 41 = .ok (.ifCond .ge 6, 3) := by decide +kernel
theorem dX3_good_44 : decode cX3_good 44 = .ok (.bipush (-9), 2) := by decide +kernel
theorem dX3_good_46 : decode cX3_good 46 = .ok (.ireturn, 1) := by decide +kernel
theorem dX3_good_47 : decode cX3_good 47 = .ok (.aload_n 0, 1) := by decide +kernel
theorem dX3_good_48 : decode cX3_good 48 = .ok (.iload_n 3, 1) := by decide +kernel
theorem dX3_good_49 : decode cX3_good 49 = .ok (.iconst 3, 1) := by decide +kernel
theorem dX3_good_50 : decode cX3_good 50 = .ok (.idiv, 1) := by decide +kernel
theorem dX3_good_51 : decode cX3_good 51 = .ok (.iload_n 3, 1) := by decide +kernel
theorem dX3_good_52 : decode cX3_good 52 = .ok (.iconst 3, 1) := by decide +kernel
theorem dX3_good_53 : decode cX3_good 53 = .ok (.irem, 1) := by decide +kernel
theorem dX3_good_54 : decode cX3_good 54 = .ok (.invokevirtual 164, 3) := by decide +kernel
theorem dX3_good_57 : decode cX3_good 57 = .ok (.aload_n 0, 1) := by decide +kernel
theorem dX3_good_58 : decode cX3_good 58 = .ok (.iload_n 1, 1) := by decide +kernel
theorem dX3_good_59 : decode cX3_good 59 = .ok (.invokevirtual 193, 3) := by decide +kernel
theorem dX3_good_62 : decode cX3_good 62 = .ok (.istore 4, 2) := by decide +kernel
theorem dX3_good_64 : decode cX3_good 64 = .ok (.aload_n 0, 1) := by decide +kernel
theorem dX3_good_65 : decode cX3_good 65 = .ok (.iload_n 3, 1) := by decide +kernel
theorem dX3_good_66 : decode cX3_good 66 = .ok (.iconst 3, 1) := by decide +kernel
theorem dX3_good_67 : decode cX3_good 67 = .ok (.idiv, 1) := by decide +kernel
theorem dX3_good_68 : decode cX3_good 68 = .ok (.iload_n 3, 1) := by decide +kernel
theorem dX3_good_69 : decode cX3_good 69 = .ok (.iconst 3, 1) := by decide +kernel
theorem dX3_good_70 : decode cX3_good 70 = .ok (.irem, 1) := by decide +kernel
theorem dX3_good_71 : decode cX3_good 71 = .ok (.invokevirtual 196, 3) := by decide +kernel
theorem dX3_good_74 : decode cX3_good 74 = .ok (.iload_n 2, 1) := by decide +kernel
theorem dX3_good_75 : decode cX3_good 75 = .ok (.ifCond .ne 9, 3) := by decide +kernel
theorem dX3_good_78 : decode cX3_good 78 = .ok (.iload_n 3, 1) := by decide +kernel
theorem dX3_good_79 : decode cX3_good 79 = .ok (.iconst 3, 1) := by decide +kernel
theorem dX3_good_80 : decode cX3_good 80 = .ok (.idiv, 1) := by decide +kernel
theorem dX3_good_81 : decode cX3_good 81 = .ok (.goto 16, 3) := by decide +kernel
theorem dX3_good_84 : decode cX3_good 84 = .ok (.iload_n 2, 1) := by decide +kernel
theorem dX3_good_85 : decode cX3_good 85 = .ok (.iconst 1, 1) := by decide +kernel
theorem dX3_good_86 : decode cX3_good 86 = .ok (.if_icmp .ne 9, 3) := by decide +kernel
theorem dX3_good_89 : decode cX3_good 89 = .ok (.iload_n 3, 1) := by decide +kernel
theorem dX3_good_90 : decode cX3_good 90 = .ok (.iconst 3, 1) := by decide +kernel
theorem dX3_good_91 : decode cX3_good 91 = .ok (.irem, 1) := by decide +kernel
theorem dX3_good_92 : decode cX3_good 92 = .ok (.goto 5, 3) := by decide +kernel
theorem dX3_good_95 : decode cX3_good 95 = .ok (.iload 4, 2) := by decide +kernel
theorem dX3_good_97 : decode cX3_good 97 = .ok (.ireturn, 1) := by decide +kernel
set_option maxRecDepth 20000 in
theorem ggX3_safe_X3_noHouse : GoodIn wsX3_safe wsX3_noHouse := goodIn_r _ [6, 7, 8, 5, 9] (by decide +kernel) (by decide +kernel)
set_option maxRecDepth 20000 in
theorem gX3_safe_X3_noHouse : GoodIn wsX3_safe (va_wsS RX3 155 yX3_noHouse wsX3_noHouse) := goodIn_app (goodIn_of _ (by decide +kernel)) ggX3_safe_X3_noHouse
set_option maxRecDepth 20000 in
theorem ggX3_safe_X3_in : GoodIn wsX3_safe wsX3_in := goodIn_r _ [9] (by decide +kernel) (by decide +kernel)
set_option maxRecDepth 20000 in
theorem gX3_safe_X3_in : GoodIn wsX3_safe (va_wsS RX3 71 yX3_in wsX3_in) := goodIn_app (goodIn_of _ (by decide +kernel)) ggX3_safe_X3_in
set_option maxRecDepth 20000 in
theorem ggX3_safe_X3_mayMove : GoodIn wsX3_safe wsX3_mayMove := goodIn_r _ [13, 14, 15, 16, 17, 5, 18, 19, 20, 21, 22, 23, 24, 64, 65, 66, 67, 68, 69, 70, 71, 72, 73, 74, 75, 76, 77, 78, 79, 80, 81, 82, 83, 84, 85, 86, 87, 88, 89] (by decide +kernel) (by decide +kernel)
set_option maxRecDepth 20000 in
theorem gX3_safe_X3_mayMove : GoodIn wsX3_safe (wsV RX3 190 RX3 yX3_mayMove wsX3_mayMove) := goodIn_app (goodIn_of _ (by decide +kernel)) ggX3_safe_X3_mayMove
set_option maxRecDepth 20000 in
theorem ggX3_safe_X3_doAct : GoodIn wsX3_safe wsX3_doAct := goodIn_r _ [28, 20, 19, 64, 65, 66, 67, 68, 69, 70, 71, 72, 73, 74, 75, 76, 77, 78, 79, 80, 81, 82, 83, 84, 85, 86, 87, 88, 89] (by decide +kernel) (by decide +kernel)
set_option maxRecDepth 20000 in
theorem gX3_safe_X3_doAct : GoodIn wsX3_safe (wsV RX3 164 RX3 yX3_doAct wsX3_doAct) := goodIn_app (goodIn_of _ (by decide +kernel)) ggX3_safe_X3_doAct
set_option maxRecDepth 20000 in
theorem ggX3_safe_X3_leadBehindOther : GoodIn wsX3_safe wsX3_leadBehindOther := goodIn_r _ [32, 33, 34, 35, 5, 36, 2, 10, 11, 12, 13, 14, 15, 16, 17, 18, 19, 20, 21, 22, 23, 24, 25, 26, 27, 28, 37, 38, 39, 40, 41, 42, 43, 44, 45, 46, 47, 48, 49, 50, 51, 52, 53, 54, 55, 56, 57, 58, 59, 60, 61, 62, 63, 64, 65, 66, 67, 68, 69, 70, 71, 72, 73, 74, 75, 76, 77, 78, 79, 80, 81, 82, 83, 84, 85, 86, 87, 88, 89] (by decide +kernel) (by decide +kernel)
set_option maxRecDepth 20000 in
theorem gX3_safe_X3_leadBehindOther : GoodIn wsX3_safe (wsV RX3 202 RX3 yX3_leadBehindOther wsX3_leadBehindOther) := goodIn_app (goodIn_of _ (by decide +kernel)) ggX3_safe_X3_leadBehindOther
set_option maxRecDepth 20000 in
theorem ggX3_safe_X3_undoAct : GoodIn wsX3_safe wsX3_undoAct := goodIn_r _ [63, 20, 19, 64, 65, 66, 67, 68, 69, 70, 71, 72, 73, 74, 75, 76, 77, 78, 79, 80, 81, 82, 83, 84, 85, 86, 87, 88, 89] (by decide +kernel) (by decide +kernel)
set_option maxRecDepth 20000 in
theorem gX3_safe_X3_undoAct : GoodIn wsX3_safe (wsV RX3 196 RX3 yX3_undoAct wsX3_undoAct) := goodIn_app (goodIn_of _ (by decide +kernel)) ggX3_safe_X3_undoAct
theorem dX3_safe_0 : decode cX3_safe 0 = .ok (.iload_n 1, 1) := by decide +kernel
theorem dX3_safe_1 : decode cX3_safe 1 = .ok (.invokestatic 155, 3) := by decide +kernel
theorem dX3_safe_4 : decode cX3_safe 4 = .ok (.ifCond .eq 5, 3) := by decide +kernel
theorem dX3_safe_7 : decode cX3_safe 7 = .ok (.iconst (-1), 1) := by decide +kernel
theorem dX3_safe_8 : decode cX3_safe 8 = .ok (.ireturn, 1) := by decide +kernel
theorem dX3_safe_9 : decode cX3_safe 9 = .ok (.iload_n 2, 1) := by decide +kernel
theorem dX3_safe_10 : decode cX3_safe 10 = .ok (.i2l, 1) := by decide +kernel
theorem dX3_safe_11 : decode cX3_safe 11 = .ok (.lconst 0, 1) := by decide +kernel
theorem dX3_safe_12 : decode cX3_safe 12 = .ok (.ldc2_w 120, 3) := by decide +kernel
theorem dX3_safe_15 : decode cX3_safe 15 = .ok (.invokestatic 71, 3) := by decide +kernel
theorem dX3_safe_18 : decode cX3_safe 18 = .ok (.ifCond .ne 6, 3) := by decide +kernel
theorem dX3_safe_21 : decode cX3_safe 21 = .ok (.bipush (-2), 2) := by decide +kernel
theorem dX3_safe_23 : decode cX3_safe 23 = .ok (.ireturn, 1) := by decide +kernel
theorem dX3_safe_24 : decode cX3_safe 24 = .ok (.aload_n 0, 1) := by decide +kernel
theorem dX3_safe_25 : decode cX3_safe 25 = .ok (.getfield 78, 3) := by decide +kernel
theorem dX3_safe_28 : decode cX3_safe 28 = .ok (.ifCond .ne 6, 3) := by decide +kernel
theorem dX3_safe_31 : decode cX3_safe 31 = .ok (.bipush (-3), 2) := by decide +kernel
theorem dX3_safe_33 : decode cX3_safe 33 = .ok (.ireturn, 1) := by decide +kernel
theorem dX3_safe_34 : decode cX3_safe 34 = .ok (.bipush (-9), 2) := by decide +kernel
theorem dX3_safe_36 : decode cX3_safe 36 = .ok (.istore_n 3, 1) := by decide +kernel
theorem dX3_safe_37 : decode cX3_safe 37 = .ok (.bipush (-9), 2) := by decide +kernel
theorem dX3_safe_39 : decode cX3_safe 39 = .ok (.istore 4, 2) := by decide +kernel
theorem dX3_safe_41 : decode cX3_safe 41 = .ok (.iconst 0, 1) := by decide +kernel
theorem dX3_safe_42 : decode cX3_safe 42 = .ok (.istore 5, 2) := by decide +kernel
theorem dX3_safe_44 : decode cX3_safe 44 = .ok (.iload 5, 2) := by decide +kernel
theorem dX3_safe_46 : decode cX3_safe 46 = .ok (.iconst 3, 1) := by decide +kernel
theorem dX3_safe_47 : decode cX3_safe 47 = .ok (.aload_n 0, 1) := by decide +kernel
theorem dX3_safe_48 : decode cX3_safe 48 = .ok (.getfield 78, 3) := by decide +kernel
theorem dX3_safe_51 : decode cX3_safe 51 = .ok (.imul, 1) := by decide +kernel
theorem dX3_safe_52 : decode cX3_safe 52 = .ok (.if_icmp .ge 89, 3) := by decide +kernel
theorem dX3_safe_55 : decode cX3_safe 55 = .ok (.aload_n 0, 1) := by decide +kernel
theorem dX3_safe_56 : decode cX3_safe 56 = .ok (.iload_n 1, 1) := by decide +kernel
theorem dX3_safe_57 : decode cX3_safe 57 = .ok (.iload 5, 2) := by decide +kernel
theorem dX3_safe_59 : decode cX3_safe 59 = .ok (.invokevirtual 190, 3) := by decide +kernel
theorem dX3_safe_62 : decode cX3_safe 62 = .ok (.ifCond .eq 73, 3) := by decide +kernel
theorem dX3_safe_65 : decode cX3_safe 65 = .ok (.aload_n 0, 1) := by decide +kernel
theorem dX3_safe_66 : decode cX3_safe 66 = .ok (.iload 5, 2) := by decide +kernel
theorem dX3_safe_68 : decode cX3_safe 68 = .ok (.iconst 3, 1) := by decide +kernel
theorem dX3_safe_69 : decode cX3_safe 69 = .ok (.idiv, 1) := by decide +kernel
theorem dX3_safe_70 : decode cX3_safe 70 = .ok (.iload 5, 2) := by decide +kernel
theorem dX3_safe_72 : decode cX3_safe 72 = .ok (.iconst 3, 1) := by decide +kernel
theorem dX3_safe_73 : decode cX3_safe 73 = .ok (.irem, 1) := by decide +kernel
theorem dX3_safe_74 : decode cX3_safe 74 = .ok (.invokevirtual 164, 3) := by decide +kernel
theorem dX3_safe_77 : decode cX3_safe 77 = .ok (.aload_n 0, 1) := by decide +kernel
theorem dX3_safe_78 : decode cX3_safe 78 = .ok (.iload_n 1, 1) := by decide +kernel
theorem dX3_safe_79 : decode cX3_safe 79 = .ok (.invokevirtual 202, 3) := by decide +kernel
theorem dX3_safe_82 : decode cX3_safe 82 = .ok (.istore 6, 2) := by decide +kernel
theorem dX3_safe_84 : decode cX3_safe 84 = .ok (.aload_n 0, 1) := by decide +kernel
theorem dX3_safe_85 : decode cX3_safe 85 = .ok (.iload 5, 2) := by decide +kernel
theorem dX3_safe_87 : decode cX3_safe 87 = .ok (.iconst 3, 1) := by decide +kernel
theorem dX3_safe_88 : decode cX3_safe 88 = .ok (.idiv, 1) := by decide +kernel
theorem dX3_safe_89 : decode cX3_safe 89 = .ok (.iload 5, 2) := by decide +kernel
theorem dX3_safe_91 : decode cX3_safe 91 = .ok (.iconst 3, 1) := by decide +kernel
theorem dX3_safe_92 : decode cX3_safe 92 = .ok (.irem, 1) := by decide +kernel
theorem dX3_safe_93 : decode cX3_safe 93 = .ok (.invokevirtual 196, 3) := by decide +kernel
theorem dX3_safe_96 : decode cX3_safe 96 = .ok (.iload_n 3, 1) := by decide +kernel
theorem dX3_safe_97 : decode cX3_safe 97 = .ok (.ifCond .lt 10, 3) := by decide +kernel
theorem dX3_safe_100 : decode cX3_safe 100 = .ok (.iload 6, 2) := by decide +kernel
theorem dX3_safe_102 : decode cX3_safe 102 = .ok (.iload 4, 2) := by decide +kernel
theorem dX3_safe_104 : decode cX3_safe 104 = .ok (.if_icmp .le 8, 3) := by decide +kernel
theorem dX3_safe_107 : decode cX3_safe 107 = .ok (.iload 5, 2) := by decide +kernel
theorem dX3_safe_109 : decode cX3_safe 109 = .ok (.goto 4, 3) := by decide +kernel
theorem dX3_safe_112 : decode cX3_safe 112 = .ok (.iload_n 3, 1) := by decide +kernel
theorem dX3_safe_113 : decode cX3_safe 113 = .ok (.istore_n 3, 1) := by decide +kernel
theorem dX3_safe_114 : decode cX3_safe 114 = .ok (.iload 4, 2) := by decide +kernel
theorem dX3_safe_116 : decode cX3_safe 116 = .ok (.ifCond .lt 10, 3) := by decide +kernel
theorem dX3_safe_119 : decode cX3_safe 119 = .ok (.iload 6, 2) := by decide +kernel
theorem dX3_safe_121 : decode cX3_safe 121 = .ok (.iload 4, 2) := by decide +kernel
theorem dX3_safe_123 : decode cX3_safe 123 = .ok (.if_icmp .le 8, 3) := by decide +kernel
theorem dX3_safe_126 : decode cX3_safe 126 = .ok (.iload 6, 2) := by decide +kernel
theorem dX3_safe_128 : decode cX3_safe 128 = .ok (.goto 5, 3) := by decide +kernel
theorem dX3_safe_131 : decode cX3_safe 131 = .ok (.iload 4, 2) := by decide +kernel
theorem dX3_safe_133 : decode cX3_safe 133 = .ok (.istore 4, 2) := by decide +kernel
theorem dX3_safe_135 : decode cX3_safe 135 = .ok (.iinc 5 1, 3) := by decide +kernel
theorem dX3_safe_138 : decode cX3_safe 138 = .ok (.goto (-94), 3) := by decide +kernel
theorem dX3_safe_141 : decode cX3_safe 141 = .ok (.iload_n 3, 1) := by decide +kernel
theorem dX3_safe_142 : decode cX3_safe 142 = .ok (.ifCond .ge 8, 3) := by decide +kernel
theorem dX3_safe_145 : decode cX3_safe 145 = .ok (.bipush (-9), 2) := by decide +kernel
theorem dX3_safe_147 : decode cX3_safe 147 = .ok (.goto 26, 3) := by decide +kernel
theorem dX3_safe_150 : decode cX3_safe 150 = .ok (.iload_n 2, 1) := by decide +kernel
theorem dX3_safe_151 : decode cX3_safe 151 = .ok (.ifCond .ne 9, 3) := by decide +kernel
theorem dX3_safe_154 : decode cX3_safe 154 = .ok (.iload_n 3, 1) := by decide +kernel
theorem dX3_safe_155 : decode cX3_safe 155 = .ok (.iconst 3, 1) := by decide +kernel
theorem dX3_safe_156 : decode cX3_safe 156 = .ok (.idiv, 1) := by decide +kernel
theorem dX3_safe_157 : decode cX3_safe 157 = .ok (.goto 16, 3) := by decide +kernel
theorem dX3_safe_160 : decode cX3_safe 160 = .ok (.iload_n 2, 1) := by decide +kernel
theorem dX3_safe_161 : decode cX3_safe 161 = .ok (.iconst 1, 1) := by decide +kernel
theorem dX3_safe_162 : decode cX3_safe 162 = .ok (.if_icmp .ne 9, 3) := by decide +kernel
theorem dX3_safe_165 : decode cX3_safe 165 = .ok (.iload_n 3, 1) := by decide +kernel
theorem dX3_safe_166 : decode cX3_safe 166 = .ok (.iconst 3, 1) := by decide +kernel
theorem dX3_safe_167 : decode cX3_safe 167 = .ok (.irem, 1) := by decide +kernel
theorem dX3_safe_168 : decode cX3_safe 168 = .ok (.goto 5, 3) := by decide +kernel
theorem dX3_safe_171 : decode cX3_safe 171 = .ok (.iload 4, 2) := by decide +kernel
theorem dX3_safe_173 : decode cX3_safe 173 = .ok (.ireturn, 1) := by decide +kernel
set_option maxRecDepth 20000 in
theorem ggX3_need_X3_noHouse : GoodIn wsX3_need wsX3_noHouse := goodIn_r _ [8, 9, 10, 7, 11] (by decide +kernel) (by decide +kernel)
set_option maxRecDepth 20000 in
theorem gX3_need_X3_noHouse : GoodIn wsX3_need (va_wsS RX3 155 yX3_noHouse wsX3_noHouse) := goodIn_app (goodIn_of _ (by decide +kernel)) ggX3_need_X3_noHouse
set_option maxRecDepth 20000 in
theorem ggX3_need_X3_noSquare : GoodIn wsX3_need wsX3_noSquare := goodIn_r _ [15, 16, 9, 10, 7, 11, 30, 31, 32, 33, 34, 35, 36, 37, 38, 39, 40, 41, 42, 43, 44, 45, 46, 47, 48, 49, 50, 51, 52, 53, 54, 55] (by decide +kernel) (by decide +kernel)
set_option maxRecDepth 20000 in
theorem gX3_need_X3_noSquare : GoodIn wsX3_need (wsV RX3 144 RX3 yX3_noSquare wsX3_noSquare) := goodIn_app (goodIn_of _ (by decide +kernel)) ggX3_need_X3_noSquare
set_option maxRecDepth 20000 in
theorem ggX3_need_X3_mightIn : GoodIn wsX3_need wsX3_mightIn := goodIn_r _ [20, 1, 2, 3, 21, 22, 23, 7, 24, 25, 26, 4, 27, 28, 29, 30, 31, 32, 33, 34, 35, 36, 37, 38, 39, 40, 41, 42, 43, 44, 45, 46, 47, 48, 49, 50, 51, 52, 53, 54, 55] (by decide +kernel) (by decide +kernel)
set_option maxRecDepth 20000 in
theorem gX3_need_X3_mightIn : GoodIn wsX3_need (wsV RX3 149 RX3 yX3_mightIn wsX3_mightIn) := goodIn_app (goodIn_of _ (by decide +kernel)) ggX3_need_X3_mightIn
set_option maxRecDepth 20000 in
theorem ggX3_need_X3_isIn : GoodIn wsX3_need wsX3_isIn := goodIn_r _ [29] (by decide +kernel) (by decide +kernel)
set_option maxRecDepth 20000 in
theorem gX3_need_X3_isIn : GoodIn wsX3_need (va_wsS RX3 135 yX3_isIn wsX3_isIn) := goodIn_app (goodIn_of _ (by decide +kernel)) ggX3_need_X3_isIn
set_option maxRecDepth 20000 in
theorem ggX3_need_X3_mightOf : GoodIn wsX3_need wsX3_mightOf := goodIn_r _ [24, 25, 26, 4, 27, 28, 7, 29, 30, 31, 32, 33, 34, 35, 36, 37, 38, 39, 40, 41, 42, 43, 44, 45, 46, 47, 48, 49, 50, 51, 52, 53, 54, 55] (by decide +kernel) (by decide +kernel)
set_option maxRecDepth 20000 in
theorem gX3_need_X3_mightOf : GoodIn wsX3_need (wsV RX3 141 RX3 yX3_mightOf wsX3_mightOf) := goodIn_app (goodIn_of _ (by decide +kernel)) ggX3_need_X3_mightOf
theorem dX3_need_0 : decode cX3_need 0 = .ok (.iload_n 1, 1) := by decide +kernel
theorem dX3_need_1 : decode cX3_need 1 = .ok (.invokestatic 155, 3) := by decide +kernel
theorem dX3_need_4 : decode cX3_need 4 = .ok (.ifCond .ne 11, 3) := by decide +kernel
theorem dX3_need_7 : decode cX3_need 7 = .ok (.aload_n 0, 1) := by decide +kernel
theorem dX3_need_8 : decode cX3_need 8 = .ok (.iload_n 2, 1) := by decide +kernel
theorem dX3_need_9 : decode cX3_need 9 = .ok (.invokevirtual 144, 3) := by decide +kernel
theorem dX3_need_12 : decode cX3_need 12 = .ok (.ifCond .eq 5, 3) := by decide +kernel
theorem dX3_need_15 : decode cX3_need 15 = .ok (.iconst (-1), 1) := by decide +kernel
theorem dX3_need_16 : decode cX3_need 16 = .ok (.ireturn, 1) := by decide +kernel
theorem dX3_need_17 : decode cX3_need 17 = .ok (.bipush (-9), 2) := by decide +kernel
theorem dX3_need_19 : decode cX3_need 19 = .ok (.istore_n 3, 1) := by decide +kernel
theorem dX3_need_20 : decode cX3_need 20 = .ok (.iconst 0, 1) := by decide +kernel
theorem dX3_need_21 : decode cX3_need 21 = .ok (.istore 4, 2) := by decide +kernel
theorem dX3_need_23 : decode cX3_need 23 = .ok (.iload 4, 2) := by decide +kernel
theorem dX3_need_25 : decode cX3_need 25 = .ok (.iconst 1, 1) := by decide +kernel
theorem dX3_need_26 : decode cX3_need 26 = .ok (.aload_n 0, 1) := by decide +kernel
theorem dX3_need_27 : decode cX3_need 27 = .ok (.getfield 78, 3) := by decide +kernel
theorem dX3_need_30 : decode cX3_need 30 = .ok (.ishl, 1) := by decide +kernel
theorem dX3_need_31 : decode cX3_need 31 = .ok (.if_icmp .ge 202, 3) := by decide +kernel
theorem dX3_need_34 : decode cX3_need 34 = .ok (.aload_n 0, 1) := by decide +kernel
theorem dX3_need_35 : decode cX3_need 35 = .ok (.iload_n 1, 1) := by decide +kernel
theorem dX3_need_36 : decode cX3_need 36 = .ok (.iload_n 2, 1) := by decide +kernel
theorem dX3_need_37 : decode cX3_need 37 = .ok (.invokevirtual 149, 3) := by decide +kernel
theorem dX3_need_40 : decode cX3_need 40 = .ok (.istore 5, 2) := by decide +kernel
theorem dX3_need_42 : decode cX3_need 42 = .ok (.iconst 0, 1) := by decide +kernel
theorem dX3_need_43 : decode cX3_need 43 = .ok (.istore 6, 2) := by decide +kernel
theorem dX3_need_45 : decode cX3_need 45 = .ok (.iconst 1, 1) := by decide +kernel
theorem dX3_need_46 : decode cX3_need 46 = .ok (.istore 7, 2) := by decide +kernel
theorem dX3_need_48 : decode cX3_need 48 = .ok (.iconst 0, 1) := by decide +kernel
theorem dX3_need_49 : decode cX3_need 49 = .ok (.istore 8, 2) := by decide +kernel
theorem dX3_need_51 : decode cX3_need 51 = .ok (.iload 8, 2) := by decide +kernel
theorem dX3_need_53 : decode cX3_need 53 = .ok (.aload_n 0, 1) := by decide +kernel
theorem dX3_need_54 : decode cX3_need 54 = .ok (.getfield 78, 3) := by decide +kernel
theorem dX3_need_57 : decode cX3_need 57 = .ok (.if_icmp .ge 135, 3) := by decide +kernel
theorem dX3_need_60 : decode cX3_need 60 = .ok (.iload 4, 2) := by decide +kernel
theorem dX3_need_62 : decode cX3_need 62 = .ok (.iload 8, 2) := by decide +kernel
theorem dX3_need_64 : decode cX3_need 64 = .ok (.invokestatic 135, 3) := by decide +kernel
theorem dX3_need_67 : decode cX3_need 67 = .ok (.istore 9, 2) := by decide +kernel
theorem dX3_need_69 : decode cX3_need 69 = .ok (.iload 7, 2) := by decide +kernel
theorem dX3_need_71 : decode cX3_need 71 = .ok (.ifCond .eq 46, 3) := by decide +kernel
theorem dX3_need_74 : decode cX3_need 74 = .ok (.iload 9, 2) := by decide +kernel
theorem dX3_need_76 : decode cX3_need 76 = .ok (.ifCond .eq 37, 3) := by decide +kernel
theorem dX3_need_79 : decode cX3_need 79 = .ok (.aload_n 0, 1) := by decide +kernel
theorem dX3_need_80 : decode cX3_need 80 = .ok (.getfield 16, 3) := by decide +kernel
theorem dX3_need_83 : decode cX3_need 83 = .ok (.iload 8, 2) := by decide +kernel
theorem dX3_need_85 : decode cX3_need 85 = .ok (.iaload, 1) := by decide +kernel
theorem dX3_need_86 : decode cX3_need 86 = .ok (.iload_n 1, 1) := by decide +kernel
theorem dX3_need_87 : decode cX3_need 87 = .ok (.if_icmp .ne 30, 3) := by decide +kernel
theorem dX3_need_90 : decode cX3_need 90 = .ok (.aload_n 0, 1) := by decide +kernel
theorem dX3_need_91 : decode cX3_need 91 = .ok (.getfield 19, 3) := by decide +kernel
theorem dX3_need_94 : decode cX3_need 94 = .ok (.iload 8, 2) := by decide +kernel
theorem dX3_need_96 : decode cX3_need 96 = .ok (.iaload, 1) := by decide +kernel
theorem dX3_need_97 : decode cX3_need 97 = .ok (.iload_n 2, 1) := by decide +kernel
theorem dX3_need_98 : decode cX3_need 98 = .ok (.if_icmp .eq 19, 3) := by decide +kernel
theorem dX3_need_101 : decode cX3_need 101 = .ok (.aload_n 0, 1) := by decide +kernel
theorem dX3_need_102 : decode cX3_need 102 = .ok (.getfield 129, 3) := by decide +kernel
theorem dX3_need_105 : decode cX3_need 105 = .ok (.iload 8, 2) := by decide +kernel
theorem dX3_need_107 : decode cX3_need 107 = .ok (.invokestatic 135, 3) := by decide +kernel
theorem dX3_need_110 : decode cX3_need 110 = .ok (.ifCond .ne 7, 3) := by decide +kernel
theorem dX3_need_113 : decode cX3_need 113 = .ok (.iconst 1, 1) := by decide +kernel
theorem dX3_need_114 : decode cX3_need 114 = .ok (.goto 4, 3) := by decide +kernel
theorem dX3_need_117 : decode cX3_need 117 = .ok (.iconst 0, 1) := by decide +kernel
theorem dX3_need_118 : decode cX3_need 118 = .ok (.istore 7, 2) := by decide +kernel
theorem dX3_need_120 : decode cX3_need 120 = .ok (.iload 5, 2) := by decide +kernel
theorem dX3_need_122 : decode cX3_need 122 = .ok (.iload 9, 2) := by decide +kernel
theorem dX3_need_124 : decode cX3_need 124 = .ok (.ifCond .eq 12, 3) := by decide +kernel
theorem dX3_need_127 : decode cX3_need 127 = .ok (.aload_n 0, 1) := by decide +kernel
theorem dX3_need_128 : decode cX3_need 128 = .ok (.iload 8, 2) := by decide +kernel
theorem dX3_need_130 : decode cX3_need 130 = .ok (.invokevirtual 141, 3) := by decide +kernel
theorem dX3_need_133 : decode cX3_need 133 = .ok (.goto 4, 3) := by decide +kernel
theorem dX3_need_136 : decode cX3_need 136 = .ok (.iconst 0, 1) := by decide +kernel
theorem dX3_need_137 : decode cX3_need 137 = .ok (.iadd, 1) := by decide +kernel
theorem dX3_need_138 : decode cX3_need 138 = .ok (.istore 5, 2) := by decide +kernel
theorem dX3_need_140 : decode cX3_need 140 = .ok (.iload 6, 2) := by decide +kernel
theorem dX3_need_142 : decode cX3_need 142 = .ok (.iload 9, 2) := by decide +kernel
theorem dX3_need_144 : decode cX3_need 144 = .ok (.ifCond .eq 38, 3) := by decide +kernel
theorem dX3_need_147 : decode cX3_need 147 = .ok (.aload_n 0, 1) := by decide +kernel
theorem dX3_need_148 : decode cX3_need 148 = .ok (.getfield 19, 3) := by decide +kernel
theorem dX3_need_151 : decode cX3_need 151 = .ok (.iload 8, 2) := by decide +kernel
theorem dX3_need_153 : decode cX3_need 153 = .ok (.iaload, 1) := by decide +kernel
theorem dX3_need_154 : decode cX3_need 154 = .ok (.iload_n 2, 1) := by decide +kernel
theorem dX3_need_155 : decode cX3_need 155 = .ok (.if_icmp .ge 15, 3) := by decide +kernel
theorem dX3_need_158 : decode cX3_need 158 = .ok (.iload_n 2, 1) := by decide +kernel
theorem dX3_need_159 : decode cX3_need 159 = .ok (.aload_n 0, 1) := by decide +kernel
theorem dX3_need_160 : decode cX3_need 160 = .ok (.getfield 19, 3) := by decide +kernel
theorem dX3_need_163 : decode cX3_need 163 = .ok (.iload 8, 2) := by decide +kernel
theorem dX3_need_165 : decode cX3_need 165 = .ok (.iaload, 1) := by decide +kernel
theorem dX3_need_166 : decode cX3_need 166 = .ok (.isub, 1) := by decide +kernel
theorem dX3_need_167 : decode cX3_need 167 = .ok (.goto 16, 3) := by decide +kernel
theorem dX3_need_170 : decode cX3_need 170 = .ok (.aload_n 0, 1) := by decide +kernel
theorem dX3_need_171 : decode cX3_need 171 = .ok (.getfield 19, 3) := by decide +kernel
theorem dX3_need_174 : decode cX3_need 174 = .ok (.iload 8, 2) := by decide +kernel
theorem dX3_need_176 : decode cX3_need 176 = .ok (.iaload, 1) := by decide +kernel
theorem dX3_need_177 : decode cX3_need 177 = .ok (.iload_n 2, 1) := by decide +kernel
theorem dX3_need_178 : decode cX3_need 178 = .ok (.isub, 1) := by decide +kernel
theorem dX3_need_179 : decode cX3_need 179 = .ok (.goto 4, 3) := by decide +kernel
theorem dX3_need_182 : decode cX3_need 182 = .ok (.iconst 0, 1) := by decide +kernel
theorem dX3_need_183 : decode cX3_need 183 = .ok (.iadd, 1) := by decide +kernel
theorem dX3_need_184 : decode cX3_need 184 = .ok (.istore 6, 2) := by decide +kernel
theorem dX3_need_186 : decode cX3_need 186 = .ok (.iinc 8 1, 3) := by decide +kernel
theorem dX3_need_189 : decode cX3_need 189 = .ok (.goto (-138), 3) := by decide +kernel
theorem dX3_need_192 : decode cX3_need 192 = .ok (.iload 7, 2) := by decide +kernel
theorem dX3_need_194 : decode cX3_need 194 = .ok (.ifCond .eq 31, 3) := by decide +kernel
theorem dX3_need_197 : decode cX3_need 197 = .ok (.iload 5, 2) := by decide +kernel
theorem dX3_need_199 : decode cX3_need 199 = .ok (.aload_n 0, 1) := by decide +kernel
theorem dX3_need_200 : decode cX3_need 200 = .ok (.iconst 1, 1) := by decide +kernel
theorem dX3_need_201 : decode cX3_need 201 = .ok (.iload_n 1, 1) := by decide +kernel
theorem dX3_need_202 : decode cX3_need 202 = .ok (.isub, 1) := by decide +kernel
theorem dX3_need_203 : decode cX3_need 203 = .ok (.iload_n 2, 1) := by decide +kernel
theorem dX3_need_204 : decode cX3_need 204 = .ok (.invokevirtual 149, 3) := by decide +kernel
theorem dX3_need_207 : decode cX3_need 207 = .ok (.if_icmp .le 18, 3) := by decide +kernel
theorem dX3_need_210 : decode cX3_need 210 = .ok (.iload_n 3, 1) := by decide +kernel
theorem dX3_need_211 : decode cX3_need 211 = .ok (.ifCond .lt 9, 3) := by decide +kernel
theorem dX3_need_214 : decode cX3_need 214 = .ok (.iload 6, 2) := by decide +kernel
theorem dX3_need_216 : decode cX3_need 216 = .ok (.iload_n 3, 1) := by decide +kernel
theorem dX3_need_217 : decode cX3_need 217 = .ok (.if_icmp .ge 8, 3) := by decide +kernel
theorem dX3_need_220 : decode cX3_need 220 = .ok (.iload 6, 2) := by decide +kernel
theorem dX3_need_222 : decode cX3_need 222 = .ok (.goto 4, 3) := by decide +kernel
theorem dX3_need_225 : decode cX3_need 225 = .ok (.iload_n 3, 1) := by decide +kernel
theorem dX3_need_226 : decode cX3_need 226 = .ok (.istore_n 3, 1) := by decide +kernel
theorem dX3_need_227 : decode cX3_need 227 = .ok (.iinc 4 1, 3) := by decide +kernel
theorem dX3_need_230 : decode cX3_need 230 = .ok (.goto (-207), 3) := by decide +kernel
theorem dX3_need_233 : decode cX3_need 233 = .ok (.iload_n 3, 1) := by decide +kernel
theorem dX3_need_234 : decode cX3_need 234 = .ok (.ireturn, 1) := by decide +kernel
set_option maxRecDepth 20000 in
theorem ggX3_reading_X3_noSquare : GoodIn wsX3_reading wsX3_noSquare := goodIn_r _ [8, 9, 10, 11, 7, 12, 16, 17, 18, 19, 20, 21, 22, 23, 24, 25, 26, 27, 28, 29, 30, 31, 32, 33, 34, 35, 36, 37, 38, 39, 40, 41] (by decide +kernel) (by decide +kernel)
set_option maxRecDepth 20000 in
theorem gX3_reading_X3_noSquare : GoodIn wsX3_reading (wsV RX3 144 RX3 yX3_noSquare wsX3_noSquare) := goodIn_app (goodIn_of _ (by decide +kernel)) ggX3_reading_X3_noSquare
set_option maxRecDepth 20000 in
theorem ggX3_reading_X3_noHouse : GoodIn wsX3_reading wsX3_noHouse := goodIn_r _ [15, 10, 11, 7, 12] (by decide +kernel) (by decide +kernel)
set_option maxRecDepth 20000 in
theorem gX3_reading_X3_noHouse : GoodIn wsX3_reading (va_wsS RX3 155 yX3_noHouse wsX3_noHouse) := goodIn_app (goodIn_of _ (by decide +kernel)) ggX3_reading_X3_noHouse
theorem dX3_reading_0 : decode cX3_reading 0 = .ok (.aload_n 0, 1) := by decide +kernel
theorem dX3_reading_1 : decode cX3_reading 1 = .ok (.iload_n 1, 1) := by decide +kernel
theorem dX3_reading_2 : decode cX3_reading 2 = .ok (.invokevirtual 144, 3) := by decide +kernel
theorem dX3_reading_5 : decode cX3_reading 5 = .ok (.ifCond .ne 16, 3) := by decide +kernel
theorem dX3_reading_8 : decode cX3_reading 8 = .ok (.iload_n 2, 1) := by decide +kernel
theorem dX3_reading_9 : decode cX3_reading 9 = .ok (.bipush (-9), 2) := by decide +kernel
theorem dX3_reading_11 : decode cX3_reading 11 = .ok (.if_icmp .eq 12, 3) := by decide +kernel
theorem dX3_reading_14 : decode cX3_reading 14 = .ok (.iload_n 2, 1) := by decide +kernel
theorem dX3_reading_15 : decode cX3_reading 15 = .ok (.invokestatic 155, 3) := by decide +kernel
theorem dX3_reading_18 : decode cX3_reading 18 = .ok (.ifCond .eq 5, 3) := by decide +kernel
theorem dX3_reading_21 : decode cX3_reading 21 = .ok (.iconst (-1), 1) := by decide +kernel
theorem dX3_reading_22 : decode cX3_reading 22 = .ok (.ireturn, 1) := by decide +kernel
theorem dX3_reading_23 : decode cX3_reading 23 = .ok (.aload_n 0, 1) := by decide +kernel
theorem dX3_reading_24 : decode cX3_reading 24 = .ok (.getfield 132, 3) := by decide +kernel
theorem dX3_reading_27 : decode cX3_reading 27 = .ok (.bipush 8, 2) := by decide +kernel
theorem dX3_reading_29 : decode cX3_reading 29 = .ok (.if_icmp .ne 6, 3) := by decide +kernel
theorem dX3_reading_32 : decode cX3_reading 32 = .ok (.bipush (-4), 2) := by decide +kernel
theorem dX3_reading_34 : decode cX3_reading 34 = .ok (.ireturn, 1) := by decide +kernel
theorem dX3_reading_35 : decode cX3_reading 35 = .ok (.aload_n 0, 1) := by decide +kernel
theorem dX3_reading_36 : decode cX3_reading 36 = .ok (.getfield 43, 3) := by decide +kernel
theorem dX3_reading_39 : decode cX3_reading 39 = .ok (.aload_n 0, 1) := by decide +kernel
theorem dX3_reading_40 : decode cX3_reading 40 = .ok (.getfield 132, 3) := by decide +kernel
theorem dX3_reading_43 : decode cX3_reading 43 = .ok (.iload_n 1, 1) := by decide +kernel
theorem dX3_reading_44 : decode cX3_reading 44 = .ok (.iastore, 1) := by decide +kernel
theorem dX3_reading_45 : decode cX3_reading 45 = .ok (.aload_n 0, 1) := by decide +kernel
theorem dX3_reading_46 : decode cX3_reading 46 = .ok (.getfield 46, 3) := by decide +kernel
theorem dX3_reading_49 : decode cX3_reading 49 = .ok (.aload_n 0, 1) := by decide +kernel
theorem dX3_reading_50 : decode cX3_reading 50 = .ok (.getfield 132, 3) := by decide +kernel
theorem dX3_reading_53 : decode cX3_reading 53 = .ok (.iload_n 2, 1) := by decide +kernel
theorem dX3_reading_54 : decode cX3_reading 54 = .ok (.iastore, 1) := by decide +kernel
theorem dX3_reading_55 : decode cX3_reading 55 = .ok (.aload_n 0, 1) := by decide +kernel
theorem dX3_reading_56 : decode cX3_reading 56 = .ok (.dup, 1) := by decide +kernel
theorem dX3_reading_57 : decode cX3_reading 57 = .ok (.getfield 132, 3) := by decide +kernel
theorem dX3_reading_60 : decode cX3_reading 60 = .ok (.iconst 1, 1) := by decide +kernel
theorem dX3_reading_61 : decode cX3_reading 61 = .ok (.iadd, 1) := by decide +kernel
theorem dX3_reading_62 : decode cX3_reading 62 = .ok (.putfield 132, 3) := by decide +kernel
theorem dX3_reading_65 : decode cX3_reading 65 = .ok (.aload_n 0, 1) := by decide +kernel
theorem dX3_reading_66 : decode cX3_reading 66 = .ok (.getfield 132, 3) := by decide +kernel
theorem dX3_reading_69 : decode cX3_reading 69 = .ok (.iconst 1, 1) := by decide +kernel
theorem dX3_reading_70 : decode cX3_reading 70 = .ok (.isub, 1) := by decide +kernel
theorem dX3_reading_71 : decode cX3_reading 71 = .ok (.ireturn, 1) := by decide +kernel
set_option maxRecDepth 20000 in
theorem ggX3_back_X3_in : GoodIn wsX3_back wsX3_in := goodIn_r _ [5] (by decide +kernel) (by decide +kernel)
set_option maxRecDepth 20000 in
theorem gX3_back_X3_in : GoodIn wsX3_back (va_wsS RX3 71 yX3_in wsX3_in) := goodIn_app (goodIn_of _ (by decide +kernel)) ggX3_back_X3_in
theorem dX3_back_0 : decode cX3_back 0 = .ok (.iload_n 1, 1) := by decide +kernel
theorem dX3_back_1 : decode cX3_back 1 = .ok (.i2l, 1) := by decide +kernel
theorem dX3_back_2 : decode cX3_back 2 = .ok (.lconst 0, 1) := by decide +kernel
theorem dX3_back_3 : decode cX3_back 3 = .ok (.aload_n 0, 1) := by decide +kernel
theorem dX3_back_4 : decode cX3_back 4 = .ok (.getfield 132, 3) := by decide +kernel
theorem dX3_back_7 : decode cX3_back 7 = .ok (.i2l, 1) := by decide +kernel
theorem dX3_back_8 : decode cX3_back 8 = .ok (.invokestatic 71, 3) := by decide +kernel
theorem dX3_back_11 : decode cX3_back 11 = .ok (.ifCond .ne 6, 3) := by decide +kernel
theorem dX3_back_14 : decode cX3_back 14 = .ok (.bipush (-2), 2) := by decide +kernel
theorem dX3_back_16 : decode cX3_back 16 = .ok (.ireturn, 1) := by decide +kernel
theorem dX3_back_17 : decode cX3_back 17 = .ok (.aload_n 0, 1) := by decide +kernel
theorem dX3_back_18 : decode cX3_back 18 = .ok (.dup, 1) := by decide +kernel
theorem dX3_back_19 : decode cX3_back 19 = .ok (.getfield 132, 3) := by decide +kernel
theorem dX3_back_22 : decode cX3_back 22 = .ok (.iload_n 1, 1) := by decide +kernel
theorem dX3_back_23 : decode cX3_back 23 = .ok (.isub, 1) := by decide +kernel
theorem dX3_back_24 : decode cX3_back 24 = .ok (.putfield 132, 3) := by decide +kernel
theorem dX3_back_27 : decode cX3_back 27 = .ok (.aload_n 0, 1) := by decide +kernel
theorem dX3_back_28 : decode cX3_back 28 = .ok (.getfield 132, 3) := by decide +kernel
theorem dX3_back_31 : decode cX3_back 31 = .ok (.ireturn, 1) := by decide +kernel
set_option maxRecDepth 20000 in
theorem ggX3_areSo_X3_holder : GoodIn wsX3_areSo wsX3_holder := goodIn_r _ [8, 9, 10, 11, 7, 12, 13, 14, 15, 16, 17, 18, 19, 20, 21, 22, 23, 24, 25, 26, 27, 28, 29, 30, 31, 32, 33, 34, 35, 36, 37, 38, 39, 40, 41, 42, 43, 44, 45, 46, 47, 48, 49, 50, 51] (by decide +kernel) (by decide +kernel)
set_option maxRecDepth 20000 in
theorem gX3_areSo_X3_holder : GoodIn wsX3_areSo (wsV RX3 152 RX3 yX3_holder wsX3_holder) := goodIn_app (goodIn_of _ (by decide +kernel)) ggX3_areSo_X3_holder
theorem dX3_areSo_0 : decode cX3_areSo 0 = .ok (.iconst 1, 1) := by decide +kernel
theorem dX3_areSo_1 : decode cX3_areSo 1 = .ok (.istore_n 1, 1) := by decide +kernel
theorem dX3_areSo_2 : decode cX3_areSo 2 = .ok (.iconst 0, 1) := by decide +kernel
theorem dX3_areSo_3 : decode cX3_areSo 3 = .ok (.istore_n 2, 1) := by decide +kernel
theorem dX3_areSo_4 : decode cX3_areSo 4 = .ok (.iload_n 2, 1) := by decide +kernel
theorem dX3_areSo_5 : decode cX3_areSo 5 = .ok (.aload_n 0, 1) := by decide +kernel
theorem dX3_areSo_6 : decode cX3_areSo 6 = .ok (.getfield 132, 3) := by decide +kernel
theorem dX3_areSo_9 : decode cX3_areSo 9 = .ok (.if_icmp .ge 38, 3) := by decide +kernel
theorem dX3_areSo_12 : decode cX3_areSo 12 = .ok (.iload_n 1, 1) := by decide +kernel
theorem dX3_areSo_13 : decode cX3_areSo 13 = .ok (.ifCond .eq 26, 3) := by decide +kernel
theorem dX3_areSo_16 : decode cX3_areSo 16 = .ok (.aload_n 0, 1) := by decide +kernel
theorem dX3_areSo_17 : decode cX3_areSo 17 = .ok (.aload_n 0, 1) := by decide +kernel
theorem dX3_areSo_18 : decode cX3_areSo 18 = .ok (.getfield 43, 3) := by decide +kernel
theorem dX3_areSo_21 : decode cX3_areSo 21 = .ok (.iload_n 2, 1) := by decide +kernel
theorem dX3_areSo_22 : decode cX3_areSo 22 = .ok (.iaload, 1) := by decide +kernel
theorem dX3_areSo_23 : decode cX3_areSo 23 = .ok (.invokevirtual 152, 3) := by decide +kernel
theorem dX3_areSo_26 : decode cX3_areSo 26 = .ok (.aload_n 0, 1) := by decide +kernel
theorem dX3_areSo_27 : decode cX3_areSo 27 = .ok (.getfield 46, 3) := by decide +kernel
theorem dX3_areSo_30 : decode cX3_areSo 30 = .ok (.iload_n 2, 1) := by decide +kernel
theorem dX3_areSo_31 : decode cX3_areSo 31 = .ok (.iaload, 1) := by decide +kernel
theorem dX3_areSo_32 : decode cX3_areSo 32 = .ok (.if_icmp .ne 7, 3) := by decide +kernel
theorem dX3_areSo_35 : decode cX3_areSo 35 = .ok (.iconst 1, 1) := by decide +kernel
theorem dX3_areSo_36 : decode cX3_areSo 36 = .ok (.goto 4, 3) := by decide +kernel
theorem dX3_areSo_39 : decode cX3_areSo 39 = .ok (.iconst 0, 1) := by decide +kernel
theorem dX3_areSo_40 : decode cX3_areSo 40 = .ok (.istore_n 1, 1) := by decide +kernel
theorem dX3_areSo_41 : decode cX3_areSo 41 = .ok (.iinc 2 1, 3) := by decide +kernel
theorem dX3_areSo_44 : decode cX3_areSo 44 = .ok (.goto (-40), 3) := by decide +kernel
theorem dX3_areSo_47 : decode cX3_areSo 47 = .ok (.iload_n 1, 1) := by decide +kernel
theorem dX3_areSo_48 : decode cX3_areSo 48 = .ok (.ireturn, 1) := by decide +kernel
set_option maxRecDepth 20000 in
theorem ggX3_strengths_X3_noThing : GoodIn wsX3_strengths wsX3_noThing := goodIn_r _ [6, 7, 8, 9, 5, 10, 37, 38, 39, 40, 41, 42, 43, 44, 45, 46, 47, 48, 49, 50, 51, 52, 53, 54, 55, 56, 57, 58, 59, 60, 61, 62] (by decide +kernel) (by decide +kernel)
set_option maxRecDepth 20000 in
theorem gX3_strengths_X3_noThing : GoodIn wsX3_strengths (wsV RX3 138 RX3 yX3_noThing wsX3_noThing) := goodIn_app (goodIn_of _ (by decide +kernel)) ggX3_strengths_X3_noThing
set_option maxRecDepth 20000 in
theorem ggX3_strengths_X3_areSo : GoodIn wsX3_strengths wsX3_areSo := goodIn_r _ [14, 15, 16, 17, 18, 19, 20, 5, 21, 22, 23, 24, 25, 7, 26, 27, 28, 29, 30, 31, 1, 32, 33, 34, 35, 36, 37, 38, 39, 40, 41, 42, 43, 44, 45, 46, 47, 48, 49, 50, 51, 52, 53, 54, 55, 56, 57, 58, 59, 60, 61, 62] (by decide +kernel) (by decide +kernel)
set_option maxRecDepth 20000 in
theorem gX3_strengths_X3_areSo : GoodIn wsX3_strengths (wsV RX3 205 RX3 yX3_areSo wsX3_areSo) := goodIn_app (goodIn_of _ (by decide +kernel)) ggX3_strengths_X3_areSo
theorem dX3_strengths_0 : decode cX3_strengths 0 = .ok (.aload_n 0, 1) := by decide +kernel
theorem dX3_strengths_1 : decode cX3_strengths 1 = .ok (.iload_n 1, 1) := by decide +kernel
theorem dX3_strengths_2 : decode cX3_strengths 2 = .ok (.invokevirtual 138, 3) := by decide +kernel
theorem dX3_strengths_5 : decode cX3_strengths 5 = .ok (.ifCond .eq 5, 3) := by decide +kernel
theorem dX3_strengths_8 : decode cX3_strengths 8 = .ok (.iconst (-1), 1) := by decide +kernel
theorem dX3_strengths_9 : decode cX3_strengths 9 = .ok (.ireturn, 1) := by decide +kernel
theorem dX3_strengths_10 : decode cX3_strengths 10 = .ok (.aload_n 0, 1) := by decide +kernel
theorem dX3_strengths_11 : decode cX3_strengths 11 = .ok (.getfield 22, 3) := by decide +kernel
theorem dX3_strengths_14 : decode cX3_strengths 14 = .ok (.iload_n 1, 1) := by decide +kernel
theorem dX3_strengths_15 : decode cX3_strengths 15 = .ok (.iaload, 1) := by decide +kernel
theorem dX3_strengths_16 : decode cX3_strengths 16 = .ok (.istore_n 2, 1) := by decide +kernel
theorem dX3_strengths_17 : decode cX3_strengths 17 = .ok (.iconst 0, 1) := by decide +kernel
theorem dX3_strengths_18 : decode cX3_strengths 18 = .ok (.istore_n 3, 1) := by decide +kernel
theorem dX3_strengths_19 : decode cX3_strengths 19 = .ok (.iconst 0, 1) := by decide +kernel
theorem dX3_strengths_20 : decode cX3_strengths 20 = .ok (.istore 4, 2) := by decide +kernel
theorem dX3_strengths_22 : decode cX3_strengths 22 = .ok (.iload 4, 2) := by decide +kernel
theorem dX3_strengths_24 : decode cX3_strengths 24 = .ok (.bipush 10, 2) := by decide +kernel
theorem dX3_strengths_26 : decode cX3_strengths 26 = .ok (.if_icmp .ge 35, 3) := by decide +kernel
theorem dX3_strengths_29 : decode cX3_strengths 29 = .ok (.aload_n 0, 1) := by decide +kernel
theorem dX3_strengths_30 : decode cX3_strengths 30 = .ok (.getfield 22, 3) := by decide +kernel
theorem dX3_strengths_33 : decode cX3_strengths 33 = .ok (.iload_n 1, 1) := by decide +kernel
theorem dX3_strengths_34 : decode cX3_strengths 34 = .ok (.iload 4, 2) := by decide +kernel
theorem dX3_strengths_36 : decode cX3_strengths 36 = .ok (.iastore, 1) := by decide +kernel
theorem dX3_strengths_37 : decode cX3_strengths 37 = .ok (.iload_n 3, 1) := by decide +kernel
theorem dX3_strengths_38 : decode cX3_strengths 38 = .ok (.aload_n 0, 1) := by decide +kernel
theorem dX3_strengths_39 : decode cX3_strengths 39 = .ok (.invokevirtual 205, 3) := by decide +kernel
theorem dX3_strengths_42 : decode cX3_strengths 42 = .ok (.ifCond .eq 10, 3) := by decide +kernel
theorem dX3_strengths_45 : decode cX3_strengths 45 = .ok (.iconst 1, 1) := by decide +kernel
theorem dX3_strengths_46 : decode cX3_strengths 46 = .ok (.iload 4, 2) := by decide +kernel
theorem dX3_strengths_48 : decode cX3_strengths 48 = .ok (.ishl, 1) := by decide +kernel
theorem dX3_strengths_49 : decode cX3_strengths 49 = .ok (.goto 4, 3) := by decide +kernel
theorem dX3_strengths_52 : decode cX3_strengths 52 = .ok (.iconst 0, 1) := by decide +kernel
theorem dX3_strengths_53 : decode cX3_strengths 53 = .ok (.ior, 1) := by decide +kernel
theorem dX3_strengths_54 : decode cX3_strengths 54 = .ok (.istore_n 3, 1) := by decide +kernel
theorem dX3_strengths_55 : decode cX3_strengths 55 = .ok (.iinc 4 1, 3) := by decide +kernel
theorem dX3_strengths_58 : decode cX3_strengths 58 = .ok (.goto (-36), 3) := by decide +kernel
theorem dX3_strengths_61 : decode cX3_strengths 61 = .ok (.aload_n 0, 1) := by decide +kernel
theorem dX3_strengths_62 : decode cX3_strengths 62 = .ok (.getfield 22, 3) := by decide +kernel
theorem dX3_strengths_65 : decode cX3_strengths 65 = .ok (.iload_n 1, 1) := by decide +kernel
theorem dX3_strengths_66 : decode cX3_strengths 66 = .ok (.iload_n 2, 1) := by decide +kernel
theorem dX3_strengths_67 : decode cX3_strengths 67 = .ok (.iastore, 1) := by decide +kernel
theorem dX3_strengths_68 : decode cX3_strengths 68 = .ok (.iload_n 3, 1) := by decide +kernel
theorem dX3_strengths_69 : decode cX3_strengths 69 = .ok (.ireturn, 1) := by decide +kernel
set_option maxRecDepth 20000 in
theorem ggX3_kinds_X3_noThing : GoodIn wsX3_kinds wsX3_noThing := goodIn_r _ [6, 7, 8, 9, 5, 10, 37, 38, 39, 40, 41, 42, 43, 44, 45, 46, 47, 48, 49, 50, 51, 52, 53, 54, 55, 56, 57, 58, 59, 60, 61, 62] (by decide +kernel) (by decide +kernel)
set_option maxRecDepth 20000 in
theorem gX3_kinds_X3_noThing : GoodIn wsX3_kinds (wsV RX3 138 RX3 yX3_noThing wsX3_noThing) := goodIn_app (goodIn_of _ (by decide +kernel)) ggX3_kinds_X3_noThing
set_option maxRecDepth 20000 in
theorem ggX3_kinds_X3_areSo : GoodIn wsX3_kinds wsX3_areSo := goodIn_r _ [14, 15, 16, 17, 18, 19, 20, 5, 21, 22, 23, 24, 25, 7, 26, 27, 28, 29, 30, 31, 32, 1, 33, 34, 35, 36, 37, 38, 39, 40, 41, 42, 43, 44, 45, 46, 47, 48, 49, 50, 51, 52, 53, 54, 55, 56, 57, 58, 59, 60, 61, 62] (by decide +kernel) (by decide +kernel)
set_option maxRecDepth 20000 in
theorem gX3_kinds_X3_areSo : GoodIn wsX3_kinds (wsV RX3 205 RX3 yX3_areSo wsX3_areSo) := goodIn_app (goodIn_of _ (by decide +kernel)) ggX3_kinds_X3_areSo
theorem dX3_kinds_0 : decode cX3_kinds 0 = .ok (.aload_n 0, 1) := by decide +kernel
theorem dX3_kinds_1 : decode cX3_kinds 1 = .ok (.iload_n 1, 1) := by decide +kernel
theorem dX3_kinds_2 : decode cX3_kinds 2 = .ok (.invokevirtual 138, 3) := by decide +kernel
theorem dX3_kinds_5 : decode cX3_kinds 5 = .ok (.ifCond .eq 5, 3) := by decide +kernel
theorem dX3_kinds_8 : decode cX3_kinds 8 = .ok (.iconst (-1), 1) := by decide +kernel
theorem dX3_kinds_9 : decode cX3_kinds 9 = .ok (.ireturn, 1) := by decide +kernel
theorem dX3_kinds_10 : decode cX3_kinds 10 = .ok (.aload_n 0, 1) := by decide +kernel
theorem dX3_kinds_11 : decode cX3_kinds 11 = .ok (.getfield 13, 3) := by decide +kernel
theorem dX3_kinds_14 : decode cX3_kinds 14 = .ok (.iload_n 1, 1) := by decide +kernel
theorem dX3_kinds_15 : decode cX3_kinds 15 = .ok (.iaload, 1) := by decide +kernel
theorem dX3_kinds_16 : decode cX3_kinds 16 = .ok (.istore_n 2, 1) := by decide +kernel
theorem dX3_kinds_17 : decode cX3_kinds 17 = .ok (.iconst 0, 1) := by decide +kernel
theorem dX3_kinds_18 : decode cX3_kinds 18 = .ok (.istore_n 3, 1) := by decide +kernel
theorem dX3_kinds_19 : decode cX3_kinds 19 = .ok (.iconst 0, 1) := by decide +kernel
theorem dX3_kinds_20 : decode cX3_kinds 20 = .ok (.istore 4, 2) := by decide +kernel
theorem dX3_kinds_22 : decode cX3_kinds 22 = .ok (.iload 4, 2) := by decide +kernel
theorem dX3_kinds_24 : decode cX3_kinds 24 = .ok (.iconst 3, 1) := by decide +kernel
theorem dX3_kinds_25 : decode cX3_kinds 25 = .ok (.if_icmp .ge 35, 3) := by decide +kernel
theorem dX3_kinds_28 : decode cX3_kinds 28 = .ok (.aload_n 0, 1) := by decide +kernel
theorem dX3_kinds_29 : decode cX3_kinds 29 = .ok (.getfield 13, 3) := by decide +kernel
theorem dX3_kinds_32 : decode cX3_kinds 32 = .ok (.iload_n 1, 1) := by decide +kernel
theorem dX3_kinds_33 : decode cX3_kinds 33 = .ok (.iload 4, 2) := by decide +kernel
theorem dX3_kinds_35 : decode cX3_kinds 35 = .ok (.iastore, 1) := by decide +kernel
theorem dX3_kinds_36 : decode cX3_kinds 36 = .ok (.iload_n 3, 1) := by decide +kernel
theorem dX3_kinds_37 : decode cX3_kinds 37 = .ok (.aload_n 0, 1) := by decide +kernel
theorem dX3_kinds_38 : decode cX3_kinds 38 = .ok (.invokevirtual 205, 3) := by decide +kernel
theorem dX3_kinds_41 : decode cX3_kinds 41 = .ok (.ifCond .eq 10, 3) := by decide +kernel
theorem dX3_kinds_44 : decode cX3_kinds 44 = .ok (.iconst 1, 1) := by decide +kernel
theorem dX3_kinds_45 : decode cX3_kinds 45 = .ok (.iload 4, 2) := by decide +kernel
theorem dX3_kinds_47 : decode cX3_kinds 47 = .ok (.ishl, 1) := by decide +kernel
theorem dX3_kinds_48 : decode cX3_kinds 48 = .ok (.goto 4, 3) := by decide +kernel
theorem dX3_kinds_51 : decode cX3_kinds 51 = .ok (.iconst 0, 1) := by decide +kernel
theorem dX3_kinds_52 : decode cX3_kinds 52 = .ok (.ior, 1) := by decide +kernel
theorem dX3_kinds_53 : decode cX3_kinds 53 = .ok (.istore_n 3, 1) := by decide +kernel
theorem dX3_kinds_54 : decode cX3_kinds 54 = .ok (.iinc 4 1, 3) := by decide +kernel
theorem dX3_kinds_57 : decode cX3_kinds 57 = .ok (.goto (-35), 3) := by decide +kernel
theorem dX3_kinds_60 : decode cX3_kinds 60 = .ok (.aload_n 0, 1) := by decide +kernel
theorem dX3_kinds_61 : decode cX3_kinds 61 = .ok (.getfield 13, 3) := by decide +kernel
theorem dX3_kinds_64 : decode cX3_kinds 64 = .ok (.iload_n 1, 1) := by decide +kernel
theorem dX3_kinds_65 : decode cX3_kinds 65 = .ok (.iload_n 2, 1) := by decide +kernel
theorem dX3_kinds_66 : decode cX3_kinds 66 = .ok (.iastore, 1) := by decide +kernel
theorem dX3_kinds_67 : decode cX3_kinds 67 = .ok (.iload_n 3, 1) := by decide +kernel
theorem dX3_kinds_68 : decode cX3_kinds 68 = .ok (.ireturn, 1) := by decide +kernel
set_option maxRecDepth 20000 in
theorem ggX3_spots_X3_noThing : GoodIn wsX3_spots wsX3_noThing := goodIn_r _ [7, 8, 9, 10, 6, 11, 38, 39, 40, 41, 42, 43, 44, 45, 46, 47, 48, 49, 50, 51, 52, 53, 54, 55, 56, 57, 58, 59, 60, 61, 62, 63] (by decide +kernel) (by decide +kernel)
set_option maxRecDepth 20000 in
theorem gX3_spots_X3_noThing : GoodIn wsX3_spots (wsV RX3 138 RX3 yX3_noThing wsX3_noThing) := goodIn_app (goodIn_of _ (by decide +kernel)) ggX3_spots_X3_noThing
set_option maxRecDepth 20000 in
theorem ggX3_spots_X3_areSo : GoodIn wsX3_spots wsX3_areSo := goodIn_r _ [15, 16, 17, 18, 19, 20, 21, 6, 22, 23, 24, 25, 26, 8, 27, 1, 28, 29, 30, 31, 32, 33, 34, 35, 36, 37, 38, 39, 40, 41, 42, 43, 44, 45, 46, 47, 48, 49, 50, 51, 52, 53, 54, 55, 56, 57, 58, 59, 60, 61, 62, 63] (by decide +kernel) (by decide +kernel)
set_option maxRecDepth 20000 in
theorem gX3_spots_X3_areSo : GoodIn wsX3_spots (wsV RX3 205 RX3 yX3_areSo wsX3_areSo) := goodIn_app (goodIn_of _ (by decide +kernel)) ggX3_spots_X3_areSo
theorem dX3_spots_0 : decode cX3_spots 0 = .ok (.aload_n 0, 1) := by decide +kernel
theorem dX3_spots_1 : decode cX3_spots 1 = .ok (.iload_n 1, 1) := by decide +kernel
theorem dX3_spots_2 : decode cX3_spots 2 = .ok (.invokevirtual 138, 3) := by decide +kernel
theorem dX3_spots_5 : decode cX3_spots 5 = .ok (.ifCond .eq 5, 3) := by decide +kernel
theorem dX3_spots_8 : decode cX3_spots 8 = .ok (.iconst (-1), 1) := by decide +kernel
theorem dX3_spots_9 : decode cX3_spots 9 = .ok (.ireturn, 1) := by decide +kernel
theorem dX3_spots_10 : decode cX3_spots 10 = .ok (.aload_n 0, 1) := by decide +kernel
theorem dX3_spots_11 : decode cX3_spots 11 = .ok (.getfield 19, 3) := by decide +kernel
theorem dX3_spots_14 : decode cX3_spots 14 = .ok (.iload_n 1, 1) := by decide +kernel
theorem dX3_spots_15 : decode cX3_spots 15 = .ok (.iaload, 1) := by decide +kernel
theorem dX3_spots_16 : decode cX3_spots 16 = .ok (.istore_n 2, 1) := by decide +kernel
theorem dX3_spots_17 : decode cX3_spots 17 = .ok (.iconst 0, 1) := by decide +kernel
theorem dX3_spots_18 : decode cX3_spots 18 = .ok (.istore_n 3, 1) := by decide +kernel
theorem dX3_spots_19 : decode cX3_spots 19 = .ok (.iconst 0, 1) := by decide +kernel
theorem dX3_spots_20 : decode cX3_spots 20 = .ok (.istore 4, 2) := by decide +kernel
theorem dX3_spots_22 : decode cX3_spots 22 = .ok (.iload 4, 2) := by decide +kernel
theorem dX3_spots_24 : decode cX3_spots 24 = .ok (.aload_n 0, 1) := by decide +kernel
theorem dX3_spots_25 : decode cX3_spots 25 = .ok (.getfield 75, 3) := by decide +kernel
theorem dX3_spots_28 : decode cX3_spots 28 = .ok (.if_icmp .ge 35, 3) := by decide +kernel
theorem dX3_spots_31 : decode cX3_spots 31 = .ok (.aload_n 0, 1) := by decide +kernel
theorem dX3_spots_32 : decode cX3_spots 32 = .ok (.getfield 19, 3) := by decide +kernel
theorem dX3_spots_35 : decode cX3_spots 35 = .ok (.iload_n 1, 1) := by decide +kernel
theorem dX3_spots_36 : decode cX3_spots 36 = .ok (.iload 4, 2) := by decide +kernel
theorem dX3_spots_38 : decode cX3_spots 38 = .ok (.iastore, 1) := by decide +kernel
theorem dX3_spots_39 : decode cX3_spots 39 = .ok (.iload_n 3, 1) := by decide +kernel
theorem dX3_spots_40 : decode cX3_spots 40 = .ok (.aload_n 0, 1) := by decide +kernel
theorem dX3_spots_41 : decode cX3_spots 41 = .ok (.invokevirtual 205, 3) := by decide +kernel
theorem dX3_spots_44 : decode cX3_spots 44 = .ok (.ifCond .eq 10, 3) := by decide +kernel
theorem dX3_spots_47 : decode cX3_spots 47 = .ok (.iconst 1, 1) := by decide +kernel
theorem dX3_spots_48 : decode cX3_spots 48 = .ok (.iload 4, 2) := by decide +kernel
theorem dX3_spots_50 : decode cX3_spots 50 = .ok (.ishl, 1) := by decide +kernel
theorem dX3_spots_51 : decode cX3_spots 51 = .ok (.goto 4, 3) := by decide +kernel
theorem dX3_spots_54 : decode cX3_spots 54 = .ok (.iconst 0, 1) := by decide +kernel
theorem dX3_spots_55 : decode cX3_spots 55 = .ok (.ior, 1) := by decide +kernel
theorem dX3_spots_56 : decode cX3_spots 56 = .ok (.istore_n 3, 1) := by decide +kernel
theorem dX3_spots_57 : decode cX3_spots 57 = .ok (.iinc 4 1, 3) := by decide +kernel
theorem dX3_spots_60 : decode cX3_spots 60 = .ok (.goto (-38), 3) := by decide +kernel
theorem dX3_spots_63 : decode cX3_spots 63 = .ok (.aload_n 0, 1) := by decide +kernel
theorem dX3_spots_64 : decode cX3_spots 64 = .ok (.getfield 19, 3) := by decide +kernel
theorem dX3_spots_67 : decode cX3_spots 67 = .ok (.iload_n 1, 1) := by decide +kernel
theorem dX3_spots_68 : decode cX3_spots 68 = .ok (.iload_n 2, 1) := by decide +kernel
theorem dX3_spots_69 : decode cX3_spots 69 = .ok (.iastore, 1) := by decide +kernel
theorem dX3_spots_70 : decode cX3_spots 70 = .ok (.iload_n 3, 1) := by decide +kernel
theorem dX3_spots_71 : decode cX3_spots 71 = .ok (.ireturn, 1) := by decide +kernel
set_option maxRecDepth 20000 in
theorem ggX3_odds_X3_noHouse : GoodIn wsX3_odds wsX3_noHouse := goodIn_r _ [6, 7, 8, 5, 9] (by decide +kernel) (by decide +kernel)
set_option maxRecDepth 20000 in
theorem gX3_odds_X3_noHouse : GoodIn wsX3_odds (va_wsS RX3 155 yX3_noHouse wsX3_noHouse) := goodIn_app (goodIn_of _ (by decide +kernel)) ggX3_odds_X3_noHouse
set_option maxRecDepth 20000 in
theorem ggX3_odds_X3_in : GoodIn wsX3_odds wsX3_in := goodIn_r _ [9] (by decide +kernel) (by decide +kernel)
set_option maxRecDepth 20000 in
theorem gX3_odds_X3_in : GoodIn wsX3_odds (va_wsS RX3 71 yX3_in wsX3_in) := goodIn_app (goodIn_of _ (by decide +kernel)) ggX3_odds_X3_in
set_option maxRecDepth 20000 in
theorem ggX3_odds_X3_lost : GoodIn wsX3_odds wsX3_lost := goodIn_r _ [12, 13] (by decide +kernel) (by decide +kernel)
set_option maxRecDepth 20000 in
theorem gX3_odds_X3_lost : GoodIn wsX3_odds (va_wsS RX3 67 yX3_lost wsX3_lost) := goodIn_app (goodIn_of _ (by decide +kernel)) ggX3_odds_X3_lost
set_option maxRecDepth 20000 in
theorem ggX3_odds_X3_landOf : GoodIn wsX3_odds wsX3_landOf := goodIn_r _ [17, 18, 19, 20, 21, 22, 5, 23, 24, 25, 26, 27, 1, 28, 29, 30, 31, 32, 33, 34, 35, 2, 36, 37, 38, 42, 43, 44, 45, 46, 47, 48, 49, 50, 51, 52, 53, 54, 55, 56, 57, 58, 59, 60, 61, 62, 63, 64, 65, 66, 67] (by decide +kernel) (by decide +kernel)
set_option maxRecDepth 20000 in
theorem gX3_odds_X3_landOf : GoodIn wsX3_odds (wsV RX3 158 RX3 yX3_landOf wsX3_landOf) := goodIn_app (goodIn_of _ (by decide +kernel)) ggX3_odds_X3_landOf
set_option maxRecDepth 20000 in
theorem ggX3_odds_X3_share : GoodIn wsX3_odds wsX3_share := goodIn_r _ [41] (by decide +kernel) (by decide +kernel)
set_option maxRecDepth 20000 in
theorem gX3_odds_X3_share : GoodIn wsX3_odds (va_wsS RX3 209 yX3_share wsX3_share) := goodIn_app (goodIn_of _ (by decide +kernel)) ggX3_odds_X3_share
theorem dX3_odds_0 : decode cX3_odds 0 = .ok (.iload_n 1, 1) := by decide +kernel
theorem dX3_odds_1 : decode cX3_odds 1 = .ok (.invokestatic 155, 3) := by decide +kernel
theorem dX3_odds_4 : decode cX3_odds 4 = .ok (.ifCond .ne 20, 3) := by decide +kernel
theorem dX3_odds_7 : decode cX3_odds 7 = .ok (.iload_n 2, 1) := by decide +kernel
theorem dX3_odds_8 : decode cX3_odds 8 = .ok (.i2l, 1) := by decide +kernel
theorem dX3_odds_9 : decode cX3_odds 9 = .ok (.lconst 0, 1) := by decide +kernel
theorem dX3_odds_10 : decode cX3_odds 10 = .ok (.lconst 1, 1) := by decide +kernel
theorem dX3_odds_11 : decode cX3_odds 11 = .ok (.invokestatic 71, 3) := by decide +kernel
theorem dX3_odds_14 : decode cX3_odds 14 = .ok (.ifCond .eq 10, 3) := by decide +kernel
theorem dX3_odds_17 : decode cX3_odds 17 = .ok (.aload_n 0, 1) := by decide +kernel
theorem dX3_odds_18 : decode cX3_odds 18 = .ok (.getfield 78, 3) := by decide +kernel
theorem dX3_odds_21 : decode cX3_odds 21 = .ok (.ifCond .ne 7, 3) := by decide +kernel
theorem dX3_odds_24 : decode cX3_odds 24 = .ok (.invokestatic 67, 3) := by decide +kernel
theorem dX3_odds_27 : decode cX3_odds 27 = .ok (.lreturn, 1) := by decide +kernel
theorem dX3_odds_28 : decode cX3_odds 28 = .ok (.aload_n 0, 1) := by decide +kernel
theorem dX3_odds_29 : decode cX3_odds 29 = .ok (.getfield 129, 3) := by decide +kernel
theorem dX3_odds_32 : decode cX3_odds 32 = .ok (.istore_n 3, 1) := by decide +kernel
theorem dX3_odds_33 : decode cX3_odds 33 = .ok (.lconst 0, 1) := by decide +kernel
theorem dX3_odds_34 : decode cX3_odds 34 = .ok (.lstore 4, 2) := by decide +kernel
theorem dX3_odds_36 : decode cX3_odds 36 = .ok (.lconst 0, 1) := by decide +kernel
theorem dX3_odds_37 : decode cX3_odds 37 = .ok (.lstore 6, 2) := by decide +kernel
theorem dX3_odds_39 : decode cX3_odds 39 = .ok (.iconst 0, 1) := by decide +kernel
theorem dX3_odds_40 : decode cX3_odds 40 = .ok (.istore 8, 2) := by decide +kernel
theorem dX3_odds_42 : decode cX3_odds 42 = .ok (.iload 8, 2) := by decide +kernel
theorem dX3_odds_44 : decode cX3_odds 44 = .ok (.iconst 1, 1) := by decide +kernel
theorem dX3_odds_45 : decode cX3_odds 45 = .ok (.aload_n 0, 1) := by decide +kernel
theorem dX3_odds_46 : decode cX3_odds 46 = .ok (.getfield 78, 3) := by decide +kernel
theorem dX3_odds_49 : decode cX3_odds 49 = .ok (.ishl, 1) := by decide +kernel
theorem dX3_odds_50 : decode cX3_odds 50 = .ok (.if_icmp .ge 55, 3) := by decide +kernel
theorem dX3_odds_53 : decode cX3_odds 53 = .ok (.iload 8, 2) := by decide +kernel
theorem dX3_odds_55 : decode cX3_odds 55 = .ok (.iload_n 3, 1) := by decide +kernel
theorem dX3_odds_56 : decode cX3_odds 56 = .ok (.iand, 1) := by decide +kernel
theorem dX3_odds_57 : decode cX3_odds 57 = .ok (.ifCond .ne 42, 3) := by decide +kernel
theorem dX3_odds_60 : decode cX3_odds 60 = .ok (.aload_n 0, 1) := by decide +kernel
theorem dX3_odds_61 : decode cX3_odds 61 = .ok (.iload_n 3, 1) := by decide +kernel
theorem dX3_odds_62 : decode cX3_odds 62 = .ok (.iload 8, 2) := by decide +kernel
theorem dX3_odds_64 : decode cX3_odds 64 = .ok (.ior, 1) := by decide +kernel
theorem dX3_odds_65 : decode cX3_odds 65 = .ok (.putfield 129, 3) := by decide +kernel
theorem dX3_odds_68 : decode cX3_odds 68 = .ok (.lload 6, 2) := by decide +kernel
theorem dX3_odds_70 : decode cX3_odds 70 = .ok (.lconst 1, 1) := by decide +kernel
theorem dX3_odds_71 : decode cX3_odds 71 = .ok (.ladd, 1) := by decide +kernel
theorem dX3_odds_72 : decode cX3_odds 72 = .ok (.lstore 6, 2) := by decide +kernel
theorem dX3_odds_74 : decode cX3_odds 74 = .ok (.lload 4, 2) := by decide +kernel
theorem dX3_odds_76 : decode cX3_odds 76 = .ok (.aload_n 0, 1) := by decide +kernel
theorem dX3_odds_77 : decode cX3_odds 77 = .ok (.iload_n 1, 1) := by decide +kernel
theorem dX3_odds_78 : decode cX3_odds 78 = .ok (.invokevirtual 158, 3) := by decide +kernel
theorem dX3_odds_81 : decode cX3_odds 81 = .ok (.aload_n 0, 1) := by decide +kernel
theorem dX3_odds_82 : decode cX3_odds 82 = .ok (.iconst 1, 1) := by decide +kernel
theorem dX3_odds_83 : decode cX3_odds 83 = .ok (.iload_n 1, 1) := by decide +kernel
theorem dX3_odds_84 : decode cX3_odds 84 = .ok (.isub, 1) := by decide +kernel
theorem dX3_odds_85 : decode cX3_odds 85 = .ok (.invokevirtual 158, 3) := by decide +kernel
theorem dX3_odds_88 : decode cX3_odds 88 = .ok (.if_icmp .le 7, 3) := by decide +kernel
theorem dX3_odds_91 : decode cX3_odds 91 = .ok (.lconst 1, 1) := by decide +kernel
theorem dX3_odds_92 : decode cX3_odds 92 = .ok (.goto 4, 3) := by decide +kernel
theorem dX3_odds_95 : decode cX3_odds 95 = .ok (.lconst 0, 1) := by decide +kernel
theorem dX3_odds_96 : decode cX3_odds 96 = .ok (.ladd, 1) := by decide +kernel
theorem dX3_odds_97 : decode cX3_odds 97 = .ok (.lstore 4, 2) := by decide +kernel
theorem dX3_odds_99 : decode cX3_odds 99 = .ok (.iinc 8 1, 3) := by decide +kernel
theorem dX3_odds_102 : decode cX3_odds 102 = .ok (.goto (-60), 3) := by decide +kernel
theorem dX3_odds_105 : decode cX3_odds 105 = .ok (.aload_n 0, 1) := by decide +kernel
theorem dX3_odds_106 : decode cX3_odds 106 = .ok (.iload_n 3, 1) := by decide +kernel
theorem dX3_odds_107 : decode cX3_odds 107 = .ok (.putfield 129, 3) := by decide +kernel
theorem dX3_odds_110 : decode cX3_odds 110 = .ok (.lload 4, 2) := by decide +kernel
theorem dX3_odds_112 : decode cX3_odds 112 = .ok (.lload 6, 2) := by decide +kernel
theorem dX3_odds_114 : decode cX3_odds 114 = .ok (.iload_n 2, 1) := by decide +kernel
theorem dX3_odds_115 : decode cX3_odds 115 = .ok (.invokestatic 209, 3) := by decide +kernel
theorem dX3_odds_118 : decode cX3_odds 118 = .ok (.lreturn, 1) := by decide +kernel
set_option maxRecDepth 20000 in
theorem ggX3_noSheet_X3_in : GoodIn wsX3_noSheet wsX3_in := goodIn_r _ [5] (by decide +kernel) (by decide +kernel)
set_option maxRecDepth 20000 in
theorem gX3_noSheet_X3_in : GoodIn wsX3_noSheet (va_wsS RX3 71 yX3_in wsX3_in) := goodIn_app (goodIn_of _ (by decide +kernel)) ggX3_noSheet_X3_in
theorem dX3_noSheet_0 : decode cX3_noSheet 0 = .ok (.iload_n 0, 1) := by decide +kernel
theorem dX3_noSheet_1 : decode cX3_noSheet 1 = .ok (.i2l, 1) := by decide +kernel
theorem dX3_noSheet_2 : decode cX3_noSheet 2 = .ok (.lconst 0, 1) := by decide +kernel
theorem dX3_noSheet_3 : decode cX3_noSheet 3 = .ok (.ldc2_w 174, 3) := by decide +kernel
theorem dX3_noSheet_6 : decode cX3_noSheet 6 = .ok (.invokestatic 71, 3) := by decide +kernel
theorem dX3_noSheet_9 : decode cX3_noSheet 9 = .ok (.ifCond .ne 7, 3) := by decide +kernel
theorem dX3_noSheet_12 : decode cX3_noSheet 12 = .ok (.iconst 1, 1) := by decide +kernel
theorem dX3_noSheet_13 : decode cX3_noSheet 13 = .ok (.goto 4, 3) := by decide +kernel
theorem dX3_noSheet_16 : decode cX3_noSheet 16 = .ok (.iconst 0, 1) := by decide +kernel
theorem dX3_noSheet_17 : decode cX3_noSheet 17 = .ok (.ireturn, 1) := by decide +kernel
set_option maxRecDepth 20000 in
theorem ggX3_sheet_X3_noSheet : GoodIn wsX3_sheet wsX3_noSheet := goodIn_r _ [8, 9, 10, 11, 7, 12] (by decide +kernel) (by decide +kernel)
set_option maxRecDepth 20000 in
theorem gX3_sheet_X3_noSheet : GoodIn wsX3_sheet (va_wsS RX3 113 yX3_noSheet wsX3_noSheet) := goodIn_app (goodIn_of _ (by decide +kernel)) ggX3_sheet_X3_noSheet
set_option maxRecDepth 20000 in
theorem ggX3_sheet_X3_refused : GoodIn wsX3_sheet wsX3_refused := goodIn_r _ [16, 17, 22, 23, 24, 25, 26, 27, 28, 29, 30, 31, 32, 33, 34, 35, 36, 37, 38, 39, 40, 41, 42, 43, 44, 45, 46, 47] (by decide +kernel) (by decide +kernel)
set_option maxRecDepth 20000 in
theorem gX3_sheet_X3_refused : GoodIn wsX3_sheet (wsV RX3 117 RX3 yX3_refused wsX3_refused) := goodIn_app (goodIn_of _ (by decide +kernel)) ggX3_sheet_X3_refused
set_option maxRecDepth 20000 in
theorem ggX3_sheet_X3_in : GoodIn wsX3_sheet wsX3_in := goodIn_r _ [12] (by decide +kernel) (by decide +kernel)
set_option maxRecDepth 20000 in
theorem gX3_sheet_X3_in : GoodIn wsX3_sheet (va_wsS RX3 71 yX3_in wsX3_in) := goodIn_app (goodIn_of _ (by decide +kernel)) ggX3_sheet_X3_in
set_option maxRecDepth 20000 in
theorem ggX3_sheet_X3_failed : GoodIn wsX3_sheet wsX3_failed := goodIn_r _ [21, 17, 22, 23, 24, 25, 26, 27, 28, 29, 30, 31, 32, 33, 34, 35, 36, 37, 38, 39, 40, 41, 42, 43, 44, 45, 46, 47] (by decide +kernel) (by decide +kernel)
set_option maxRecDepth 20000 in
theorem gX3_sheet_X3_failed : GoodIn wsX3_sheet (wsV RX3 105 RX3 yX3_failed wsX3_failed) := goodIn_app (goodIn_of _ (by decide +kernel)) ggX3_sheet_X3_failed
theorem dX3_sheet_0 : decode cX3_sheet 0 = .ok (.iload_n 1, 1) := by decide +kernel
theorem dX3_sheet_1 : decode cX3_sheet 1 = .ok (.invokestatic 113, 3) := by decide +kernel
theorem dX3_sheet_4 : decode cX3_sheet 4 = .ok (.ifCond .eq 9, 3) := by decide +kernel
theorem dX3_sheet_7 : decode cX3_sheet 7 = .ok (.aload_n 0, 1) := by decide +kernel
theorem dX3_sheet_8 : decode cX3_sheet 8 = .ok (.iconst (-1), 1) := by decide +kernel
theorem dX3_sheet_9 : decode cX3_sheet 9 = .ok (.invokevirtual 117, 3) := by decide +kernel
theorem dX3_sheet_12 : decode cX3_sheet 12 = .ok (.ireturn, 1) := by decide +kernel
theorem dX3_sheet_13 : decode cX3_sheet 13 = .ok (.iload_n 2, 1) := by decide +kernel
theorem dX3_sheet_14 : decode cX3_sheet 14 = .ok (.i2l, 1) := by decide +kernel
theorem dX3_sheet_15 : decode cX3_sheet 15 = .ok (.lconst 0, 1) := by decide +kernel
theorem dX3_sheet_16 : decode cX3_sheet 16 = .ok (.ldc2_w 120, 3) := by decide +kernel
theorem dX3_sheet_19 : decode cX3_sheet 19 = .ok (.invokestatic 71, 3) := by decide +kernel
theorem dX3_sheet_22 : decode cX3_sheet 22 = .ok (.ifCond .eq 9, 3) := by decide +kernel
theorem dX3_sheet_25 : decode cX3_sheet 25 = .ok (.iload_n 3, 1) := by decide +kernel
theorem dX3_sheet_26 : decode cX3_sheet 26 = .ok (.bipush 60, 2) := by decide +kernel
theorem dX3_sheet_28 : decode cX3_sheet 28 = .ok (.if_icmp .le 10, 3) := by decide +kernel
theorem dX3_sheet_31 : decode cX3_sheet 31 = .ok (.aload_n 0, 1) := by decide +kernel
theorem dX3_sheet_32 : decode cX3_sheet 32 = .ok (.bipush (-2), 2) := by decide +kernel
theorem dX3_sheet_34 : decode cX3_sheet 34 = .ok (.invokevirtual 117, 3) := by decide +kernel
theorem dX3_sheet_37 : decode cX3_sheet 37 = .ok (.ireturn, 1) := by decide +kernel
theorem dX3_sheet_38 : decode cX3_sheet 38 = .ok (.iload_n 3, 1) := by decide +kernel
theorem dX3_sheet_39 : decode cX3_sheet 39 = .ok (.ifCond .ge 9, 3) := by decide +kernel
theorem dX3_sheet_42 : decode cX3_sheet 42 = .ok (.aload_n 0, 1) := by decide +kernel
theorem dX3_sheet_43 : decode cX3_sheet 43 = .ok (.iconst 4, 1) := by decide +kernel
theorem dX3_sheet_44 : decode cX3_sheet 44 = .ok (.invokevirtual 105, 3) := by decide +kernel
theorem dX3_sheet_47 : decode cX3_sheet 47 = .ok (.ireturn, 1) := by decide +kernel
theorem dX3_sheet_48 : decode cX3_sheet 48 = .ok (.aload_n 0, 1) := by decide +kernel
theorem dX3_sheet_49 : decode cX3_sheet 49 = .ok (.getfield 49, 3) := by decide +kernel
theorem dX3_sheet_52 : decode cX3_sheet 52 = .ok (.iload_n 1, 1) := by decide +kernel
theorem dX3_sheet_53 : decode cX3_sheet 53 = .ok (.iload_n 3, 1) := by decide +kernel
theorem dX3_sheet_54 : decode cX3_sheet 54 = .ok (.iastore, 1) := by decide +kernel
theorem dX3_sheet_55 : decode cX3_sheet 55 = .ok (.aload_n 0, 1) := by decide +kernel
theorem dX3_sheet_56 : decode cX3_sheet 56 = .ok (.getfield 52, 3) := by decide +kernel
theorem dX3_sheet_59 : decode cX3_sheet 59 = .ok (.iload_n 1, 1) := by decide +kernel
theorem dX3_sheet_60 : decode cX3_sheet 60 = .ok (.iload_n 2, 1) := by decide +kernel
theorem dX3_sheet_61 : decode cX3_sheet 61 = .ok (.iastore, 1) := by decide +kernel
theorem dX3_sheet_62 : decode cX3_sheet 62 = .ok (.iconst 0, 1) := by decide +kernel
theorem dX3_sheet_63 : decode cX3_sheet 63 = .ok (.istore 4, 2) := by decide +kernel
theorem dX3_sheet_65 : decode cX3_sheet 65 = .ok (.iload 4, 2) := by decide +kernel
theorem dX3_sheet_67 : decode cX3_sheet 67 = .ok (.iload_n 3, 1) := by decide +kernel
theorem dX3_sheet_68 : decode cX3_sheet 68 = .ok (.if_icmp .ge 22, 3) := by decide +kernel
theorem dX3_sheet_71 : decode cX3_sheet 71 = .ok (.aload_n 0, 1) := by decide +kernel
theorem dX3_sheet_72 : decode cX3_sheet 72 = .ok (.getfield 55, 3) := by decide +kernel
theorem dX3_sheet_75 : decode cX3_sheet 75 = .ok (.bipush 60, 2) := by decide +kernel
theorem dX3_sheet_77 : decode cX3_sheet 77 = .ok (.iload_n 1, 1) := by decide +kernel
theorem dX3_sheet_78 : decode cX3_sheet 78 = .ok (.imul, 1) := by decide +kernel
theorem dX3_sheet_79 : decode cX3_sheet 79 = .ok (.iload 4, 2) := by decide +kernel
theorem dX3_sheet_81 : decode cX3_sheet 81 = .ok (.iadd, 1) := by decide +kernel
theorem dX3_sheet_82 : decode cX3_sheet 82 = .ok (.iconst 0, 1) := by decide +kernel
theorem dX3_sheet_83 : decode cX3_sheet 83 = .ok (.iastore, 1) := by decide +kernel
theorem dX3_sheet_84 : decode cX3_sheet 84 = .ok (.iinc 4 1, 3) := by decide +kernel
theorem dX3_sheet_87 : decode cX3_sheet 87 = .ok (.goto (-22), 3) := by decide +kernel
theorem dX3_sheet_90 : decode cX3_sheet 90 = .ok (.aload_n 0, 1) := by decide +kernel
theorem dX3_sheet_91 : decode cX3_sheet 91 = .ok (.iconst 1, 1) := by decide +kernel
theorem dX3_sheet_92 : decode cX3_sheet 92 = .ok (.invokevirtual 117, 3) := by decide +kernel
theorem dX3_sheet_95 : decode cX3_sheet 95 = .ok (.ireturn, 1) := by decide +kernel
set_option maxRecDepth 20000 in
theorem ggX3_lose_X3_noSheet : GoodIn wsX3_lose wsX3_noSheet := goodIn_r _ [5, 6, 7, 8, 4, 9] (by decide +kernel) (by decide +kernel)
set_option maxRecDepth 20000 in
theorem gX3_lose_X3_noSheet : GoodIn wsX3_lose (va_wsS RX3 113 yX3_noSheet wsX3_noSheet) := goodIn_app (goodIn_of _ (by decide +kernel)) ggX3_lose_X3_noSheet
theorem dX3_lose_0 : decode cX3_lose 0 = .ok (.iload_n 1, 1) := by decide +kernel
theorem dX3_lose_1 : decode cX3_lose 1 = .ok (.invokestatic 113, 3) := by decide +kernel
theorem dX3_lose_4 : decode cX3_lose 4 = .ok (.ifCond .eq 5, 3) := by decide +kernel
theorem dX3_lose_7 : decode cX3_lose 7 = .ok (.iconst (-1), 1) := by decide +kernel
theorem dX3_lose_8 : decode cX3_lose 8 = .ok (.ireturn, 1) := by decide +kernel
theorem dX3_lose_9 : decode cX3_lose 9 = .ok (.aload_n 0, 1) := by decide +kernel
theorem dX3_lose_10 : decode cX3_lose 10 = .ok (.getfield 49, 3) := by decide +kernel
theorem dX3_lose_13 : decode cX3_lose 13 = .ok (.iload_n 1, 1) := by decide +kernel
theorem dX3_lose_14 : decode cX3_lose 14 = .ok (.iaload, 1) := by decide +kernel
theorem dX3_lose_15 : decode cX3_lose 15 = .ok (.ifCond .ge 7, 3) := by decide +kernel
theorem dX3_lose_18 : decode cX3_lose 18 = .ok (.iconst 0, 1) := by decide +kernel
theorem dX3_lose_19 : decode cX3_lose 19 = .ok (.goto 4, 3) := by decide +kernel
theorem dX3_lose_22 : decode cX3_lose 22 = .ok (.iconst 1, 1) := by decide +kernel
theorem dX3_lose_23 : decode cX3_lose 23 = .ok (.istore_n 2, 1) := by decide +kernel
theorem dX3_lose_24 : decode cX3_lose 24 = .ok (.aload_n 0, 1) := by decide +kernel
theorem dX3_lose_25 : decode cX3_lose 25 = .ok (.getfield 49, 3) := by decide +kernel
theorem dX3_lose_28 : decode cX3_lose 28 = .ok (.iload_n 1, 1) := by decide +kernel
theorem dX3_lose_29 : decode cX3_lose 29 = .ok (.iconst (-1), 1) := by decide +kernel
theorem dX3_lose_30 : decode cX3_lose 30 = .ok (.iastore, 1) := by decide +kernel
theorem dX3_lose_31 : decode cX3_lose 31 = .ok (.iload_n 2, 1) := by decide +kernel
theorem dX3_lose_32 : decode cX3_lose 32 = .ok (.ireturn, 1) := by decide +kernel
set_option maxRecDepth 20000 in
theorem ggX3_noCell_X3_in : GoodIn wsX3_noCell wsX3_in := goodIn_r _ [5] (by decide +kernel) (by decide +kernel)
set_option maxRecDepth 20000 in
theorem gX3_noCell_X3_in : GoodIn wsX3_noCell (va_wsS RX3 71 yX3_in wsX3_in) := goodIn_app (goodIn_of _ (by decide +kernel)) ggX3_noCell_X3_in
theorem dX3_noCell_0 : decode cX3_noCell 0 = .ok (.aload_n 0, 1) := by decide +kernel
theorem dX3_noCell_1 : decode cX3_noCell 1 = .ok (.getfield 49, 3) := by decide +kernel
theorem dX3_noCell_4 : decode cX3_noCell 4 = .ok (.iload_n 1, 1) := by decide +kernel
theorem dX3_noCell_5 : decode cX3_noCell 5 = .ok (.iaload, 1) := by decide +kernel
theorem dX3_noCell_6 : decode cX3_noCell 6 = .ok (.ifCond .ge 7, 3) := by decide +kernel
theorem dX3_noCell_9 : decode cX3_noCell 9 = .ok (.iconst 1, 1) := by decide +kernel
theorem dX3_noCell_10 : decode cX3_noCell 10 = .ok (.goto 26, 3) := by decide +kernel
theorem dX3_noCell_13 : decode cX3_noCell 13 = .ok (.iload_n 2, 1) := by decide +kernel
theorem dX3_noCell_14 : decode cX3_noCell 14 = .ok (.i2l, 1) := by decide +kernel
theorem dX3_noCell_15 : decode cX3_noCell 15 = .ok (.lconst 0, 1) := by decide +kernel
theorem dX3_noCell_16 : decode cX3_noCell 16 = .ok (.aload_n 0, 1) := by decide +kernel
theorem dX3_noCell_17 : decode cX3_noCell 17 = .ok (.getfield 49, 3) := by decide +kernel
theorem dX3_noCell_20 : decode cX3_noCell 20 = .ok (.iload_n 1, 1) := by decide +kernel
theorem dX3_noCell_21 : decode cX3_noCell 21 = .ok (.iaload, 1) := by decide +kernel
theorem dX3_noCell_22 : decode cX3_noCell 22 = .ok (.i2l, 1) := by decide +kernel
theorem dX3_noCell_23 : decode cX3_noCell 23 = .ok (.lconst 1, 1) := by decide +kernel
theorem dX3_noCell_24 : decode cX3_noCell 24 = .ok (.lsub, 1) := by decide +kernel
theorem dX3_noCell_25 : decode cX3_noCell 25 = .ok (.invokestatic 71, 3) := by decide +kernel
theorem dX3_noCell_28 : decode cX3_noCell 28 = .ok (.ifCond .eq 7, 3) := by decide +kernel
theorem dX3_noCell_31 : decode cX3_noCell 31 = .ok (.iconst 0, 1) := by decide +kernel
theorem dX3_noCell_32 : decode cX3_noCell 32 = .ok (.goto 4, 3) := by decide +kernel
theorem dX3_noCell_35 : decode cX3_noCell 35 = .ok (.iconst 3, 1) := by decide +kernel
theorem dX3_noCell_36 : decode cX3_noCell 36 = .ok (.ireturn, 1) := by decide +kernel
set_option maxRecDepth 20000 in
theorem ggX3_put_X3_noSheet : GoodIn wsX3_put wsX3_noSheet := goodIn_r _ [6, 7, 8, 9, 5, 10] (by decide +kernel) (by decide +kernel)
set_option maxRecDepth 20000 in
theorem gX3_put_X3_noSheet : GoodIn wsX3_put (va_wsS RX3 113 yX3_noSheet wsX3_noSheet) := goodIn_app (goodIn_of _ (by decide +kernel)) ggX3_put_X3_noSheet
set_option maxRecDepth 20000 in
theorem ggX3_put_X3_refused : GoodIn wsX3_put wsX3_refused := goodIn_r _ [14, 15, 25, 26, 27, 28, 29, 30, 31, 32, 33, 34, 35, 36, 37, 38, 39, 40, 41, 42, 43, 44, 45, 46, 47, 48, 49, 50] (by decide +kernel) (by decide +kernel)
set_option maxRecDepth 20000 in
theorem gX3_put_X3_refused : GoodIn wsX3_put (wsV RX3 117 RX3 yX3_refused wsX3_refused) := goodIn_app (goodIn_of _ (by decide +kernel)) ggX3_put_X3_refused
set_option maxRecDepth 20000 in
theorem ggX3_put_X3_noCell : GoodIn wsX3_put wsX3_noCell := goodIn_r _ [19, 20, 8, 9, 5, 10, 25, 26, 27, 28, 29, 30, 31, 32, 33, 34, 35, 36, 37, 38, 39, 40, 41, 42, 43, 44, 45, 46, 47, 48, 49, 50] (by decide +kernel) (by decide +kernel)
set_option maxRecDepth 20000 in
theorem gX3_put_X3_noCell : GoodIn wsX3_put (wsV RX3 213 RX3 yX3_noCell wsX3_noCell) := goodIn_app (goodIn_of _ (by decide +kernel)) ggX3_put_X3_noCell
set_option maxRecDepth 20000 in
theorem ggX3_put_X3_failed : GoodIn wsX3_put wsX3_failed := goodIn_r _ [24, 15, 25, 26, 27, 28, 29, 30, 31, 32, 33, 34, 35, 36, 37, 38, 39, 40, 41, 42, 43, 44, 45, 46, 47, 48, 49, 50] (by decide +kernel) (by decide +kernel)
set_option maxRecDepth 20000 in
theorem gX3_put_X3_failed : GoodIn wsX3_put (wsV RX3 105 RX3 yX3_failed wsX3_failed) := goodIn_app (goodIn_of _ (by decide +kernel)) ggX3_put_X3_failed
theorem dX3_put_0 : decode cX3_put 0 = .ok (.iload_n 1, 1) := by decide +kernel
theorem dX3_put_1 : decode cX3_put 1 = .ok (.invokestatic 113, 3) := by decide +kernel
theorem dX3_put_4 : decode cX3_put 4 = .ok (.ifCond .eq 9, 3) := by decide +kernel
theorem dX3_put_7 : decode cX3_put 7 = .ok (.aload_n 0, 1) := by decide +kernel
theorem dX3_put_8 : decode cX3_put 8 = .ok (.iconst (-1), 1) := by decide +kernel
theorem dX3_put_9 : decode cX3_put 9 = .ok (.invokevirtual 117, 3) := by decide +kernel
theorem dX3_put_12 : decode cX3_put 12 = .ok (.ireturn, 1) := by decide +kernel
theorem dX3_put_13 : decode cX3_put 13 = .ok (.aload_n 0, 1) := by decide +kernel
theorem dX3_put_14 : decode cX3_put 14 = .ok (.iload_n 1, 1) := by decide +kernel
theorem dX3_put_15 : decode cX3_put 15 = .ok (.iload_n 2, 1) := by decide +kernel
theorem dX3_put_16 : decode cX3_put 16 = .ok (.invokevirtual 213, 3) := by decide +kernel
theorem dX3_put_19 : decode cX3_put 19 = .ok (.ifCond .le 14, 3) := by decide +kernel
theorem dX3_put_22 : decode cX3_put 22 = .ok (.aload_n 0, 1) := by decide +kernel
theorem dX3_put_23 : decode cX3_put 23 = .ok (.aload_n 0, 1) := by decide +kernel
theorem dX3_put_24 : decode cX3_put 24 = .ok (.iload_n 1, 1) := by decide +kernel
theorem dX3_put_25 : decode cX3_put 25 = .ok (.iload_n 2, 1) := by decide +kernel
theorem dX3_put_26 : decode cX3_put 26 = .ok (.invokevirtual 213, 3) := by decide +kernel
theorem dX3_put_29 : decode cX3_put 29 = .ok (.invokevirtual 105, 3) := by decide +kernel
theorem dX3_put_32 : decode cX3_put 32 = .ok (.ireturn, 1) := by decide +kernel
theorem dX3_put_33 : decode cX3_put 33 = .ok (.aload_n 0, 1) := by decide +kernel
theorem dX3_put_34 : decode cX3_put 34 = .ok (.getfield 55, 3) := by decide +kernel
theorem dX3_put_37 : decode cX3_put 37 = .ok (.bipush 60, 2) := by decide +kernel
theorem dX3_put_39 : decode cX3_put 39 = .ok (.iload_n 1, 1) := by decide +kernel
theorem dX3_put_40 : decode cX3_put 40 = .ok (.imul, 1) := by decide +kernel
theorem dX3_put_41 : decode cX3_put 41 = .ok (.iload_n 2, 1) := by decide +kernel
theorem dX3_put_42 : decode cX3_put 42 = .ok (.iadd, 1) := by decide +kernel
theorem dX3_put_43 : decode cX3_put 43 = .ok (.aload_n 0, 1) := by decide +kernel
theorem dX3_put_44 : decode cX3_put 44 = .ok (.getfield 52, 3) := by decide +kernel
theorem dX3_put_47 : decode cX3_put 47 = .ok (.iload_n 1, 1) := by decide +kernel
theorem dX3_put_48 : decode cX3_put 48 = .ok (.iaload, 1) := by decide +kernel
theorem dX3_put_49 : decode cX3_put 49 = .ok (.ifCond .ne 8, 3) := by decide +kernel
theorem dX3_put_52 : decode cX3_put 52 = .ok (.iload_n 3, 1) := by decide +kernel
theorem dX3_put_53 : decode cX3_put 53 = .ok (.i2b, 1) := by decide +kernel
theorem dX3_put_54 : decode cX3_put 54 = .ok (.goto 19, 3) := by decide +kernel
theorem dX3_put_57 : decode cX3_put 57 = .ok (.aload_n 0, 1) := by decide +kernel
theorem dX3_put_58 : decode cX3_put 58 = .ok (.getfield 52, 3) := by decide +kernel
theorem dX3_put_61 : decode cX3_put 61 = .ok (.iload_n 1, 1) := by decide +kernel
theorem dX3_put_62 : decode cX3_put 62 = .ok (.iaload, 1) := by decide +kernel
theorem dX3_put_63 : decode cX3_put 63 = .ok (.iconst 1, 1) := by decide +kernel
theorem dX3_put_64 : decode cX3_put 64 = .ok (.if_icmp .ne 8, 3) := by decide +kernel
theorem dX3_put_67 : decode cX3_put 67 = .ok (.iload_n 3, 1) := by decide +kernel
theorem dX3_put_68 : decode cX3_put 68 = .ok (.i2s, 1) := by decide +kernel
theorem dX3_put_69 : decode cX3_put 69 = .ok (.goto 4, 3) := by decide +kernel
theorem dX3_put_72 : decode cX3_put 72 = .ok (.iload_n 3, 1) := by decide +kernel
theorem dX3_put_73 : decode cX3_put 73 = .ok (.iastore, 1) := by decide +kernel
theorem dX3_put_74 : decode cX3_put 74 = .ok (.aload_n 0, 1) := by decide +kernel
theorem dX3_put_75 : decode cX3_put 75 = .ok (.iconst 1, 1) := by decide +kernel
theorem dX3_put_76 : decode cX3_put 76 = .ok (.invokevirtual 117, 3) := by decide +kernel
theorem dX3_put_79 : decode cX3_put 79 = .ok (.ireturn, 1) := by decide +kernel
set_option maxRecDepth 20000 in
theorem ggX3_cell_X3_noSheet : GoodIn wsX3_cell wsX3_noSheet := goodIn_r _ [9, 10, 11, 12, 8, 13] (by decide +kernel) (by decide +kernel)
set_option maxRecDepth 20000 in
theorem gX3_cell_X3_noSheet : GoodIn wsX3_cell (va_wsS RX3 113 yX3_noSheet wsX3_noSheet) := goodIn_app (goodIn_of _ (by decide +kernel)) ggX3_cell_X3_noSheet
set_option maxRecDepth 20000 in
theorem ggX3_cell_X3_in : GoodIn wsX3_cell wsX3_in := goodIn_r _ [13] (by decide +kernel) (by decide +kernel)
set_option maxRecDepth 20000 in
theorem gX3_cell_X3_in : GoodIn wsX3_cell (va_wsS RX3 71 yX3_in wsX3_in) := goodIn_app (goodIn_of _ (by decide +kernel)) ggX3_cell_X3_in
set_option maxRecDepth 20000 in
theorem ggX3_cell_X3_lost : GoodIn wsX3_cell wsX3_lost := goodIn_r _ [16, 17] (by decide +kernel) (by decide +kernel)
set_option maxRecDepth 20000 in
theorem gX3_cell_X3_lost : GoodIn wsX3_cell (va_wsS RX3 67 yX3_lost wsX3_lost) := goodIn_app (goodIn_of _ (by decide +kernel)) ggX3_cell_X3_lost
set_option maxRecDepth 20000 in
theorem ggX3_cell_X3_failedLong : GoodIn wsX3_cell wsX3_failedLong := goodIn_r _ [21, 1, 14, 15, 8, 16, 17, 26, 27, 28, 29, 30, 31, 32, 33, 34, 35, 36, 37, 38, 39, 40, 41, 42, 43, 44, 45, 46, 47, 48, 49, 50, 51] (by decide +kernel) (by decide +kernel)
set_option maxRecDepth 20000 in
theorem gX3_cell_X3_failedLong : GoodIn wsX3_cell (wsV RX3 216 RX3 yX3_failedLong wsX3_failedLong) := goodIn_app (goodIn_of _ (by decide +kernel)) ggX3_cell_X3_failedLong
set_option maxRecDepth 20000 in
theorem ggX3_cell_X3_noCell : GoodIn wsX3_cell wsX3_noCell := goodIn_r _ [25, 3, 11, 12, 8, 13, 26, 27, 28, 29, 30, 31, 32, 33, 34, 35, 36, 37, 38, 39, 40, 41, 42, 43, 44, 45, 46, 47, 48, 49, 50, 51] (by decide +kernel) (by decide +kernel)
set_option maxRecDepth 20000 in
theorem gX3_cell_X3_noCell : GoodIn wsX3_cell (wsV RX3 213 RX3 yX3_noCell wsX3_noCell) := goodIn_app (goodIn_of _ (by decide +kernel)) ggX3_cell_X3_noCell
theorem dX3_cell_0 : decode cX3_cell 0 = .ok (.aload_n 0, 1) := by decide +kernel
theorem dX3_cell_1 : decode cX3_cell 1 = .ok (.iconst 0, 1) := by decide +kernel
theorem dX3_cell_2 : decode cX3_cell 2 = .ok (.putfield 63, 3) := by decide +kernel
theorem dX3_cell_5 : decode cX3_cell 5 = .ok (.iload_n 1, 1) := by decide +kernel
theorem dX3_cell_6 : decode cX3_cell 6 = .ok (.invokestatic 113, 3) := by decide +kernel
theorem dX3_cell_9 : decode cX3_cell 9 = .ok (.ifCond .ne 15, 3) := by decide +kernel
theorem dX3_cell_12 : decode cX3_cell 12 = .ok (.iload_n 3, 1) := by decide +kernel
theorem dX3_cell_13 : decode cX3_cell 13 = .ok (.i2l, 1) := by decide +kernel
theorem dX3_cell_14 : decode cX3_cell 14 = .ok (.lconst 0, 1) := by decide +kernel
theorem dX3_cell_15 : decode cX3_cell 15 = .ok (.ldc2_w 120, 3) := by decide +kernel
theorem dX3_cell_18 : decode cX3_cell 18 = .ok (.invokestatic 71, 3) := by decide +kernel
theorem dX3_cell_21 : decode cX3_cell 21 = .ok (.ifCond .ne 7, 3) := by decide +kernel
theorem dX3_cell_24 : decode cX3_cell 24 = .ok (.invokestatic 67, 3) := by decide +kernel
theorem dX3_cell_27 : decode cX3_cell 27 = .ok (.lreturn, 1) := by decide +kernel
theorem dX3_cell_28 : decode cX3_cell 28 = .ok (.aload_n 0, 1) := by decide +kernel
theorem dX3_cell_29 : decode cX3_cell 29 = .ok (.getfield 49, 3) := by decide +kernel
theorem dX3_cell_32 : decode cX3_cell 32 = .ok (.iload_n 1, 1) := by decide +kernel
theorem dX3_cell_33 : decode cX3_cell 33 = .ok (.iaload, 1) := by decide +kernel
theorem dX3_cell_34 : decode cX3_cell 34 = .ok (.ifCond .lt 19, 3) := by decide +kernel
theorem dX3_cell_37 : decode cX3_cell 37 = .ok (.aload_n 0, 1) := by decide +kernel
theorem dX3_cell_38 : decode cX3_cell 38 = .ok (.getfield 52, 3) := by decide +kernel
theorem dX3_cell_41 : decode cX3_cell 41 = .ok (.iload_n 1, 1) := by decide +kernel
theorem dX3_cell_42 : decode cX3_cell 42 = .ok (.iaload, 1) := by decide +kernel
theorem dX3_cell_43 : decode cX3_cell 43 = .ok (.iload_n 3, 1) := by decide +kernel
theorem dX3_cell_44 : decode cX3_cell 44 = .ok (.if_icmp .eq 9, 3) := by decide +kernel
theorem dX3_cell_47 : decode cX3_cell 47 = .ok (.aload_n 0, 1) := by decide +kernel
theorem dX3_cell_48 : decode cX3_cell 48 = .ok (.iconst 2, 1) := by decide +kernel
theorem dX3_cell_49 : decode cX3_cell 49 = .ok (.invokevirtual 216, 3) := by decide +kernel
theorem dX3_cell_52 : decode cX3_cell 52 = .ok (.lreturn, 1) := by decide +kernel
theorem dX3_cell_53 : decode cX3_cell 53 = .ok (.aload_n 0, 1) := by decide +kernel
theorem dX3_cell_54 : decode cX3_cell 54 = .ok (.iload_n 1, 1) := by decide +kernel
theorem dX3_cell_55 : decode cX3_cell 55 = .ok (.iload_n 2, 1) := by decide +kernel
theorem dX3_cell_56 : decode cX3_cell 56 = .ok (.invokevirtual 213, 3) := by decide +kernel
theorem dX3_cell_59 : decode cX3_cell 59 = .ok (.ifCond .le 16, 3) := by decide +kernel
theorem dX3_cell_62 : decode cX3_cell 62 = .ok (.aload_n 0, 1) := by decide +kernel
theorem dX3_cell_63 : decode cX3_cell 63 = .ok (.aload_n 0, 1) := by decide +kernel
theorem dX3_cell_64 : decode cX3_cell 64 = .ok (.iload_n 1, 1) := by decide +kernel
theorem dX3_cell_65 : decode cX3_cell 65 = .ok (.iload_n 2, 1) := by decide +kernel
theorem dX3_cell_66 : decode cX3_cell 66 = .ok (.invokevirtual 213, 3) := by decide +kernel
theorem dX3_cell_69 : decode cX3_cell 69 = .ok (.invokevirtual 216, 3) := by decide +kernel
theorem dX3_cell_72 : decode cX3_cell 72 = .ok (.goto 15, 3) := by decide +kernel
theorem dX3_cell_75 : decode cX3_cell 75 = .ok (.aload_n 0, 1) := by decide +kernel
theorem dX3_cell_76 : decode cX3_cell 76 = .ok (.getfield 55, 3) := by decide +kernel
theorem dX3_cell_79 : decode cX3_cell 79 = .ok (.bipush 60, 2) := by decide +kernel
theorem dX3_cell_81 : decode cX3_cell 81 = .ok (.iload_n 1, 1) := by decide +kernel
theorem dX3_cell_82 : decode cX3_cell 82 = .ok (.imul, 1) := by decide +kernel
theorem dX3_cell_83 : decode cX3_cell 83 = .ok (.iload_n 2, 1) := by decide +kernel
theorem dX3_cell_84 : decode cX3_cell 84 = .ok (.iadd, 1) := by decide +kernel
theorem dX3_cell_85 : decode cX3_cell 85 = .ok (.iaload, 1) := by decide +kernel
theorem dX3_cell_86 : decode cX3_cell 86 = .ok (.i2l, 1) := by decide +kernel
theorem dX3_cell_87 : decode cX3_cell 87 = .ok (.lreturn, 1) := by decide +kernel
theorem dX3_isBeyond_0 : decode cX3_isBeyond 0 = .ok (.iload_n 0, 1) := by decide +kernel
theorem dX3_isBeyond_1 : decode cX3_isBeyond 1 = .ok (.ifCond .lt 19, 3) := by decide +kernel
theorem dX3_isBeyond_4 : decode cX3_isBeyond 4 = .ok (.lload_n 1, 1) := by decide +kernel
theorem dX3_isBeyond_5 : decode cX3_isBeyond 5 = .ok (.lconst 0, 1) := by decide +kernel
theorem dX3_isBeyond_6 : decode cX3_isBeyond 6 = .ok (.lcmp, 1) := by decide +kernel
theorem dX3_isBeyond_7 : decode cX3_isBeyond 7 = .ok (.ifCond .lt 13, 3) := by decide +kernel
theorem dX3_isBeyond_10 : decode cX3_isBeyond 10 = .ok (.iload_n 0, 1) := by decide +kernel
theorem dX3_isBeyond_11 : decode cX3_isBeyond 11 = .ok (.i2l, 1) := by decide +kernel
theorem dX3_isBeyond_12 : decode cX3_isBeyond 12 = .ok (.lload_n 1, 1) := by decide +kernel
theorem dX3_isBeyond_13 : decode cX3_isBeyond 13 = .ok (.ladd, 1) := by decide +kernel
theorem dX3_isBeyond_14 : decode cX3_isBeyond 14 = .ok (.iload_n 3, 1) := by decide +kernel
theorem dX3_isBeyond_15 : decode cX3_isBeyond 15 = .ok (.i2l, 1) := by decide +kernel
theorem dX3_isBeyond_16 : decode cX3_isBeyond 16 = .ok (.lcmp, 1) := by decide +kernel
theorem dX3_isBeyond_17 : decode cX3_isBeyond 17 = .ok (.ifCond .le 7, 3) := by decide +kernel
theorem dX3_isBeyond_20 : decode cX3_isBeyond 20 = .ok (.iconst 1, 1) := by decide +kernel
theorem dX3_isBeyond_21 : decode cX3_isBeyond 21 = .ok (.goto 4, 3) := by decide +kernel
theorem dX3_isBeyond_24 : decode cX3_isBeyond 24 = .ok (.iconst 0, 1) := by decide +kernel
theorem dX3_isBeyond_25 : decode cX3_isBeyond 25 = .ok (.ireturn, 1) := by decide +kernel
set_option maxRecDepth 20000 in
theorem ggX3_copy_X3_noSheet : GoodIn wsX3_copy wsX3_noSheet := goodIn_r _ [8, 9, 10, 11, 7, 12] (by decide +kernel) (by decide +kernel)
set_option maxRecDepth 20000 in
theorem gX3_copy_X3_noSheet : GoodIn wsX3_copy (va_wsS RX3 113 yX3_noSheet wsX3_noSheet) := goodIn_app (goodIn_of _ (by decide +kernel)) ggX3_copy_X3_noSheet
set_option maxRecDepth 20000 in
theorem ggX3_copy_X3_refused : GoodIn wsX3_copy wsX3_refused := goodIn_r _ [16, 17, 25, 26, 27, 28, 29, 30, 31, 32, 33, 34, 35, 36, 37, 38, 39, 40, 41, 42, 43, 44, 45, 46, 47, 48, 49, 50] (by decide +kernel) (by decide +kernel)
set_option maxRecDepth 20000 in
theorem gX3_copy_X3_refused : GoodIn wsX3_copy (wsV RX3 117 RX3 yX3_refused wsX3_refused) := goodIn_app (goodIn_of _ (by decide +kernel)) ggX3_copy_X3_refused
set_option maxRecDepth 20000 in
theorem ggX3_copy_X3_failed : GoodIn wsX3_copy wsX3_failed := goodIn_r _ [21, 17, 25, 26, 27, 28, 29, 30, 31, 32, 33, 34, 35, 36, 37, 38, 39, 40, 41, 42, 43, 44, 45, 46, 47, 48, 49, 50] (by decide +kernel) (by decide +kernel)
set_option maxRecDepth 20000 in
theorem gX3_copy_X3_failed : GoodIn wsX3_copy (wsV RX3 105 RX3 yX3_failed wsX3_failed) := goodIn_app (goodIn_of _ (by decide +kernel)) ggX3_copy_X3_failed
set_option maxRecDepth 20000 in
theorem ggX3_copy_X3_isBeyond : GoodIn wsX3_copy wsX3_isBeyond := goodIn_r _ [24] (by decide +kernel) (by decide +kernel)
set_option maxRecDepth 20000 in
theorem gX3_copy_X3_isBeyond : GoodIn wsX3_copy (va_wsS RX3 109 yX3_isBeyond wsX3_isBeyond) := goodIn_app (goodIn_of _ (by decide +kernel)) ggX3_copy_X3_isBeyond
theorem dX3_copy_0 : decode cX3_copy 0 = .ok (.iload_n 1, 1) := by decide +kernel
theorem dX3_copy_1 : decode cX3_copy 1 = .ok (.invokestatic 113, 3) := by decide +kernel
theorem dX3_copy_4 : decode cX3_copy 4 = .ok (.ifCond .ne 10, 3) := by decide +kernel
theorem dX3_copy_7 : decode cX3_copy 7 = .ok (.iload_n 3, 1) := by decide +kernel
theorem dX3_copy_8 : decode cX3_copy 8 = .ok (.invokestatic 113, 3) := by decide +kernel
theorem dX3_copy_11 : decode cX3_copy 11 = .ok (.ifCond .eq 9, 3) := by decide +kernel
theorem dX3_copy_14 : decode cX3_copy 14 = .ok (.aload_n 0, 1) := by decide +kernel
theorem dX3_copy_15 : decode cX3_copy 15 = .ok (.iconst (-1), 1) := by decide +kernel
theorem dX3_copy_16 : decode cX3_copy 16 = .ok (.invokevirtual 117, 3) := by decide +kernel
theorem dX3_copy_19 : decode cX3_copy 19 = .ok (.ireturn, 1) := by decide +kernel
theorem dX3_copy_20 : decode cX3_copy 20 = .ok (.aload_n 0, 1) := by decide +kernel
theorem dX3_copy_21 : decode cX3_copy 21 = .ok (.getfield 49, 3) := by decide +kernel
theorem dX3_copy_24 : decode cX3_copy 24 = .ok (.iload_n 1, 1) := by decide +kernel
theorem dX3_copy_25 : decode cX3_copy 25 = .ok (.iaload, 1) := by decide +kernel
theorem dX3_copy_26 : decode cX3_copy 26 = .ok (.ifCond .lt 12, 3) := by decide +kernel
theorem dX3_copy_29 : decode cX3_copy 29 = .ok (.aload_n 0, 1) := by decide +kernel
theorem dX3_copy_30 : decode cX3_copy 30 = .ok (.getfield 49, 3) := by decide +kernel
theorem dX3_copy_33 : decode cX3_copy 33 = .ok (.iload_n 3, 1) := by decide +kernel
theorem dX3_copy_34 : decode cX3_copy 34 = .ok (.iaload, 1) := by decide +kernel
theorem dX3_copy_35 : decode cX3_copy 35 = .ok (.ifCond .ge 9, 3) := by decide +kernel
theorem dX3_copy_38 : decode cX3_copy 38 = .ok (.aload_n 0, 1) := by decide +kernel
theorem dX3_copy_39 : decode cX3_copy 39 = .ok (.iconst 1, 1) := by decide +kernel
theorem dX3_copy_40 : decode cX3_copy 40 = .ok (.invokevirtual 105, 3) := by decide +kernel
theorem dX3_copy_43 : decode cX3_copy 43 = .ok (.ireturn, 1) := by decide +kernel
theorem dX3_copy_44 : decode cX3_copy 44 = .ok (.aload_n 0, 1) := by decide +kernel
theorem dX3_copy_45 : decode cX3_copy 45 = .ok (.getfield 52, 3) := by decide +kernel
theorem dX3_copy_48 : decode cX3_copy 48 = .ok (.iload_n 1, 1) := by decide +kernel
theorem dX3_copy_49 : decode cX3_copy 49 = .ok (.iaload, 1) := by decide +kernel
theorem dX3_copy_50 : decode cX3_copy 50 = .ok (.aload_n 0, 1) := by decide +kernel
theorem dX3_copy_51 : decode cX3_copy 51 = .ok (.getfield 52, 3) := by decide +kernel
theorem dX3_copy_54 : decode cX3_copy 54 = .ok (.iload_n 3, 1) := by decide +kernel
theorem dX3_copy_55 : decode cX3_copy 55 = .ok (.iaload, 1) := by decide +kernel
theorem dX3_copy_56 : decode cX3_copy 56 = .ok (.if_icmp .eq 9, 3) := by decide +kernel
theorem dX3_copy_59 : decode cX3_copy 59 = .ok (.aload_n 0, 1) := by decide +kernel
theorem dX3_copy_60 : decode cX3_copy 60 = .ok (.iconst 2, 1) := by decide +kernel
theorem dX3_copy_61 : decode cX3_copy 61 = .ok (.invokevirtual 105, 3) := by decide +kernel
theorem dX3_copy_64 : decode cX3_copy 64 = .ok (.ireturn, 1) := by decide +kernel
theorem dX3_copy_65 : decode cX3_copy 65 = .ok (.iload_n 2, 1) := by decide +kernel
theorem dX3_copy_66 : decode cX3_copy 66 = .ok (.iload 5, 2) := by decide +kernel
theorem dX3_copy_68 : decode cX3_copy 68 = .ok (.i2l, 1) := by decide +kernel
theorem dX3_copy_69 : decode cX3_copy 69 = .ok (.aload_n 0, 1) := by decide +kernel
theorem dX3_copy_70 : decode cX3_copy 70 = .ok (.getfield 49, 3) := by decide +kernel
theorem dX3_copy_73 : decode cX3_copy 73 = .ok (.iload_n 1, 1) := by decide +kernel
theorem dX3_copy_74 : decode cX3_copy 74 = .ok (.iaload, 1) := by decide +kernel
theorem dX3_copy_75 : decode cX3_copy 75 = .ok (.invokestatic 109, 3) := by decide +kernel
theorem dX3_copy_78 : decode cX3_copy 78 = .ok (.ifCond .ne 20, 3) := by decide +kernel
theorem dX3_copy_81 : decode cX3_copy 81 = .ok (.iload 4, 2) := by decide +kernel
theorem dX3_copy_83 : decode cX3_copy 83 = .ok (.iload 5, 2) := by decide +kernel
theorem dX3_copy_85 : decode cX3_copy 85 = .ok (.i2l, 1) := by decide +kernel
theorem dX3_copy_86 : decode cX3_copy 86 = .ok (.aload_n 0, 1) := by decide +kernel
theorem dX3_copy_87 : decode cX3_copy 87 = .ok (.getfield 49, 3) := by decide +kernel
theorem dX3_copy_90 : decode cX3_copy 90 = .ok (.iload_n 3, 1) := by decide +kernel
theorem dX3_copy_91 : decode cX3_copy 91 = .ok (.iaload, 1) := by decide +kernel
theorem dX3_copy_92 : decode cX3_copy 92 = .ok (.invokestatic 109, 3) := by decide +kernel
theorem dX3_copy_95 : decode cX3_copy 95 = .ok (.ifCond .eq 9, 3) := by decide +kernel
theorem dX3_copy_98 : decode cX3_copy 98 = .ok (.aload_n 0, 1) := by decide +kernel
theorem dX3_copy_99 : decode cX3_copy 99 = .ok (.iconst 3, 1) := by decide +kernel
theorem dX3_copy_100 : decode cX3_copy 100 = .ok (.invokevirtual 105, 3) := by decide +kernel
theorem dX3_copy_103 : decode cX3_copy 103 = .ok (.ireturn, 1) := by decide +kernel
theorem dX3_copy_104 : decode cX3_copy 104 = .ok (.iconst 0, 1) := by decide +kernel
theorem dX3_copy_105 : decode cX3_copy 105 = .ok (.istore 6, 2) := by decide +kernel
theorem dX3_copy_107 : decode cX3_copy 107 = .ok (.iload 6, 2) := by decide +kernel
theorem dX3_copy_109 : decode cX3_copy 109 = .ok (.iload 5, 2) := by decide +kernel
theorem dX3_copy_111 : decode cX3_copy 111 = .ok (.if_icmp .ge 30, 3) := by decide +kernel
theorem dX3_copy_114 : decode cX3_copy 114 = .ok (.aload_n 0, 1) := by decide +kernel
theorem dX3_copy_115 : decode cX3_copy 115 = .ok (.getfield 58, 3) := by decide +kernel
theorem dX3_copy_118 : decode cX3_copy 118 = .ok (.iload 6, 2) := by decide +kernel
theorem dX3_copy_120 : decode cX3_copy 120 = .ok (.aload_n 0, 1) := by decide +kernel
theorem dX3_copy_121 : decode cX3_copy 121 = .ok (.getfield 55, 3) := by decide +kernel
theorem dX3_copy_124 : decode cX3_copy 124 = .ok (.bipush 60, 2) := by decide +kernel
theorem dX3_copy_126 : decode cX3_copy 126 = .ok (.iload_n 1, 1) := by decide +kernel
theorem dX3_copy_127 : decode cX3_copy 127 = .ok (.imul, 1) := by decide +kernel
theorem dX3_copy_128 : decode cX3_copy 128 = .ok (.iload_n 2, 1) := by decide +kernel
theorem dX3_copy_129 : decode cX3_copy 129 = .ok (.iadd, 1) := by decide +kernel
theorem dX3_copy_130 : decode cX3_copy 130 = .ok (.iload 6, 2) := by decide +kernel
theorem dX3_copy_132 : decode cX3_copy 132 = .ok (.iadd, 1) := by decide +kernel
theorem dX3_copy_133 : decode cX3_copy 133 = .ok (.iaload, 1) := by decide +kernel
theorem dX3_copy_134 : decode cX3_copy 134 = .ok (.iastore, 1) := by decide +kernel
theorem dX3_copy_135 : decode cX3_copy 135 = .ok (.iinc 6 1, 3) := by decide +kernel
theorem dX3_copy_138 : decode cX3_copy 138 = .ok (.goto (-31), 3) := by decide +kernel
theorem dX3_copy_141 : decode cX3_copy 141 = .ok (.iconst 0, 1) := by decide +kernel
theorem dX3_copy_142 : decode cX3_copy 142 = .ok (.istore 6, 2) := by decide +kernel
theorem dX3_copy_144 : decode cX3_copy 144 = .ok (.iload 6, 2) := by decide +kernel
theorem dX3_copy_146 : decode cX3_copy 146 = .ok (.iload 5, 2) := by decide +kernel
theorem dX3_copy_148 : decode cX3_copy 148 = .ok (.if_icmp .ge 31, 3) := by decide +kernel
theorem dX3_copy_151 : decode cX3_copy 151 = .ok (.aload_n 0, 1) := by decide +kernel
theorem dX3_copy_152 : decode cX3_copy 152 = .ok (.getfield 55, 3) := by decide +kernel
theorem dX3_copy_155 : decode cX3_copy 155 = .ok (.bipush 60, 2) := by decide +kernel
theorem dX3_copy_157 : decode cX3_copy 157 = .ok (.iload_n 3, 1) := by decide +kernel
theorem dX3_copy_158 : decode cX3_copy 158 = .ok (.imul, 1) := by decide +kernel
theorem dX3_copy_159 : decode cX3_copy 159 = .ok (.iload 4, 2) := by decide +kernel
theorem dX3_copy_161 : decode cX3_copy 161 = .ok (.iadd, 1) := by decide +kernel
theorem dX3_copy_162 : decode cX3_copy 162 = .ok (.iload 6, 2) := by decide +kernel
theorem dX3_copy_164 : decode cX3_copy 164 = .ok (.iadd, 1) := by decide +kernel
theorem dX3_copy_165 : decode cX3_copy 165 = .ok (.aload_n 0, 1) := by decide +kernel
theorem dX3_copy_166 : decode cX3_copy 166 = .ok (.getfield 58, 3) := by decide +kernel
theorem dX3_copy_169 : decode cX3_copy 169 = .ok (.iload 6, 2) := by decide +kernel
theorem dX3_copy_171 : decode cX3_copy 171 = .ok (.iaload, 1) := by decide +kernel
theorem dX3_copy_172 : decode cX3_copy 172 = .ok (.iastore, 1) := by decide +kernel
theorem dX3_copy_173 : decode cX3_copy 173 = .ok (.iinc 6 1, 3) := by decide +kernel
theorem dX3_copy_176 : decode cX3_copy 176 = .ok (.goto (-32), 3) := by decide +kernel
theorem dX3_copy_179 : decode cX3_copy 179 = .ok (.aload_n 0, 1) := by decide +kernel
theorem dX3_copy_180 : decode cX3_copy 180 = .ok (.iload 5, 2) := by decide +kernel
theorem dX3_copy_182 : decode cX3_copy 182 = .ok (.invokevirtual 117, 3) := by decide +kernel
theorem dX3_copy_185 : decode cX3_copy 185 = .ok (.ireturn, 1) := by decide +kernel
theorem dX3_traced_0 : decode cX3_traced 0 = .ok (.aload_n 0, 1) := by decide +kernel
theorem dX3_traced_1 : decode cX3_traced 1 = .ok (.bipush 31, 2) := by decide +kernel
theorem dX3_traced_3 : decode cX3_traced 3 = .ok (.aload_n 0, 1) := by decide +kernel
theorem dX3_traced_4 : decode cX3_traced 4 = .ok (.getfield 220, 3) := by decide +kernel
theorem dX3_traced_7 : decode cX3_traced 7 = .ok (.imul, 1) := by decide +kernel
theorem dX3_traced_8 : decode cX3_traced 8 = .ok (.iload_n 1, 1) := by decide +kernel
theorem dX3_traced_9 : decode cX3_traced 9 = .ok (.iadd, 1) := by decide +kernel
theorem dX3_traced_10 : decode cX3_traced 10 = .ok (.putfield 220, 3) := by decide +kernel
theorem dX3_traced_13 : decode cX3_traced 13 = .ok (.return_, 1) := by decide +kernel
set_option maxRecDepth 20000 in
theorem ggX3_tell_X3_noThing : GoodIn wsX3_tell wsX3_noThing := goodIn_r _ [7, 8, 9, 10, 6, 11, 17, 18, 19, 20, 21, 22, 23, 24, 25, 26, 27, 28, 29, 30, 31, 32, 33, 34, 35, 36, 37, 38, 39, 40, 41, 42] (by decide +kernel) (by decide +kernel)
set_option maxRecDepth 20000 in
theorem gX3_tell_X3_noThing : GoodIn wsX3_tell (wsV RX3 138 RX3 yX3_noThing wsX3_noThing) := goodIn_app (goodIn_of _ (by decide +kernel)) ggX3_tell_X3_noThing
set_option maxRecDepth 20000 in
theorem ggX3_tell_X3_traced : GoodIn wsX3_tell wsX3_traced := goodIn_r _ [15, 16, 17, 18, 19, 20, 21, 22, 23, 24, 25, 26, 27, 28, 29, 30, 31, 32, 33, 34, 35, 36, 37, 38, 39, 40, 41, 42] (by decide +kernel) (by decide +kernel)
set_option maxRecDepth 20000 in
theorem gX3_tell_X3_traced : GoodIn wsX3_tell (wsV RX3 223 RX3 yX3_traced wsX3_traced) := goodIn_app (goodIn_of _ (by decide +kernel)) ggX3_tell_X3_traced
theorem dX3_tell_0 : decode cX3_tell 0 = .ok (.aload_n 0, 1) := by decide +kernel
theorem dX3_tell_1 : decode cX3_tell 1 = .ok (.iload_n 1, 1) := by decide +kernel
theorem dX3_tell_2 : decode cX3_tell 2 = .ok (.invokevirtual 138, 3) := by decide +kernel
theorem dX3_tell_5 : decode cX3_tell 5 = .ok (.ifCond .eq 5, 3) := by decide +kernel
theorem dX3_tell_8 : decode cX3_tell 8 = .ok (.iconst (-1), 1) := by decide +kernel
theorem dX3_tell_9 : decode cX3_tell 9 = .ok (.ireturn, 1) := by decide +kernel
theorem dX3_tell_10 : decode cX3_tell 10 = .ok (.aload_n 0, 1) := by decide +kernel
theorem dX3_tell_11 : decode cX3_tell 11 = .ok (.getfield 13, 3) := by decide +kernel
theorem dX3_tell_14 : decode cX3_tell 14 = .ok (.iload_n 1, 1) := by decide +kernel
theorem dX3_tell_15 : decode cX3_tell 15 = .ok (.iaload, 1) := by decide +kernel
theorem dX3_tell_16 : decode cX3_tell 16 = .ok (.istore_n 2, 1) := by decide +kernel
theorem dX3_tell_17 : decode cX3_tell 17 = .ok (.iload_n 2, 1) := by decide +kernel
theorem dX3_tell_18 : decode cX3_tell 18 = .ok (.iconst 2, 1) := by decide +kernel
theorem dX3_tell_19 : decode cX3_tell 19 = .ok (.if_icmp .ne 8, 3) := by decide +kernel
theorem dX3_tell_22 : decode cX3_tell 22 = .ok (.aload_n 0, 1) := by decide +kernel
theorem dX3_tell_23 : decode cX3_tell 23 = .ok (.iconst 3, 1) := by decide +kernel
theorem dX3_tell_24 : decode cX3_tell 24 = .ok (.invokevirtual 223, 3) := by decide +kernel
theorem dX3_tell_27 : decode cX3_tell 27 = .ok (.iload_n 2, 1) := by decide +kernel
theorem dX3_tell_28 : decode cX3_tell 28 = .ok (.ifCond .le 8, 3) := by decide +kernel
theorem dX3_tell_31 : decode cX3_tell 31 = .ok (.aload_n 0, 1) := by decide +kernel
theorem dX3_tell_32 : decode cX3_tell 32 = .ok (.iconst 2, 1) := by decide +kernel
theorem dX3_tell_33 : decode cX3_tell 33 = .ok (.invokevirtual 223, 3) := by decide +kernel
theorem dX3_tell_36 : decode cX3_tell 36 = .ok (.aload_n 0, 1) := by decide +kernel
theorem dX3_tell_37 : decode cX3_tell 37 = .ok (.iconst 1, 1) := by decide +kernel
theorem dX3_tell_38 : decode cX3_tell 38 = .ok (.invokevirtual 223, 3) := by decide +kernel
theorem dX3_tell_41 : decode cX3_tell 41 = .ok (.iload_n 2, 1) := by decide +kernel
theorem dX3_tell_42 : decode cX3_tell 42 = .ok (.iconst 2, 1) := by decide +kernel
theorem dX3_tell_43 : decode cX3_tell 43 = .ok (.if_icmp .ne 8, 3) := by decide +kernel
theorem dX3_tell_46 : decode cX3_tell 46 = .ok (.aload_n 0, 1) := by decide +kernel
theorem dX3_tell_47 : decode cX3_tell 47 = .ok (.iconst 1, 1) := by decide +kernel
theorem dX3_tell_48 : decode cX3_tell 48 = .ok (.invokevirtual 223, 3) := by decide +kernel
theorem dX3_tell_51 : decode cX3_tell 51 = .ok (.aload_n 0, 1) := by decide +kernel
theorem dX3_tell_52 : decode cX3_tell 52 = .ok (.getfield 22, 3) := by decide +kernel
theorem dX3_tell_55 : decode cX3_tell 55 = .ok (.iload_n 1, 1) := by decide +kernel
theorem dX3_tell_56 : decode cX3_tell 56 = .ok (.iaload, 1) := by decide +kernel
theorem dX3_tell_57 : decode cX3_tell 57 = .ok (.istore_n 3, 1) := by decide +kernel
theorem dX3_tell_58 : decode cX3_tell 58 = .ok (.iload_n 2, 1) := by decide +kernel
theorem dX3_tell_59 : decode cX3_tell 59 = .ok (.ifCond .ne 7, 3) := by decide +kernel
theorem dX3_tell_62 : decode cX3_tell 62 = .ok (.iload_n 3, 1) := by decide +kernel
theorem dX3_tell_63 : decode cX3_tell 63 = .ok (.goto 21, 3) := by decide +kernel
theorem dX3_tell_66 : decode cX3_tell 66 = .ok (.iload_n 2, 1) := by decide +kernel
theorem dX3_tell_67 : decode cX3_tell 67 = .ok (.iconst 1, 1) := by decide +kernel
theorem dX3_tell_68 : decode cX3_tell 68 = .ok (.if_icmp .ne 10, 3) := by decide +kernel
theorem dX3_tell_71 : decode cX3_tell 71 = .ok (.iload_n 3, 1) := by decide +kernel
theorem dX3_tell_72 : decode cX3_tell 72 = .ok (.bipush 100, 2) := by decide +kernel
theorem dX3_tell_74 : decode cX3_tell 74 = .ok (.iadd, 1) := by decide +kernel
theorem dX3_tell_75 : decode cX3_tell 75 = .ok (.goto 9, 3) := by decide +kernel
theorem dX3_tell_78 : decode cX3_tell 78 = .ok (.iconst 2, 1) := by decide +kernel
theorem dX3_tell_79 : decode cX3_tell 79 = .ok (.iload_n 3, 1) := by decide +kernel
theorem dX3_tell_80 : decode cX3_tell 80 = .ok (.imul, 1) := by decide +kernel
theorem dX3_tell_81 : decode cX3_tell 81 = .ok (.bipush 100, 2) := by decide +kernel
theorem dX3_tell_83 : decode cX3_tell 83 = .ok (.iadd, 1) := by decide +kernel
theorem dX3_tell_84 : decode cX3_tell 84 = .ok (.ireturn, 1) := by decide +kernel
set_option maxRecDepth 20000 in
theorem ggX3_pass_X3_noThing : GoodIn wsX3_pass wsX3_noThing := goodIn_r _ [6, 7, 8, 9, 5, 10, 16, 17, 18, 19, 20, 21, 22, 23, 24, 25, 26, 27, 28, 29, 30, 31, 32, 33, 34, 35, 36, 37, 38, 39, 40, 41] (by decide +kernel) (by decide +kernel)
set_option maxRecDepth 20000 in
theorem gX3_pass_X3_noThing : GoodIn wsX3_pass (wsV RX3 138 RX3 yX3_noThing wsX3_noThing) := goodIn_app (goodIn_of _ (by decide +kernel)) ggX3_pass_X3_noThing
set_option maxRecDepth 20000 in
theorem ggX3_pass_X3_traced : GoodIn wsX3_pass wsX3_traced := goodIn_r _ [14, 15, 16, 17, 18, 19, 20, 21, 22, 23, 24, 25, 26, 27, 28, 29, 30, 31, 32, 33, 34, 35, 36, 37, 38, 39, 40, 41] (by decide +kernel) (by decide +kernel)
set_option maxRecDepth 20000 in
theorem gX3_pass_X3_traced : GoodIn wsX3_pass (wsV RX3 223 RX3 yX3_traced wsX3_traced) := goodIn_app (goodIn_of _ (by decide +kernel)) ggX3_pass_X3_traced
theorem dX3_pass_0 : decode cX3_pass 0 = .ok (.aload_n 0, 1) := by decide +kernel
theorem dX3_pass_1 : decode cX3_pass 1 = .ok (.iload_n 1, 1) := by decide +kernel
theorem dX3_pass_2 : decode cX3_pass 2 = .ok (.invokevirtual 138, 3) := by decide +kernel
theorem dX3_pass_5 : decode cX3_pass 5 = .ok (.ifCond .eq 5, 3) := by decide +kernel
theorem dX3_pass_8 : decode cX3_pass 8 = .ok (.iconst (-1), 1) := by decide +kernel
theorem dX3_pass_9 : decode cX3_pass 9 = .ok (.ireturn, 1) := by decide +kernel
theorem dX3_pass_10 : decode cX3_pass 10 = .ok (.aload_n 0, 1) := by decide +kernel
theorem dX3_pass_11 : decode cX3_pass 11 = .ok (.aload_n 0, 1) := by decide +kernel
theorem dX3_pass_12 : decode cX3_pass 12 = .ok (.getfield 13, 3) := by decide +kernel
theorem dX3_pass_15 : decode cX3_pass 15 = .ok (.iload_n 1, 1) := by decide +kernel
theorem dX3_pass_16 : decode cX3_pass 16 = .ok (.iaload, 1) := by decide +kernel
theorem dX3_pass_17 : decode cX3_pass 17 = .ok (.iconst 2, 1) := by decide +kernel
theorem dX3_pass_18 : decode cX3_pass 18 = .ok (.if_icmp .ne 7, 3) := by decide +kernel
theorem dX3_pass_21 : decode cX3_pass 21 = .ok (.iconst 5, 1) := by decide +kernel
theorem dX3_pass_22 : decode cX3_pass 22 = .ok (.goto 4, 3) := by decide +kernel
theorem dX3_pass_25 : decode cX3_pass 25 = .ok (.iconst 4, 1) := by decide +kernel
theorem dX3_pass_26 : decode cX3_pass 26 = .ok (.invokevirtual 223, 3) := by decide +kernel
theorem dX3_pass_29 : decode cX3_pass 29 = .ok (.aload_n 0, 1) := by decide +kernel
theorem dX3_pass_30 : decode cX3_pass 30 = .ok (.getfield 13, 3) := by decide +kernel
theorem dX3_pass_33 : decode cX3_pass 33 = .ok (.iload_n 1, 1) := by decide +kernel
theorem dX3_pass_34 : decode cX3_pass 34 = .ok (.iaload, 1) := by decide +kernel
theorem dX3_pass_35 : decode cX3_pass 35 = .ok (.iconst 2, 1) := by decide +kernel
theorem dX3_pass_36 : decode cX3_pass 36 = .ok (.if_icmp .ne 8, 3) := by decide +kernel
theorem dX3_pass_39 : decode cX3_pass 39 = .ok (.bipush 60, 2) := by decide +kernel
theorem dX3_pass_41 : decode cX3_pass 41 = .ok (.goto 4, 3) := by decide +kernel
theorem dX3_pass_44 : decode cX3_pass 44 = .ok (.iload_n 1, 1) := by decide +kernel
theorem dX3_pass_45 : decode cX3_pass 45 = .ok (.ireturn, 1) := by decide +kernel
set_option maxRecDepth 20000 in
theorem ggX3_as_X3_noThing : GoodIn wsX3_as wsX3_noThing := goodIn_r _ [7, 8, 9, 10, 6, 11, 21, 22, 23, 24, 25, 26, 27, 28, 29, 30, 31, 32, 33, 34, 35, 36, 37, 38, 39, 40, 41, 42, 43, 44, 45, 46] (by decide +kernel) (by decide +kernel)
set_option maxRecDepth 20000 in
theorem gX3_as_X3_noThing : GoodIn wsX3_as (wsV RX3 138 RX3 yX3_noThing wsX3_noThing) := goodIn_app (goodIn_of _ (by decide +kernel)) ggX3_as_X3_noThing
set_option maxRecDepth 20000 in
theorem ggX3_as_X3_refused : GoodIn wsX3_as wsX3_refused := goodIn_r _ [15, 16, 21, 22, 23, 24, 25, 26, 27, 28, 29, 30, 31, 32, 33, 34, 35, 36, 37, 38, 39, 40, 41, 42, 43, 44, 45, 46] (by decide +kernel) (by decide +kernel)
set_option maxRecDepth 20000 in
theorem gX3_as_X3_refused : GoodIn wsX3_as (wsV RX3 117 RX3 yX3_refused wsX3_refused) := goodIn_app (goodIn_of _ (by decide +kernel)) ggX3_as_X3_refused
set_option maxRecDepth 20000 in
theorem ggX3_as_X3_in : GoodIn wsX3_as wsX3_in := goodIn_r _ [11] (by decide +kernel) (by decide +kernel)
set_option maxRecDepth 20000 in
theorem gX3_as_X3_in : GoodIn wsX3_as (va_wsS RX3 71 yX3_in wsX3_in) := goodIn_app (goodIn_of _ (by decide +kernel)) ggX3_as_X3_in
set_option maxRecDepth 20000 in
theorem ggX3_as_X3_failed : GoodIn wsX3_as wsX3_failed := goodIn_r _ [20, 16, 21, 22, 23, 24, 25, 26, 27, 28, 29, 30, 31, 32, 33, 34, 35, 36, 37, 38, 39, 40, 41, 42, 43, 44, 45, 46] (by decide +kernel) (by decide +kernel)
set_option maxRecDepth 20000 in
theorem gX3_as_X3_failed : GoodIn wsX3_as (wsV RX3 105 RX3 yX3_failed wsX3_failed) := goodIn_app (goodIn_of _ (by decide +kernel)) ggX3_as_X3_failed
theorem dX3_as_0 : decode cX3_as 0 = .ok (.aload_n 0, 1) := by decide +kernel
theorem dX3_as_1 : decode cX3_as 1 = .ok (.iload_n 1, 1) := by decide +kernel
theorem dX3_as_2 : decode cX3_as 2 = .ok (.invokevirtual 138, 3) := by decide +kernel
theorem dX3_as_5 : decode cX3_as 5 = .ok (.ifCond .eq 9, 3) := by decide +kernel
theorem dX3_as_8 : decode cX3_as 8 = .ok (.aload_n 0, 1) := by decide +kernel
theorem dX3_as_9 : decode cX3_as 9 = .ok (.iconst (-1), 1) := by decide +kernel
theorem dX3_as_10 : decode cX3_as 10 = .ok (.invokevirtual 117, 3) := by decide +kernel
theorem dX3_as_13 : decode cX3_as 13 = .ok (.ireturn, 1) := by decide +kernel
theorem dX3_as_14 : decode cX3_as 14 = .ok (.iload_n 2, 1) := by decide +kernel
theorem dX3_as_15 : decode cX3_as 15 = .ok (.i2l, 1) := by decide +kernel
theorem dX3_as_16 : decode cX3_as 16 = .ok (.lconst 0, 1) := by decide +kernel
theorem dX3_as_17 : decode cX3_as 17 = .ok (.ldc2_w 120, 3) := by decide +kernel
theorem dX3_as_20 : decode cX3_as 20 = .ok (.invokestatic 71, 3) := by decide +kernel
theorem dX3_as_23 : decode cX3_as 23 = .ok (.ifCond .ne 10, 3) := by decide +kernel
theorem dX3_as_26 : decode cX3_as 26 = .ok (.aload_n 0, 1) := by decide +kernel
theorem dX3_as_27 : decode cX3_as 27 = .ok (.bipush (-2), 2) := by decide +kernel
theorem dX3_as_29 : decode cX3_as 29 = .ok (.invokevirtual 117, 3) := by decide +kernel
theorem dX3_as_32 : decode cX3_as 32 = .ok (.ireturn, 1) := by decide +kernel
theorem dX3_as_33 : decode cX3_as 33 = .ok (.aload_n 0, 1) := by decide +kernel
theorem dX3_as_34 : decode cX3_as 34 = .ok (.getfield 13, 3) := by decide +kernel
theorem dX3_as_37 : decode cX3_as 37 = .ok (.iload_n 1, 1) := by decide +kernel
theorem dX3_as_38 : decode cX3_as 38 = .ok (.iaload, 1) := by decide +kernel
theorem dX3_as_39 : decode cX3_as 39 = .ok (.iload_n 2, 1) := by decide +kernel
theorem dX3_as_40 : decode cX3_as 40 = .ok (.if_icmp .lt 11, 3) := by decide +kernel
theorem dX3_as_43 : decode cX3_as 43 = .ok (.aload_n 0, 1) := by decide +kernel
theorem dX3_as_44 : decode cX3_as 44 = .ok (.iconst 1, 1) := by decide +kernel
theorem dX3_as_45 : decode cX3_as 45 = .ok (.invokevirtual 117, 3) := by decide +kernel
theorem dX3_as_48 : decode cX3_as 48 = .ok (.goto 8, 3) := by decide +kernel
theorem dX3_as_51 : decode cX3_as 51 = .ok (.aload_n 0, 1) := by decide +kernel
theorem dX3_as_52 : decode cX3_as 52 = .ok (.iconst 2, 1) := by decide +kernel
theorem dX3_as_53 : decode cX3_as 53 = .ok (.invokevirtual 105, 3) := by decide +kernel
theorem dX3_as_56 : decode cX3_as 56 = .ok (.ireturn, 1) := by decide +kernel
theorem dX3_trace_0 : decode cX3_trace 0 = .ok (.aload_n 0, 1) := by decide +kernel
theorem dX3_trace_1 : decode cX3_trace 1 = .ok (.getfield 220, 3) := by decide +kernel
theorem dX3_trace_4 : decode cX3_trace 4 = .ok (.ireturn, 1) := by decide +kernel
theorem dX3_fault_0 : decode cX3_fault 0 = .ok (.aload_n 0, 1) := by decide +kernel
theorem dX3_fault_1 : decode cX3_fault 1 = .ok (.getfield 63, 3) := by decide +kernel
theorem dX3_fault_4 : decode cX3_fault 4 = .ok (.ireturn, 1) := by decide +kernel
set_option maxRecDepth 20000 in
theorem ggX3_many_X3_bits : GoodIn wsX3_many wsX3_bits := goodIn_r _ [8] (by decide +kernel) (by decide +kernel)
set_option maxRecDepth 20000 in
theorem gX3_many_X3_bits : GoodIn wsX3_many (va_wsS RX3 168 yX3_bits wsX3_bits) := goodIn_app (goodIn_of _ (by decide +kernel)) ggX3_many_X3_bits
theorem dX3_many_0 : decode cX3_many 0 = .ok (.iload_n 1, 1) := by decide +kernel
theorem dX3_many_1 : decode cX3_many 1 = .ok (.tableswitch 54 0 3 #[31, 36, 41, 49], 31) := by decide +kernel
theorem dX3_many_32 : decode cX3_many 32 = .ok (.aload_n 0, 1) := by decide +kernel
theorem dX3_many_33 : decode cX3_many 33 = .ok (.getfield 78, 3) := by decide +kernel
theorem dX3_many_36 : decode cX3_many 36 = .ok (.ireturn, 1) := by decide +kernel
theorem dX3_many_37 : decode cX3_many 37 = .ok (.aload_n 0, 1) := by decide +kernel
theorem dX3_many_38 : decode cX3_many 38 = .ok (.getfield 75, 3) := by decide +kernel
theorem dX3_many_41 : decode cX3_many 41 = .ok (.ireturn, 1) := by decide +kernel
theorem dX3_many_42 : decode cX3_many 42 = .ok (.aload_n 0, 1) := by decide +kernel
theorem dX3_many_43 : decode cX3_many 43 = .ok (.getfield 129, 3) := by decide +kernel
theorem dX3_many_46 : decode cX3_many 46 = .ok (.invokestatic 168, 3) := by decide +kernel
theorem dX3_many_49 : decode cX3_many 49 = .ok (.ireturn, 1) := by decide +kernel
theorem dX3_many_50 : decode cX3_many 50 = .ok (.aload_n 0, 1) := by decide +kernel
theorem dX3_many_51 : decode cX3_many 51 = .ok (.getfield 132, 3) := by decide +kernel
theorem dX3_many_54 : decode cX3_many 54 = .ok (.ireturn, 1) := by decide +kernel
theorem dX3_many_55 : decode cX3_many 55 = .ok (.bipush (-2), 2) := by decide +kernel
theorem dX3_many_57 : decode cX3_many 57 = .ok (.ireturn, 1) := by decide +kernel
