set_option maxRecDepth 20000 in
theorem ggX2_init_X0_init : GoodIn wsX2_init wsX0_init := goodIn_r _ [17, 18, 2, 3, 13, 19, 20, 21, 22, 23, 29, 30, 31, 32, 33, 34, 35, 36] (by decide +kernel) (by decide +kernel)
set_option maxRecDepth 20000 in
theorem gX2_init_X0_init_n13 : GoodIn wsX2_init (wsX0_init) := ggX2_init_X0_init
set_option maxRecDepth 20000 in
theorem ggX2_init_X1_init : GoodIn wsX2_init wsX1_init := goodIn_r _ [25, 26, 2, 3, 13, 27, 28, 45, 46, 47] (by decide +kernel) (by decide +kernel)
set_option maxRecDepth 20000 in
theorem gX2_init_X1_init_n27 : GoodIn wsX2_init (wsX1_init) := ggX2_init_X1_init
theorem dX2_init_0 : decode cX2_init 0 = .ok (.aload_n 0, 1) := by decide +kernel
theorem dX2_init_1 : decode cX2_init 1 = .ok (.invokespecial 5, 3) := by decide +kernel
theorem dX2_init_4 : decode cX2_init 4 = .ok (.aload_n 0, 1) := by decide +kernel
theorem dX2_init_5 : decode cX2_init 5 = .ok (.new 11, 3) := by decide +kernel
theorem dX2_init_8 : decode cX2_init 8 = .ok (.dup, 1) := by decide +kernel
theorem dX2_init_9 : decode cX2_init 9 = .ok (.invokespecial 13, 3) := by decide +kernel
theorem dX2_init_12 : decode cX2_init 12 = .ok (.putfield 14, 3) := by decide +kernel
theorem dX2_init_15 : decode cX2_init 15 = .ok (.aload_n 0, 1) := by decide +kernel
theorem dX2_init_16 : decode cX2_init 16 = .ok (.new 11, 3) := by decide +kernel
theorem dX2_init_19 : decode cX2_init 19 = .ok (.dup, 1) := by decide +kernel
theorem dX2_init_20 : decode cX2_init 20 = .ok (.invokespecial 13, 3) := by decide +kernel
theorem dX2_init_23 : decode cX2_init 23 = .ok (.putfield 18, 3) := by decide +kernel
theorem dX2_init_26 : decode cX2_init 26 = .ok (.aload_n 0, 1) := by decide +kernel
theorem dX2_init_27 : decode cX2_init 27 = .ok (.iconst 4, 1) := by decide +kernel
theorem dX2_init_28 : decode cX2_init 28 = .ok (.anewarray 21, 3) := by decide +kernel
theorem dX2_init_31 : decode cX2_init 31 = .ok (.putfield 23, 3) := by decide +kernel
theorem dX2_init_34 : decode cX2_init 34 = .ok (.iconst 0, 1) := by decide +kernel
theorem dX2_init_35 : decode cX2_init 35 = .ok (.istore_n 1, 1) := by decide +kernel
theorem dX2_init_36 : decode cX2_init 36 = .ok (.iload_n 1, 1) := by decide +kernel
theorem dX2_init_37 : decode cX2_init 37 = .ok (.iconst 4, 1) := by decide +kernel
theorem dX2_init_38 : decode cX2_init 38 = .ok (.if_icmp .ge 22, 3) := by decide +kernel
theorem dX2_init_41 : decode cX2_init 41 = .ok (.aload_n 0, 1) := by decide +kernel
theorem dX2_init_42 : decode cX2_init 42 = .ok (.getfield 23, 3) := by decide +kernel
theorem dX2_init_45 : decode cX2_init 45 = .ok (.iload_n 1, 1) := by decide +kernel
theorem dX2_init_46 : decode cX2_init 46 = .ok (.new 21, 3) := by decide +kernel
theorem dX2_init_49 : decode cX2_init 49 = .ok (.dup, 1) := by decide +kernel
theorem dX2_init_50 : decode cX2_init 50 = .ok (.invokespecial 27, 3) := by decide +kernel
theorem dX2_init_53 : decode cX2_init 53 = .ok (.aastore, 1) := by decide +kernel
theorem dX2_init_54 : decode cX2_init 54 = .ok (.iinc 1 1, 3) := by decide +kernel
theorem dX2_init_57 : decode cX2_init 57 = .ok (.goto (-21), 3) := by decide +kernel
theorem dX2_init_60 : decode cX2_init 60 = .ok (.aload_n 0, 1) := by decide +kernel
theorem dX2_init_61 : decode cX2_init 61 = .ok (.bipush 8, 2) := by decide +kernel
theorem dX2_init_63 : decode cX2_init 63 = .ok (.newarray .int, 2) := by decide +kernel
theorem dX2_init_65 : decode cX2_init 65 = .ok (.putfield 28, 3) := by decide +kernel
theorem dX2_init_68 : decode cX2_init 68 = .ok (.aload_n 0, 1) := by decide +kernel
theorem dX2_init_69 : decode cX2_init 69 = .ok (.bipush 8, 2) := by decide +kernel
theorem dX2_init_71 : decode cX2_init 71 = .ok (.newarray .int, 2) := by decide +kernel
theorem dX2_init_73 : decode cX2_init 73 = .ok (.putfield 32, 3) := by decide +kernel
theorem dX2_init_76 : decode cX2_init 76 = .ok (.return_, 1) := by decide +kernel
set_option maxRecDepth 20000 in
theorem ggX2_table_X2_isSheet : GoodIn wsX2_table wsX2_isSheet := goodIn_r _ [10] (by decide +kernel) (by decide +kernel)
set_option maxRecDepth 20000 in
theorem gX2_table_X2_isSheet : GoodIn wsX2_table (va_wsS RX2 39 yX2_isSheet wsX2_isSheet) := goodIn_app (goodIn_of _ (by decide +kernel)) ggX2_table_X2_isSheet
set_option maxRecDepth 20000 in
theorem ggX2_table_X2_isLane : GoodIn wsX2_table wsX2_isLane := goodIn_r _ [13] (by decide +kernel) (by decide +kernel)
set_option maxRecDepth 20000 in
theorem gX2_table_X2_isLane : GoodIn wsX2_table (va_wsS RX2 43 yX2_isLane wsX2_isLane) := goodIn_app (goodIn_of _ (by decide +kernel)) ggX2_table_X2_isLane
set_option maxRecDepth 20000 in
theorem ggX2_table_X1_faultOfCells : GoodIn wsX2_table wsX1_faultOfCells := goodIn_r _ [18, 19, 20, 21, 22, 17, 23, 24, 25, 26, 27, 28, 97, 98, 99] (by decide +kernel) (by decide +kernel)
set_option maxRecDepth 20000 in
theorem gX2_table_X1_faultOfCells : GoodIn wsX2_table (wsV RX2 46 RX1 yX1_faultOfCells wsX1_faultOfCells) := goodIn_app (goodIn_of _ (by decide +kernel)) ggX2_table_X1_faultOfCells
set_option maxRecDepth 20000 in
theorem ggX2_table_X2_faulted : GoodIn wsX2_table wsX2_faulted := goodIn_r _ [32, 1, 81, 82, 83, 84, 85, 86, 87, 88] (by decide +kernel) (by decide +kernel)
set_option maxRecDepth 20000 in
theorem gX2_table_X2_faulted : GoodIn wsX2_table (wsV RX2 50 RX2 yX2_faulted wsX2_faulted) := goodIn_app (goodIn_of _ (by decide +kernel)) ggX2_table_X2_faulted
set_option maxRecDepth 20000 in
theorem ggX2_table_X0_readText : GoodIn wsX2_table wsX0_readText := goodIn_r _ [37, 38, 39, 40, 41, 42, 43, 44, 45, 46, 47, 48, 17, 49, 28, 50, 51, 52, 36, 53, 54, 55, 56, 57, 58, 59, 60, 61, 62, 63, 64, 65, 66, 67, 68, 69, 70, 71, 72, 89, 90, 91, 92, 93, 94, 95, 96, 97, 98, 99] (by decide +kernel) (by decide +kernel)
set_option maxRecDepth 20000 in
theorem gX2_table_X0_readText : GoodIn wsX2_table (wsV RX2 54 RX0 yX0_readText wsX0_readText) := goodIn_app (goodIn_of _ (by decide +kernel)) ggX2_table_X0_readText
set_option maxRecDepth 20000 in
theorem ggX2_table_X0_become : GoodIn wsX2_table wsX0_become := goodIn_r _ [76, 41, 77, 78, 79, 80, 69, 70, 71, 72, 39, 40, 38, 89, 90, 91, 92, 93, 94, 95, 96] (by decide +kernel) (by decide +kernel)
set_option maxRecDepth 20000 in
theorem gX2_table_X0_become : GoodIn wsX2_table (wsV RX2 58 RX0 yX0_become wsX0_become) := goodIn_app (goodIn_of _ (by decide +kernel)) ggX2_table_X0_become
theorem dX2_table_0 : decode cX2_table 0 = .ok (.aload_n 0, 1) := by decide +kernel
theorem dX2_table_1 : decode cX2_table 1 = .ok (.iconst 0, 1) := by decide +kernel
theorem dX2_table_2 : decode cX2_table 2 = .ok (.putfield 35, 3) := by decide +kernel
theorem dX2_table_5 : decode cX2_table 5 = .ok (.iload_n 1, 1) := by decide +kernel
theorem dX2_table_6 : decode cX2_table 6 = .ok (.invokestatic 39, 3) := by decide +kernel
theorem dX2_table_9 : decode cX2_table 9 = .ok (.ifCond .ne 5, 3) := by decide +kernel
theorem dX2_table_12 : decode cX2_table 12 = .ok (.iconst (-1), 1) := by decide +kernel
theorem dX2_table_13 : decode cX2_table 13 = .ok (.ireturn, 1) := by decide +kernel
theorem dX2_table_14 : decode cX2_table 14 = .ok (.iload_n 2, 1) := by decide +kernel
theorem dX2_table_15 : decode cX2_table 15 = .ok (.invokestatic 43, 3) := by decide +kernel
theorem dX2_table_18 : decode cX2_table 18 = .ok (.ifCond .ne 6, 3) := by decide +kernel
theorem dX2_table_21 : decode cX2_table 21 = .ok (.bipush (-2), 2) := by decide +kernel
theorem dX2_table_23 : decode cX2_table 23 = .ok (.ireturn, 1) := by decide +kernel
theorem dX2_table_24 : decode cX2_table 24 = .ok (.aload_n 0, 1) := by decide +kernel
theorem dX2_table_25 : decode cX2_table 25 = .ok (.getfield 23, 3) := by decide +kernel
theorem dX2_table_28 : decode cX2_table 28 = .ok (.iload_n 1, 1) := by decide +kernel
theorem dX2_table_29 : decode cX2_table 29 = .ok (.aaload, 1) := by decide +kernel
theorem dX2_table_30 : decode cX2_table 30 = .ok (.astore 5, 2) := by decide +kernel
theorem dX2_table_32 : decode cX2_table 32 = .ok (.aload 5, 2) := by decide +kernel
theorem dX2_table_34 : decode cX2_table 34 = .ok (.iload_n 2, 1) := by decide +kernel
theorem dX2_table_35 : decode cX2_table 35 = .ok (.iload_n 3, 1) := by decide +kernel
theorem dX2_table_36 : decode cX2_table 36 = .ok (.iload 4, 2) := by decide +kernel
theorem dX2_table_38 : decode cX2_table 38 = .ok (.invokevirtual 46, 3) := by decide +kernel
theorem dX2_table_41 : decode cX2_table 41 = .ok (.istore 6, 2) := by decide +kernel
theorem dX2_table_43 : decode cX2_table 43 = .ok (.iload 6, 2) := by decide +kernel
theorem dX2_table_45 : decode cX2_table 45 = .ok (.ifCond .eq 10, 3) := by decide +kernel
theorem dX2_table_48 : decode cX2_table 48 = .ok (.aload_n 0, 1) := by decide +kernel
theorem dX2_table_49 : decode cX2_table 49 = .ok (.iload 6, 2) := by decide +kernel
theorem dX2_table_51 : decode cX2_table 51 = .ok (.invokevirtual 50, 3) := by decide +kernel
theorem dX2_table_54 : decode cX2_table 54 = .ok (.ireturn, 1) := by decide +kernel
theorem dX2_table_55 : decode cX2_table 55 = .ok (.aload_n 0, 1) := by decide +kernel
theorem dX2_table_56 : decode cX2_table 56 = .ok (.getfield 18, 3) := by decide +kernel
theorem dX2_table_59 : decode cX2_table 59 = .ok (.aload 5, 2) := by decide +kernel
theorem dX2_table_61 : decode cX2_table 61 = .ok (.iload_n 3, 1) := by decide +kernel
theorem dX2_table_62 : decode cX2_table 62 = .ok (.iload 4, 2) := by decide +kernel
theorem dX2_table_64 : decode cX2_table 64 = .ok (.invokevirtual 54, 3) := by decide +kernel
theorem dX2_table_67 : decode cX2_table 67 = .ok (.istore 7, 2) := by decide +kernel
theorem dX2_table_69 : decode cX2_table 69 = .ok (.iload 7, 2) := by decide +kernel
theorem dX2_table_71 : decode cX2_table 71 = .ok (.bipush (-9), 2) := by decide +kernel
theorem dX2_table_73 : decode cX2_table 73 = .ok (.if_icmp .eq 9, 3) := by decide +kernel
theorem dX2_table_76 : decode cX2_table 76 = .ok (.bipush (-100), 2) := by decide +kernel
theorem dX2_table_78 : decode cX2_table 78 = .ok (.iload 7, 2) := by decide +kernel
theorem dX2_table_80 : decode cX2_table 80 = .ok (.isub, 1) := by decide +kernel
theorem dX2_table_81 : decode cX2_table 81 = .ok (.ireturn, 1) := by decide +kernel
theorem dX2_table_82 : decode cX2_table 82 = .ok (.aload_n 0, 1) := by decide +kernel
theorem dX2_table_83 : decode cX2_table 83 = .ok (.getfield 14, 3) := by decide +kernel
theorem dX2_table_86 : decode cX2_table 86 = .ok (.aload_n 0, 1) := by decide +kernel
theorem dX2_table_87 : decode cX2_table 87 = .ok (.getfield 18, 3) := by decide +kernel
theorem dX2_table_90 : decode cX2_table 90 = .ok (.invokevirtual 58, 3) := by decide +kernel
theorem dX2_table_93 : decode cX2_table 93 = .ok (.aload_n 0, 1) := by decide +kernel
theorem dX2_table_94 : decode cX2_table 94 = .ok (.iconst 0, 1) := by decide +kernel
theorem dX2_table_95 : decode cX2_table 95 = .ok (.putfield 62, 3) := by decide +kernel
theorem dX2_table_98 : decode cX2_table 98 = .ok (.aload_n 0, 1) := by decide +kernel
theorem dX2_table_99 : decode cX2_table 99 = .ok (.getfield 14, 3) := by decide +kernel
theorem dX2_table_102 : decode cX2_table 102 = .ok (.getfield 65, 3) := by decide +kernel
theorem dX2_table_105 : decode cX2_table 105 = .ok (.ireturn, 1) := by decide +kernel
set_option maxRecDepth 20000 in
theorem ggX2_ofThing_X2_isThing : GoodIn wsX2_ofThing wsX2_isThing := goodIn_r _ [9, 1, 10, 28, 29, 30, 31, 32, 33, 34, 35, 36, 37, 38, 39, 40, 41, 42, 43] (by decide +kernel) (by decide +kernel)
set_option maxRecDepth 20000 in
theorem gX2_ofThing_X2_isThing : GoodIn wsX2_ofThing (wsV RX2 68 RX2 yX2_isThing wsX2_isThing) := goodIn_app (goodIn_of _ (by decide +kernel)) ggX2_ofThing_X2_isThing
set_option maxRecDepth 20000 in
theorem ggX2_ofThing_X0_whereIs : GoodIn wsX2_ofThing wsX0_whereIs := goodIn_r _ [15, 16, 17, 18, 19, 14, 20, 21, 36, 37, 38, 39, 40, 41, 42, 43] (by decide +kernel) (by decide +kernel)
set_option maxRecDepth 20000 in
theorem gX2_ofThing_X0_whereIs : GoodIn wsX2_ofThing (wsV RX2 77 RX0 yX0_whereIs wsX0_whereIs) := goodIn_app (goodIn_of _ (by decide +kernel)) ggX2_ofThing_X0_whereIs
set_option maxRecDepth 20000 in
theorem ggX2_ofThing_X0_mightOf : GoodIn wsX2_ofThing wsX0_mightOf := goodIn_r _ [25, 26, 27, 17, 18, 19, 14, 20, 21, 36, 37, 38, 39, 40, 41, 42, 43] (by decide +kernel) (by decide +kernel)
set_option maxRecDepth 20000 in
theorem gX2_ofThing_X0_mightOf : GoodIn wsX2_ofThing (wsV RX2 83 RX0 yX0_mightOf wsX0_mightOf) := goodIn_app (goodIn_of _ (by decide +kernel)) ggX2_ofThing_X0_mightOf
theorem dX2_ofThing_0 : decode cX2_ofThing 0 = .ok (.aload_n 0, 1) := by decide +kernel
theorem dX2_ofThing_1 : decode cX2_ofThing 1 = .ok (.iload_n 1, 1) := by decide +kernel
theorem dX2_ofThing_2 : decode cX2_ofThing 2 = .ok (.invokevirtual 68, 3) := by decide +kernel
theorem dX2_ofThing_5 : decode cX2_ofThing 5 = .ok (.ifCond .ne 5, 3) := by decide +kernel
theorem dX2_ofThing_8 : decode cX2_ofThing 8 = .ok (.iconst (-1), 1) := by decide +kernel
theorem dX2_ofThing_9 : decode cX2_ofThing 9 = .ok (.ireturn, 1) := by decide +kernel
theorem dX2_ofThing_10 : decode cX2_ofThing 10 = .ok (.iload_n 2, 1) := by decide +kernel
theorem dX2_ofThing_11 : decode cX2_ofThing 11 = .ok (.tableswitch 81 0 4 #[33, 43, 53, 62, 72], 33) := by decide +kernel
theorem dX2_ofThing_44 : decode cX2_ofThing 44 = .ok (.aload_n 0, 1) := by decide +kernel
theorem dX2_ofThing_45 : decode cX2_ofThing 45 = .ok (.getfield 14, 3) := by decide +kernel
theorem dX2_ofThing_48 : decode cX2_ofThing 48 = .ok (.getfield 71, 3) := by decide +kernel
theorem dX2_ofThing_51 : decode cX2_ofThing 51 = .ok (.iload_n 1, 1) := by decide +kernel
theorem dX2_ofThing_52 : decode cX2_ofThing 52 = .ok (.iaload, 1) := by decide +kernel
theorem dX2_ofThing_53 : decode cX2_ofThing 53 = .ok (.ireturn, 1) := by decide +kernel
theorem dX2_ofThing_54 : decode cX2_ofThing 54 = .ok (.aload_n 0, 1) := by decide +kernel
theorem dX2_ofThing_55 : decode cX2_ofThing 55 = .ok (.getfield 14, 3) := by decide +kernel
theorem dX2_ofThing_58 : decode cX2_ofThing 58 = .ok (.getfield 74, 3) := by decide +kernel
theorem dX2_ofThing_61 : decode cX2_ofThing 61 = .ok (.iload_n 1, 1) := by decide +kernel
theorem dX2_ofThing_62 : decode cX2_ofThing 62 = .ok (.iaload, 1) := by decide +kernel
theorem dX2_ofThing_63 : decode cX2_ofThing 63 = .ok (.ireturn, 1) := by decide +kernel
theorem dX2_ofThing_64 : decode cX2_ofThing 64 = .ok (.aload_n 0, 1) := by decide +kernel
theorem dX2_ofThing_65 : decode cX2_ofThing 65 = .ok (.getfield 14, 3) := by decide +kernel
theorem dX2_ofThing_68 : decode cX2_ofThing 68 = .ok (.iload_n 1, 1) := by decide +kernel
theorem dX2_ofThing_69 : decode cX2_ofThing 69 = .ok (.invokevirtual 77, 3) := by decide +kernel
theorem dX2_ofThing_72 : decode cX2_ofThing 72 = .ok (.ireturn, 1) := by decide +kernel
theorem dX2_ofThing_73 : decode cX2_ofThing 73 = .ok (.aload_n 0, 1) := by decide +kernel
theorem dX2_ofThing_74 : decode cX2_ofThing 74 = .ok (.getfield 14, 3) := by decide +kernel
theorem dX2_ofThing_77 : decode cX2_ofThing 77 = .ok (.getfield 80, 3) := by decide +kernel
theorem dX2_ofThing_80 : decode cX2_ofThing 80 = .ok (.iload_n 1, 1) := by decide +kernel
theorem dX2_ofThing_81 : decode cX2_ofThing 81 = .ok (.iaload, 1) := by decide +kernel
theorem dX2_ofThing_82 : decode cX2_ofThing 82 = .ok (.ireturn, 1) := by decide +kernel
theorem dX2_ofThing_83 : decode cX2_ofThing 83 = .ok (.aload_n 0, 1) := by decide +kernel
theorem dX2_ofThing_84 : decode cX2_ofThing 84 = .ok (.getfield 14, 3) := by decide +kernel
theorem dX2_ofThing_87 : decode cX2_ofThing 87 = .ok (.iload_n 1, 1) := by decide +kernel
theorem dX2_ofThing_88 : decode cX2_ofThing 88 = .ok (.invokevirtual 83, 3) := by decide +kernel
theorem dX2_ofThing_91 : decode cX2_ofThing 91 = .ok (.ireturn, 1) := by decide +kernel
theorem dX2_ofThing_92 : decode cX2_ofThing 92 = .ok (.bipush (-2), 2) := by decide +kernel
theorem dX2_ofThing_94 : decode cX2_ofThing 94 = .ok (.ireturn, 1) := by decide +kernel
set_option maxRecDepth 20000 in
theorem ggX2_acres_X2_isCell : GoodIn wsX2_acres wsX2_isCell := goodIn_r _ [7, 1, 8, 9, 10, 11, 12, 13, 14, 15, 16, 17, 18, 19, 20, 21, 22, 23, 24] (by decide +kernel) (by decide +kernel)
set_option maxRecDepth 20000 in
theorem gX2_acres_X2_isCell : GoodIn wsX2_acres (wsV RX2 86 RX2 yX2_isCell wsX2_isCell) := goodIn_app (goodIn_of _ (by decide +kernel)) ggX2_acres_X2_isCell
theorem dX2_acres_0 : decode cX2_acres 0 = .ok (.aload_n 0, 1) := by decide +kernel
theorem dX2_acres_1 : decode cX2_acres 1 = .ok (.iload_n 1, 1) := by decide +kernel
theorem dX2_acres_2 : decode cX2_acres 2 = .ok (.invokevirtual 86, 3) := by decide +kernel
theorem dX2_acres_5 : decode cX2_acres 5 = .ok (.ifCond .eq 15, 3) := by decide +kernel
theorem dX2_acres_8 : decode cX2_acres 8 = .ok (.aload_n 0, 1) := by decide +kernel
theorem dX2_acres_9 : decode cX2_acres 9 = .ok (.getfield 14, 3) := by decide +kernel
theorem dX2_acres_12 : decode cX2_acres 12 = .ok (.getfield 89, 3) := by decide +kernel
theorem dX2_acres_15 : decode cX2_acres 15 = .ok (.iload_n 1, 1) := by decide +kernel
theorem dX2_acres_16 : decode cX2_acres 16 = .ok (.iaload, 1) := by decide +kernel
theorem dX2_acres_17 : decode cX2_acres 17 = .ok (.goto 4, 3) := by decide +kernel
theorem dX2_acres_20 : decode cX2_acres 20 = .ok (.iconst (-1), 1) := by decide +kernel
theorem dX2_acres_21 : decode cX2_acres 21 = .ok (.ireturn, 1) := by decide +kernel
set_option maxRecDepth 20000 in
theorem ggX2_stain_X2_isCell : GoodIn wsX2_stain wsX2_isCell := goodIn_r _ [7, 1, 8, 12, 13, 14, 15, 16, 17, 18, 19, 20, 21, 22, 23, 24, 25, 26, 27] (by decide +kernel) (by decide +kernel)
set_option maxRecDepth 20000 in
theorem gX2_stain_X2_isCell : GoodIn wsX2_stain (wsV RX2 86 RX2 yX2_isCell wsX2_isCell) := goodIn_app (goodIn_of _ (by decide +kernel)) ggX2_stain_X2_isCell
set_option maxRecDepth 20000 in
theorem ggX2_stain_X2_replaceDigit : GoodIn wsX2_stain wsX2_replaceDigit := goodIn_r _ [11] (by decide +kernel) (by decide +kernel)
set_option maxRecDepth 20000 in
theorem gX2_stain_X2_replaceDigit : GoodIn wsX2_stain (va_wsS RX2 92 yX2_replaceDigit wsX2_replaceDigit) := goodIn_app (goodIn_of _ (by decide +kernel)) ggX2_stain_X2_replaceDigit
theorem dX2_stain_0 : decode cX2_stain 0 = .ok (.aload_n 0, 1) := by decide +kernel
theorem dX2_stain_1 : decode cX2_stain 1 = .ok (.iload_n 1, 1) := by decide +kernel
theorem dX2_stain_2 : decode cX2_stain 2 = .ok (.invokevirtual 86, 3) := by decide +kernel
theorem dX2_stain_5 : decode cX2_stain 5 = .ok (.ifCond .eq 18, 3) := by decide +kernel
theorem dX2_stain_8 : decode cX2_stain 8 = .ok (.aload_n 0, 1) := by decide +kernel
theorem dX2_stain_9 : decode cX2_stain 9 = .ok (.getfield 14, 3) := by decide +kernel
theorem dX2_stain_12 : decode cX2_stain 12 = .ok (.getfield 89, 3) := by decide +kernel
theorem dX2_stain_15 : decode cX2_stain 15 = .ok (.iload_n 1, 1) := by decide +kernel
theorem dX2_stain_16 : decode cX2_stain 16 = .ok (.iload_n 2, 1) := by decide +kernel
theorem dX2_stain_17 : decode cX2_stain 17 = .ok (.invokestatic 92, 3) := by decide +kernel
theorem dX2_stain_20 : decode cX2_stain 20 = .ok (.goto 4, 3) := by decide +kernel
theorem dX2_stain_23 : decode cX2_stain 23 = .ok (.iconst (-1), 1) := by decide +kernel
theorem dX2_stain_24 : decode cX2_stain 24 = .ok (.ireturn, 1) := by decide +kernel
set_option maxRecDepth 20000 in
theorem ggX2_arm_X2_isThing : GoodIn wsX2_arm wsX2_isThing := goodIn_r _ [7, 1, 8, 12, 13, 14, 15, 16, 17, 18, 19, 20, 21, 22, 23, 24, 25, 26, 27] (by decide +kernel) (by decide +kernel)
set_option maxRecDepth 20000 in
theorem gX2_arm_X2_isThing : GoodIn wsX2_arm (wsV RX2 68 RX2 yX2_isThing wsX2_isThing) := goodIn_app (goodIn_of _ (by decide +kernel)) ggX2_arm_X2_isThing
set_option maxRecDepth 20000 in
theorem ggX2_arm_X2_replaceDigit : GoodIn wsX2_arm wsX2_replaceDigit := goodIn_r _ [11] (by decide +kernel) (by decide +kernel)
set_option maxRecDepth 20000 in
theorem gX2_arm_X2_replaceDigit : GoodIn wsX2_arm (va_wsS RX2 92 yX2_replaceDigit wsX2_replaceDigit) := goodIn_app (goodIn_of _ (by decide +kernel)) ggX2_arm_X2_replaceDigit
theorem dX2_arm_0 : decode cX2_arm 0 = .ok (.aload_n 0, 1) := by decide +kernel
theorem dX2_arm_1 : decode cX2_arm 1 = .ok (.iload_n 1, 1) := by decide +kernel
theorem dX2_arm_2 : decode cX2_arm 2 = .ok (.invokevirtual 68, 3) := by decide +kernel
theorem dX2_arm_5 : decode cX2_arm 5 = .ok (.ifCond .eq 18, 3) := by decide +kernel
theorem dX2_arm_8 : decode cX2_arm 8 = .ok (.aload_n 0, 1) := by decide +kernel
theorem dX2_arm_9 : decode cX2_arm 9 = .ok (.getfield 14, 3) := by decide +kernel
theorem dX2_arm_12 : decode cX2_arm 12 = .ok (.getfield 80, 3) := by decide +kernel
theorem dX2_arm_15 : decode cX2_arm 15 = .ok (.iload_n 1, 1) := by decide +kernel
theorem dX2_arm_16 : decode cX2_arm 16 = .ok (.iload_n 2, 1) := by decide +kernel
theorem dX2_arm_17 : decode cX2_arm 17 = .ok (.invokestatic 92, 3) := by decide +kernel
theorem dX2_arm_20 : decode cX2_arm 20 = .ok (.goto 4, 3) := by decide +kernel
theorem dX2_arm_23 : decode cX2_arm 23 = .ok (.iconst (-1), 1) := by decide +kernel
theorem dX2_arm_24 : decode cX2_arm 24 = .ok (.ireturn, 1) := by decide +kernel
set_option maxRecDepth 20000 in
theorem ggX2_might_X2_isHouse : GoodIn wsX2_might wsX2_isHouse := goodIn_r _ [5] (by decide +kernel) (by decide +kernel)
set_option maxRecDepth 20000 in
theorem gX2_might_X2_isHouse : GoodIn wsX2_might (va_wsS RX2 96 yX2_isHouse wsX2_isHouse) := goodIn_app (goodIn_of _ (by decide +kernel)) ggX2_might_X2_isHouse
set_option maxRecDepth 20000 in
theorem ggX2_might_X2_isCell : GoodIn wsX2_might wsX2_isCell := goodIn_r _ [9, 1, 10, 30, 31, 32, 33, 34, 35, 36, 37, 38, 39, 40, 41, 42, 43, 44, 45] (by decide +kernel) (by decide +kernel)
set_option maxRecDepth 20000 in
theorem gX2_might_X2_isCell : GoodIn wsX2_might (wsV RX2 86 RX2 yX2_isCell wsX2_isCell) := goodIn_app (goodIn_of _ (by decide +kernel)) ggX2_might_X2_isCell
set_option maxRecDepth 20000 in
theorem ggX2_might_X0_mightIn : GoodIn wsX2_might wsX0_mightIn := goodIn_r _ [15, 16, 17, 18, 19, 20, 21, 14, 22, 23, 24, 25, 26, 27, 28, 29, 38, 39, 40, 41, 42, 43, 44, 45] (by decide +kernel) (by decide +kernel)
set_option maxRecDepth 20000 in
theorem gX2_might_X0_mightIn : GoodIn wsX2_might (wsV RX2 99 RX0 yX0_mightIn wsX0_mightIn) := goodIn_app (goodIn_of _ (by decide +kernel)) ggX2_might_X0_mightIn
theorem dX2_might_0 : decode cX2_might 0 = .ok (.iload_n 1, 1) := by decide +kernel
theorem dX2_might_1 : decode cX2_might 1 = .ok (.invokestatic 96, 3) := by decide +kernel
theorem dX2_might_4 : decode cX2_might 4 = .ok (.ifCond .eq 23, 3) := by decide +kernel
theorem dX2_might_7 : decode cX2_might 7 = .ok (.aload_n 0, 1) := by decide +kernel
theorem dX2_might_8 : decode cX2_might 8 = .ok (.iload_n 2, 1) := by decide +kernel
theorem dX2_might_9 : decode cX2_might 9 = .ok (.invokevirtual 86, 3) := by decide +kernel
theorem dX2_might_12 : decode cX2_might 12 = .ok (.ifCond .eq 15, 3) := by decide +kernel
theorem dX2_might_15 : decode cX2_might 15 = .ok (.aload_n 0, 1) := by decide +kernel
theorem dX2_might_16 : decode cX2_might 16 = .ok (.getfield 14, 3) := by decide +kernel
theorem dX2_might_19 : decode cX2_might 19 = .ok (.iload_n 1, 1) := by decide +kernel
theorem dX2_might_20 : decode cX2_might 20 = .ok (.iload_n 2, 1) := by decide +kernel
theorem dX2_might_21 : decode cX2_might 21 = .ok (.invokevirtual 99, 3) := by decide +kernel
theorem dX2_might_24 : decode cX2_might 24 = .ok (.goto 4, 3) := by decide +kernel
theorem dX2_might_27 : decode cX2_might 27 = .ok (.iconst (-1), 1) := by decide +kernel
theorem dX2_might_28 : decode cX2_might 28 = .ok (.ireturn, 1) := by decide +kernel
set_option maxRecDepth 20000 in
theorem ggX2_holds_X2_isCell : GoodIn wsX2_holds wsX2_isCell := goodIn_r _ [6, 1, 7, 27, 28, 29, 30, 31, 32, 33, 34, 35, 36, 37, 38, 39, 40, 41, 42] (by decide +kernel) (by decide +kernel)
set_option maxRecDepth 20000 in
theorem gX2_holds_X2_isCell : GoodIn wsX2_holds (wsV RX2 86 RX2 yX2_isCell wsX2_isCell) := goodIn_app (goodIn_of _ (by decide +kernel)) ggX2_holds_X2_isCell
set_option maxRecDepth 20000 in
theorem ggX2_holds_X0_holderOf : GoodIn wsX2_holds wsX0_holderOf := goodIn_r _ [12, 13, 14, 15, 16, 17, 18, 11, 19, 20, 21, 22, 23, 24, 25, 26, 35, 36, 37, 38, 39, 40, 41, 42] (by decide +kernel) (by decide +kernel)
set_option maxRecDepth 20000 in
theorem gX2_holds_X0_holderOf : GoodIn wsX2_holds (wsV RX2 103 RX0 yX0_holderOf wsX0_holderOf) := goodIn_app (goodIn_of _ (by decide +kernel)) ggX2_holds_X0_holderOf
theorem dX2_holds_0 : decode cX2_holds 0 = .ok (.aload_n 0, 1) := by decide +kernel
theorem dX2_holds_1 : decode cX2_holds 1 = .ok (.iload_n 1, 1) := by decide +kernel
theorem dX2_holds_2 : decode cX2_holds 2 = .ok (.invokevirtual 86, 3) := by decide +kernel
theorem dX2_holds_5 : decode cX2_holds 5 = .ok (.ifCond .eq 14, 3) := by decide +kernel
theorem dX2_holds_8 : decode cX2_holds 8 = .ok (.aload_n 0, 1) := by decide +kernel
theorem dX2_holds_9 : decode cX2_holds 9 = .ok (.getfield 14, 3) := by decide +kernel
theorem dX2_holds_12 : decode cX2_holds 12 = .ok (.iload_n 1, 1) := by decide +kernel
theorem dX2_holds_13 : decode cX2_holds 13 = .ok (.invokevirtual 103, 3) := by decide +kernel
theorem dX2_holds_16 : decode cX2_holds 16 = .ok (.goto 4, 3) := by decide +kernel
theorem dX2_holds_19 : decode cX2_holds 19 = .ok (.iconst (-1), 1) := by decide +kernel
theorem dX2_holds_20 : decode cX2_holds 20 = .ok (.ireturn, 1) := by decide +kernel
set_option maxRecDepth 20000 in
theorem ggX2_land_X2_isHouse : GoodIn wsX2_land wsX2_isHouse := goodIn_r _ [5] (by decide +kernel) (by decide +kernel)
set_option maxRecDepth 20000 in
theorem gX2_land_X2_isHouse : GoodIn wsX2_land (va_wsS RX2 96 yX2_isHouse wsX2_isHouse) := goodIn_app (goodIn_of _ (by decide +kernel)) ggX2_land_X2_isHouse
set_option maxRecDepth 20000 in
theorem ggX2_land_X2_hasTable : GoodIn wsX2_land wsX2_hasTable := goodIn_r _ [9, 1, 10, 36, 37, 38, 39, 40, 41, 42, 43, 44, 45, 46, 47, 48, 49, 50, 51] (by decide +kernel) (by decide +kernel)
set_option maxRecDepth 20000 in
theorem gX2_land_X2_hasTable : GoodIn wsX2_land (wsV RX2 106 RX2 yX2_hasTable wsX2_hasTable) := goodIn_app (goodIn_of _ (by decide +kernel)) ggX2_land_X2_hasTable
set_option maxRecDepth 20000 in
theorem ggX2_land_X0_landOf : GoodIn wsX2_land wsX0_landOf := goodIn_r _ [15, 16, 17, 18, 19, 20, 14, 21, 22, 23, 24, 25, 26, 27, 28, 29, 30, 31, 32, 33, 34, 35, 44, 45, 46, 47, 48, 49, 50, 51] (by decide +kernel) (by decide +kernel)
set_option maxRecDepth 20000 in
theorem gX2_land_X0_landOf : GoodIn wsX2_land (wsV RX2 110 RX0 yX0_landOf wsX0_landOf) := goodIn_app (goodIn_of _ (by decide +kernel)) ggX2_land_X0_landOf
theorem dX2_land_0 : decode cX2_land 0 = .ok (.iload_n 1, 1) := by decide +kernel
theorem dX2_land_1 : decode cX2_land 1 = .ok (.invokestatic 96, 3) := by decide +kernel
theorem dX2_land_4 : decode cX2_land 4 = .ok (.ifCond .ne 5, 3) := by decide +kernel
theorem dX2_land_7 : decode cX2_land 7 = .ok (.iconst (-1), 1) := by decide +kernel
theorem dX2_land_8 : decode cX2_land 8 = .ok (.ireturn, 1) := by decide +kernel
theorem dX2_land_9 : decode cX2_land 9 = .ok (.aload_n 0, 1) := by decide +kernel
theorem dX2_land_10 : decode cX2_land 10 = .ok (.invokevirtual 106, 3) := by decide +kernel
theorem dX2_land_13 : decode cX2_land 13 = .ok (.ifCond .eq 14, 3) := by decide +kernel
theorem dX2_land_16 : decode cX2_land 16 = .ok (.aload_n 0, 1) := by decide +kernel
theorem dX2_land_17 : decode cX2_land 17 = .ok (.getfield 14, 3) := by decide +kernel
theorem dX2_land_20 : decode cX2_land 20 = .ok (.iload_n 1, 1) := by decide +kernel
theorem dX2_land_21 : decode cX2_land 21 = .ok (.invokevirtual 110, 3) := by decide +kernel
theorem dX2_land_24 : decode cX2_land 24 = .ok (.goto 5, 3) := by decide +kernel
theorem dX2_land_27 : decode cX2_land 27 = .ok (.bipush (-3), 2) := by decide +kernel
theorem dX2_land_29 : decode cX2_land 29 = .ok (.ireturn, 1) := by decide +kernel
set_option maxRecDepth 20000 in
theorem ggX2_act_X2_isThing : GoodIn wsX2_act wsX2_isThing := goodIn_r _ [6, 1, 7, 31, 32, 33, 34, 35, 36, 37, 38, 39, 40, 41, 42, 43, 44, 45, 46] (by decide +kernel) (by decide +kernel)
set_option maxRecDepth 20000 in
theorem gX2_act_X2_isThing : GoodIn wsX2_act (wsV RX2 68 RX2 yX2_isThing wsX2_isThing) := goodIn_app (goodIn_of _ (by decide +kernel)) ggX2_act_X2_isThing
set_option maxRecDepth 20000 in
theorem ggX2_act_X2_isAct : GoodIn wsX2_act wsX2_isAct := goodIn_r _ [10] (by decide +kernel) (by decide +kernel)
set_option maxRecDepth 20000 in
theorem gX2_act_X2_isAct : GoodIn wsX2_act (va_wsS RX2 113 yX2_isAct wsX2_isAct) := goodIn_app (goodIn_of _ (by decide +kernel)) ggX2_act_X2_isAct
set_option maxRecDepth 20000 in
theorem ggX2_act_X0_canDo : GoodIn wsX2_act wsX0_canDo := goodIn_r _ [15, 16, 17, 18, 19, 20, 14, 21, 22, 39, 40, 41, 42, 43, 44, 45, 46] (by decide +kernel) (by decide +kernel)
set_option maxRecDepth 20000 in
theorem gX2_act_X0_canDo : GoodIn wsX2_act (wsV RX2 116 RX0 yX0_canDo wsX0_canDo) := goodIn_app (goodIn_of _ (by decide +kernel)) ggX2_act_X0_canDo
set_option maxRecDepth 20000 in
theorem ggX2_act_X0_doAct : GoodIn wsX2_act wsX0_doAct := goodIn_r _ [26, 16, 22, 39, 40, 41, 42, 43, 44, 45, 46] (by decide +kernel) (by decide +kernel)
set_option maxRecDepth 20000 in
theorem gX2_act_X0_doAct : GoodIn wsX2_act (wsV RX2 120 RX0 yX0_doAct wsX0_doAct) := goodIn_app (goodIn_of _ (by decide +kernel)) ggX2_act_X0_doAct
set_option maxRecDepth 20000 in
theorem ggX2_act_X0_whereIs : GoodIn wsX2_act wsX0_whereIs := goodIn_r _ [30, 16, 18, 19, 20, 14, 21, 22, 39, 40, 41, 42, 43, 44, 45, 46] (by decide +kernel) (by decide +kernel)
set_option maxRecDepth 20000 in
theorem gX2_act_X0_whereIs : GoodIn wsX2_act (wsV RX2 77 RX0 yX0_whereIs wsX0_whereIs) := goodIn_app (goodIn_of _ (by decide +kernel)) ggX2_act_X0_whereIs
theorem dX2_act_0 : decode cX2_act 0 = .ok (.aload_n 0, 1) := by decide +kernel
theorem dX2_act_1 : decode cX2_act 1 = .ok (.iload_n 1, 1) := by decide +kernel
theorem dX2_act_2 : decode cX2_act 2 = .ok (.invokevirtual 68, 3) := by decide +kernel
theorem dX2_act_5 : decode cX2_act 5 = .ok (.ifCond .ne 5, 3) := by decide +kernel
theorem dX2_act_8 : decode cX2_act 8 = .ok (.iconst (-1), 1) := by decide +kernel
theorem dX2_act_9 : decode cX2_act 9 = .ok (.ireturn, 1) := by decide +kernel
theorem dX2_act_10 : decode cX2_act 10 = .ok (.iload_n 2, 1) := by decide +kernel
theorem dX2_act_11 : decode cX2_act 11 = .ok (.invokestatic 113, 3) := by decide +kernel
theorem dX2_act_14 : decode cX2_act 14 = .ok (.ifCond .ne 6, 3) := by decide +kernel
theorem dX2_act_17 : decode cX2_act 17 = .ok (.bipush (-2), 2) := by decide +kernel
theorem dX2_act_19 : decode cX2_act 19 = .ok (.ireturn, 1) := by decide +kernel
theorem dX2_act_20 : decode cX2_act 20 = .ok (.aload_n 0, 1) := by decide +kernel
theorem dX2_act_21 : decode cX2_act 21 = .ok (.getfield 14, 3) := by decide +kernel
theorem dX2_act_24 : decode cX2_act 24 = .ok (.iload_n 1, 1) := by decide +kernel
theorem dX2_act_25 : decode cX2_act 25 = .ok (.iload_n 2, 1) := by decide +kernel
theorem dX2_act_26 : decode cX2_act 26 = .ok (.invokevirtual 116, 3) := by decide +kernel
theorem dX2_act_29 : decode cX2_act 29 = .ok (.ifCond .ne 6, 3) := by decide +kernel
theorem dX2_act_32 : decode cX2_act 32 = .ok (.bipush (-3), 2) := by decide +kernel
theorem dX2_act_34 : decode cX2_act 34 = .ok (.ireturn, 1) := by decide +kernel
theorem dX2_act_35 : decode cX2_act 35 = .ok (.aload_n 0, 1) := by decide +kernel
theorem dX2_act_36 : decode cX2_act 36 = .ok (.getfield 14, 3) := by decide +kernel
theorem dX2_act_39 : decode cX2_act 39 = .ok (.iload_n 1, 1) := by decide +kernel
theorem dX2_act_40 : decode cX2_act 40 = .ok (.iload_n 2, 1) := by decide +kernel
theorem dX2_act_41 : decode cX2_act 41 = .ok (.invokevirtual 120, 3) := by decide +kernel
theorem dX2_act_44 : decode cX2_act 44 = .ok (.aload_n 0, 1) := by decide +kernel
theorem dX2_act_45 : decode cX2_act 45 = .ok (.getfield 14, 3) := by decide +kernel
theorem dX2_act_48 : decode cX2_act 48 = .ok (.iload_n 1, 1) := by decide +kernel
theorem dX2_act_49 : decode cX2_act 49 = .ok (.invokevirtual 77, 3) := by decide +kernel
theorem dX2_act_52 : decode cX2_act 52 = .ok (.ireturn, 1) := by decide +kernel
set_option maxRecDepth 20000 in
theorem ggX2_serve_X2_hasTable : GoodIn wsX2_serve wsX2_hasTable := goodIn_r _ [7, 1, 8, 22, 23, 24, 25, 26, 27, 28, 29, 30, 31, 32, 33, 34, 35, 36, 37] (by decide +kernel) (by decide +kernel)
set_option maxRecDepth 20000 in
theorem gX2_serve_X2_hasTable : GoodIn wsX2_serve (wsV RX2 106 RX2 yX2_hasTable wsX2_hasTable) := goodIn_app (goodIn_of _ (by decide +kernel)) ggX2_serve_X2_hasTable
set_option maxRecDepth 20000 in
theorem ggX2_serve_X0_countEaten : GoodIn wsX2_serve wsX0_countEaten := goodIn_r _ [13, 14, 15, 16, 17, 18, 19, 20, 21, 30, 31, 32, 33, 34, 35, 36, 37] (by decide +kernel) (by decide +kernel)
set_option maxRecDepth 20000 in
theorem gX2_serve_X0_countEaten : GoodIn wsX2_serve (wsV RX2 124 RX0 yX0_countEaten wsX0_countEaten) := goodIn_app (goodIn_of _ (by decide +kernel)) ggX2_serve_X0_countEaten
theorem dX2_serve_0 : decode cX2_serve 0 = .ok (.aload_n 0, 1) := by decide +kernel
theorem dX2_serve_1 : decode cX2_serve 1 = .ok (.invokevirtual 106, 3) := by decide +kernel
theorem dX2_serve_4 : decode cX2_serve 4 = .ok (.ifCond .ne 6, 3) := by decide +kernel
theorem dX2_serve_7 : decode cX2_serve 7 = .ok (.bipush (-3), 2) := by decide +kernel
theorem dX2_serve_9 : decode cX2_serve 9 = .ok (.ireturn, 1) := by decide +kernel
theorem dX2_serve_10 : decode cX2_serve 10 = .ok (.aload_n 0, 1) := by decide +kernel
theorem dX2_serve_11 : decode cX2_serve 11 = .ok (.getfield 14, 3) := by decide +kernel
theorem dX2_serve_14 : decode cX2_serve 14 = .ok (.invokevirtual 124, 3) := by decide +kernel
theorem dX2_serve_17 : decode cX2_serve 17 = .ok (.istore_n 1, 1) := by decide +kernel
theorem dX2_serve_18 : decode cX2_serve 18 = .ok (.aload_n 0, 1) := by decide +kernel
theorem dX2_serve_19 : decode cX2_serve 19 = .ok (.getfield 14, 3) := by decide +kernel
theorem dX2_serve_22 : decode cX2_serve 22 = .ok (.iconst 0, 1) := by decide +kernel
theorem dX2_serve_23 : decode cX2_serve 23 = .ok (.putfield 128, 3) := by decide +kernel
theorem dX2_serve_26 : decode cX2_serve 26 = .ok (.iload_n 1, 1) := by decide +kernel
theorem dX2_serve_27 : decode cX2_serve 27 = .ok (.ireturn, 1) := by decide +kernel
set_option maxRecDepth 20000 in
theorem ggX2_dinner_X2_isSheet : GoodIn wsX2_dinner wsX2_isSheet := goodIn_r _ [8] (by decide +kernel) (by decide +kernel)
set_option maxRecDepth 20000 in
theorem gX2_dinner_X2_isSheet : GoodIn wsX2_dinner (va_wsS RX2 39 yX2_isSheet wsX2_isSheet) := goodIn_app (goodIn_of _ (by decide +kernel)) ggX2_dinner_X2_isSheet
set_option maxRecDepth 20000 in
theorem ggX2_dinner_X2_isLane : GoodIn wsX2_dinner wsX2_isLane := goodIn_r _ [11] (by decide +kernel) (by decide +kernel)
set_option maxRecDepth 20000 in
theorem gX2_dinner_X2_isLane : GoodIn wsX2_dinner (va_wsS RX2 43 yX2_isLane wsX2_isLane) := goodIn_app (goodIn_of _ (by decide +kernel)) ggX2_dinner_X2_isLane
set_option maxRecDepth 20000 in
theorem ggX2_dinner_X2_isDinnerQuestion : GoodIn wsX2_dinner wsX2_isDinnerQuestion := goodIn_r _ [14] (by decide +kernel) (by decide +kernel)
set_option maxRecDepth 20000 in
theorem gX2_dinner_X2_isDinnerQuestion : GoodIn wsX2_dinner (va_wsS RX2 131 yX2_isDinnerQuestion wsX2_isDinnerQuestion) := goodIn_app (goodIn_of _ (by decide +kernel)) ggX2_dinner_X2_isDinnerQuestion
set_option maxRecDepth 20000 in
theorem ggX2_dinner_X2_hasTable : GoodIn wsX2_dinner wsX2_hasTable := goodIn_r _ [18, 4, 19, 126, 127, 128, 129, 130, 131, 132, 133, 134, 135, 136, 137, 138, 139, 140, 141] (by decide +kernel) (by decide +kernel)
set_option maxRecDepth 20000 in
theorem gX2_dinner_X2_hasTable : GoodIn wsX2_dinner (wsV RX2 106 RX2 yX2_hasTable wsX2_hasTable) := goodIn_app (goodIn_of _ (by decide +kernel)) ggX2_dinner_X2_hasTable
set_option maxRecDepth 20000 in
theorem ggX2_dinner_X1_faultOfCells : GoodIn wsX2_dinner wsX1_faultOfCells := goodIn_r _ [24, 25, 26, 27, 28, 23, 29, 30, 31, 32, 33, 34, 142, 143, 144] (by decide +kernel) (by decide +kernel)
set_option maxRecDepth 20000 in
theorem gX2_dinner_X1_faultOfCells : GoodIn wsX2_dinner (wsV RX2 46 RX1 yX1_faultOfCells wsX1_faultOfCells) := goodIn_app (goodIn_of _ (by decide +kernel)) ggX2_dinner_X1_faultOfCells
set_option maxRecDepth 20000 in
theorem ggX2_dinner_X2_faulted : GoodIn wsX2_dinner wsX2_faulted := goodIn_r _ [38, 1, 126, 127, 128, 129, 130, 131, 132, 133] (by decide +kernel) (by decide +kernel)
set_option maxRecDepth 20000 in
theorem gX2_dinner_X2_faulted : GoodIn wsX2_dinner (wsV RX2 50 RX2 yX2_faulted wsX2_faulted) := goodIn_app (goodIn_of _ (by decide +kernel)) ggX2_dinner_X2_faulted
set_option maxRecDepth 20000 in
theorem ggX2_dinner_X2_refusalOfPairs : GoodIn wsX2_dinner wsX2_refusalOfPairs := goodIn_r _ [42, 43, 44, 45, 23, 46, 34, 47, 48, 49, 50, 7, 51, 4, 19, 52, 53, 54, 142, 143, 144, 126, 127, 128, 129, 130, 131, 132, 133, 134, 135, 136, 137, 138, 139, 140, 141] (by decide +kernel) (by decide +kernel)
set_option maxRecDepth 20000 in
theorem gX2_dinner_X2_refusalOfPairs : GoodIn wsX2_dinner (wsV RX2 134 RX2 yX2_refusalOfPairs wsX2_refusalOfPairs) := goodIn_app (goodIn_of _ (by decide +kernel)) ggX2_dinner_X2_refusalOfPairs
set_option maxRecDepth 20000 in
theorem ggX2_dinner_X0_become : GoodIn wsX2_dinner wsX0_become := goodIn_r _ [59, 60, 61, 62, 63, 64, 65, 66, 67, 68, 69, 70, 71, 134, 135, 136, 137, 138, 139, 140, 141] (by decide +kernel) (by decide +kernel)
set_option maxRecDepth 20000 in
theorem gX2_dinner_X0_become : GoodIn wsX2_dinner (wsV RX2 58 RX0 yX0_become wsX0_become) := goodIn_app (goodIn_of _ (by decide +kernel)) ggX2_dinner_X0_become
set_option maxRecDepth 20000 in
theorem ggX2_dinner_X0_playPairs : GoodIn wsX2_dinner wsX0_playPairs := goodIn_r _ [75, 70, 66, 76, 44, 45, 23, 46, 34, 47, 77, 78, 79, 58, 80, 67, 69, 81, 82, 83, 84, 71, 85, 86, 87, 88, 134, 135, 136, 137, 138, 139, 140, 141, 142, 143, 144] (by decide +kernel) (by decide +kernel)
set_option maxRecDepth 20000 in
theorem gX2_dinner_X0_playPairs : GoodIn wsX2_dinner (wsV RX2 137 RX0 yX0_playPairs wsX0_playPairs) := goodIn_app (goodIn_of _ (by decide +kernel)) ggX2_dinner_X0_playPairs
set_option maxRecDepth 20000 in
theorem ggX2_dinner_X2_answerOfDinner : GoodIn wsX2_dinner wsX2_answerOfDinner := goodIn_r _ [92, 3, 93, 94, 95, 58, 96, 69, 60, 97, 98, 99, 100, 70, 67, 66, 101, 102, 103, 104, 65, 68, 81, 82, 83, 84, 71, 105, 106, 107, 108, 109, 110, 111, 112, 113, 114, 115, 48, 49, 50, 7, 51, 4, 19, 116, 117, 118, 119, 120, 121, 122, 123, 124, 125, 126, 127, 128, 129, 130, 131, 132, 133, 134, 135, 136, 137, 138, 139, 140, 141] (by decide +kernel) (by decide +kernel)
set_option maxRecDepth 20000 in
theorem gX2_dinner_X2_answerOfDinner : GoodIn wsX2_dinner (wsV RX2 140 RX2 yX2_answerOfDinner wsX2_answerOfDinner) := goodIn_app (goodIn_of _ (by decide +kernel)) ggX2_dinner_X2_answerOfDinner
theorem dX2_dinner_0 : decode cX2_dinner 0 = .ok (.aload_n 0, 1) := by decide +kernel
theorem dX2_dinner_1 : decode cX2_dinner 1 = .ok (.iconst 0, 1) := by decide +kernel
theorem dX2_dinner_2 : decode cX2_dinner 2 = .ok (.putfield 35, 3) := by decide +kernel
theorem dX2_dinner_5 : decode cX2_dinner 5 = .ok (.iload_n 1, 1) := by decide +kernel
theorem dX2_dinner_6 : decode cX2_dinner 6 = .ok (.invokestatic 39, 3) := by decide +kernel
theorem dX2_dinner_9 : decode cX2_dinner 9 = .ok (.ifCond .ne 5, 3) := by decide +kernel
theorem dX2_dinner_12 : decode cX2_dinner 12 = .ok (.iconst (-1), 1) := by decide +kernel
theorem dX2_dinner_13 : decode cX2_dinner 13 = .ok (.ireturn, 1) := by decide +kernel
theorem dX2_dinner_14 : decode cX2_dinner 14 = .ok (.iload_n 2, 1) := by decide +kernel
theorem dX2_dinner_15 : decode cX2_dinner 15 = .ok (.invokestatic 43, 3) := by decide +kernel
theorem dX2_dinner_18 : decode cX2_dinner 18 = .ok (.ifCond .eq 23, 3) := by decide +kernel
theorem dX2_dinner_21 : decode cX2_dinner 21 = .ok (.iload 4, 2) := by decide +kernel
theorem dX2_dinner_23 : decode cX2_dinner 23 = .ok (.ifCond .lt 18, 3) := by decide +kernel
theorem dX2_dinner_26 : decode cX2_dinner 26 = .ok (.iload 4, 2) := by decide +kernel
theorem dX2_dinner_28 : decode cX2_dinner 28 = .ok (.bipush 20, 2) := by decide +kernel
theorem dX2_dinner_30 : decode cX2_dinner 30 = .ok (.if_icmp .gt 11, 3) := by decide +kernel
theorem dX2_dinner_33 : decode cX2_dinner 33 = .ok (.iload 5, 2) := by decide +kernel
theorem dX2_dinner_35 : decode cX2_dinner 35 = .ok (.invokestatic 131, 3) := by decide +kernel
theorem dX2_dinner_38 : decode cX2_dinner 38 = .ok (.ifCond .ne 6, 3) := by decide +kernel
theorem dX2_dinner_41 : decode cX2_dinner 41 = .ok (.bipush (-2), 2) := by decide +kernel
theorem dX2_dinner_43 : decode cX2_dinner 43 = .ok (.ireturn, 1) := by decide +kernel
theorem dX2_dinner_44 : decode cX2_dinner 44 = .ok (.aload_n 0, 1) := by decide +kernel
theorem dX2_dinner_45 : decode cX2_dinner 45 = .ok (.invokevirtual 106, 3) := by decide +kernel
theorem dX2_dinner_48 : decode cX2_dinner 48 = .ok (.ifCond .ne 6, 3) := by decide +kernel
theorem dX2_dinner_51 : decode cX2_dinner 51 = .ok (.bipush (-3), 2) := by decide +kernel
theorem dX2_dinner_53 : decode cX2_dinner 53 = .ok (.ireturn, 1) := by decide +kernel
theorem dX2_dinner_54 : decode cX2_dinner 54 = .ok (.aload_n 0, 1) := by decide +kernel
theorem dX2_dinner_55 : decode cX2_dinner 55 = .ok (.getfield 23, 3) := by decide +kernel
theorem dX2_dinner_58 : decode cX2_dinner 58 = .ok (.iload_n 1, 1) := by decide +kernel
theorem dX2_dinner_59 : decode cX2_dinner 59 = .ok (.aaload, 1) := by decide +kernel
theorem dX2_dinner_60 : decode cX2_dinner 60 = .ok (.astore 6, 2) := by decide +kernel
theorem dX2_dinner_62 : decode cX2_dinner 62 = .ok (.aload 6, 2) := by decide +kernel
theorem dX2_dinner_64 : decode cX2_dinner 64 = .ok (.iload_n 2, 1) := by decide +kernel
theorem dX2_dinner_65 : decode cX2_dinner 65 = .ok (.iload_n 3, 1) := by decide +kernel
theorem dX2_dinner_66 : decode cX2_dinner 66 = .ok (.iconst 2, 1) := by decide +kernel
theorem dX2_dinner_67 : decode cX2_dinner 67 = .ok (.iload 4, 2) := by decide +kernel
theorem dX2_dinner_69 : decode cX2_dinner 69 = .ok (.imul, 1) := by decide +kernel
theorem dX2_dinner_70 : decode cX2_dinner 70 = .ok (.invokevirtual 46, 3) := by decide +kernel
theorem dX2_dinner_73 : decode cX2_dinner 73 = .ok (.istore 7, 2) := by decide +kernel
theorem dX2_dinner_75 : decode cX2_dinner 75 = .ok (.iload 7, 2) := by decide +kernel
theorem dX2_dinner_77 : decode cX2_dinner 77 = .ok (.ifCond .eq 10, 3) := by decide +kernel
theorem dX2_dinner_80 : decode cX2_dinner 80 = .ok (.aload_n 0, 1) := by decide +kernel
theorem dX2_dinner_81 : decode cX2_dinner 81 = .ok (.iload 7, 2) := by decide +kernel
theorem dX2_dinner_83 : decode cX2_dinner 83 = .ok (.invokevirtual 50, 3) := by decide +kernel
theorem dX2_dinner_86 : decode cX2_dinner 86 = .ok (.ireturn, 1) := by decide +kernel
theorem dX2_dinner_87 : decode cX2_dinner 87 = .ok (.aload_n 0, 1) := by decide +kernel
theorem dX2_dinner_88 : decode cX2_dinner 88 = .ok (.aload 6, 2) := by decide +kernel
theorem dX2_dinner_90 : decode cX2_dinner 90 = .ok (.iload_n 3, 1) := by decide +kernel
theorem dX2_dinner_91 : decode cX2_dinner 91 = .ok (.iload 4, 2) := by decide +kernel
theorem dX2_dinner_93 : decode cX2_dinner 93 = .ok (.invokevirtual 134, 3) := by decide +kernel
theorem dX2_dinner_96 : decode cX2_dinner 96 = .ok (.istore 8, 2) := by decide +kernel
theorem dX2_dinner_98 : decode cX2_dinner 98 = .ok (.iload 8, 2) := by decide +kernel
theorem dX2_dinner_100 : decode cX2_dinner 100 = .ok (.ifCond .eq 6, 3) := by decide +kernel
theorem dX2_dinner_103 : decode cX2_dinner 103 = .ok (.iload 8, 2) := by decide +kernel
theorem dX2_dinner_105 : decode cX2_dinner 105 = .ok (.ireturn, 1) := by decide +kernel
theorem dX2_dinner_106 : decode cX2_dinner 106 = .ok (.aload_n 0, 1) := by decide +kernel
theorem dX2_dinner_107 : decode cX2_dinner 107 = .ok (.getfield 18, 3) := by decide +kernel
theorem dX2_dinner_110 : decode cX2_dinner 110 = .ok (.aload_n 0, 1) := by decide +kernel
theorem dX2_dinner_111 : decode cX2_dinner 111 = .ok (.getfield 14, 3) := by decide +kernel
theorem dX2_dinner_114 : decode cX2_dinner 114 = .ok (.invokevirtual 58, 3) := by decide +kernel
theorem dX2_dinner_117 : decode cX2_dinner 117 = .ok (.aload_n 0, 1) := by decide +kernel
theorem dX2_dinner_118 : decode cX2_dinner 118 = .ok (.getfield 18, 3) := by decide +kernel
theorem dX2_dinner_121 : decode cX2_dinner 121 = .ok (.aload 6, 2) := by decide +kernel
theorem dX2_dinner_123 : decode cX2_dinner 123 = .ok (.iload_n 3, 1) := by decide +kernel
theorem dX2_dinner_124 : decode cX2_dinner 124 = .ok (.iload 4, 2) := by decide +kernel
theorem dX2_dinner_126 : decode cX2_dinner 126 = .ok (.invokevirtual 137, 3) := by decide +kernel
theorem dX2_dinner_129 : decode cX2_dinner 129 = .ok (.istore 9, 2) := by decide +kernel
theorem dX2_dinner_131 : decode cX2_dinner 131 = .ok (.iload 5, 2) := by decide +kernel
theorem dX2_dinner_133 : decode cX2_dinner 133 = .ok (.iconst 1, 1) := by decide +kernel
theorem dX2_dinner_134 : decode cX2_dinner 134 = .ok (.if_icmp .ne 6, 3) := by decide +kernel
theorem dX2_dinner_137 : decode cX2_dinner 137 = .ok (.iload 9, 2) := by decide +kernel
theorem dX2_dinner_139 : decode cX2_dinner 139 = .ok (.ireturn, 1) := by decide +kernel
theorem dX2_dinner_140 : decode cX2_dinner 140 = .ok (.iload 9, 2) := by decide +kernel
theorem dX2_dinner_142 : decode cX2_dinner 142 = .ok (.bipush (-9), 2) := by decide +kernel
theorem dX2_dinner_144 : decode cX2_dinner 144 = .ok (.if_icmp .ne 12, 3) := by decide +kernel
theorem dX2_dinner_147 : decode cX2_dinner 147 = .ok (.aload_n 0, 1) := by decide +kernel
theorem dX2_dinner_148 : decode cX2_dinner 148 = .ok (.iload 5, 2) := by decide +kernel
theorem dX2_dinner_150 : decode cX2_dinner 150 = .ok (.invokevirtual 140, 3) := by decide +kernel
theorem dX2_dinner_153 : decode cX2_dinner 153 = .ok (.goto 8, 3) := by decide +kernel
theorem dX2_dinner_156 : decode cX2_dinner 156 = .ok (.bipush (-100), 2) := by decide +kernel
theorem dX2_dinner_158 : decode cX2_dinner 158 = .ok (.iload 9, 2) := by decide +kernel
theorem dX2_dinner_160 : decode cX2_dinner 160 = .ok (.isub, 1) := by decide +kernel
theorem dX2_dinner_161 : decode cX2_dinner 161 = .ok (.ireturn, 1) := by decide +kernel
set_option maxRecDepth 20000 in
theorem ggX2_good_X2_refusalOfMove : GoodIn wsX2_good wsX2_refusalOfMove := goodIn_r _ [6, 7, 8, 5, 9, 10, 11, 12, 13, 1, 14, 76, 77, 78, 79, 80, 81, 82, 83, 84, 85, 86, 87, 88, 89, 90, 91] (by decide +kernel) (by decide +kernel)
set_option maxRecDepth 20000 in
theorem gX2_good_X2_refusalOfMove : GoodIn wsX2_good (wsV RX2 143 RX2 yX2_refusalOfMove wsX2_refusalOfMove) := goodIn_app (goodIn_of _ (by decide +kernel)) ggX2_good_X2_refusalOfMove
set_option maxRecDepth 20000 in
theorem ggX2_good_X0_goodChoice : GoodIn wsX2_good wsX0_goodChoice := goodIn_r _ [19, 20, 21, 22, 23, 24, 25, 26, 27, 18, 28, 29, 30, 31, 32, 33, 34, 35, 36, 37, 38, 39, 40, 41, 42, 43, 44, 45, 46, 47, 48, 49, 50, 51, 52, 53, 54, 55, 56, 57, 58, 59, 60, 61, 62, 63, 64, 65, 66, 84, 85, 86, 87, 88, 89, 90, 91] (by decide +kernel) (by decide +kernel)
set_option maxRecDepth 20000 in
theorem gX2_good_X0_goodChoice : GoodIn wsX2_good (wsV RX2 146 RX0 yX0_goodChoice wsX0_goodChoice) := goodIn_app (goodIn_of _ (by decide +kernel)) ggX2_good_X0_goodChoice
set_option maxRecDepth 20000 in
theorem ggX2_good_X2_partOfChoice : GoodIn wsX2_good wsX2_partOfChoice := goodIn_r _ [69, 70, 71, 18, 72, 73, 74, 75] (by decide +kernel) (by decide +kernel)
set_option maxRecDepth 20000 in
theorem gX2_good_X2_partOfChoice : GoodIn wsX2_good (va_wsS RX2 149 yX2_partOfChoice wsX2_partOfChoice) := goodIn_app (goodIn_of _ (by decide +kernel)) ggX2_good_X2_partOfChoice
theorem dX2_good_0 : decode cX2_good 0 = .ok (.aload_n 0, 1) := by decide +kernel
theorem dX2_good_1 : decode cX2_good 1 = .ok (.iload_n 1, 1) := by decide +kernel
theorem dX2_good_2 : decode cX2_good 2 = .ok (.iload_n 2, 1) := by decide +kernel
theorem dX2_good_3 : decode cX2_good 3 = .ok (.invokevirtual 143, 3) := by decide +kernel
theorem dX2_good_6 : decode cX2_good 6 = .ok (.istore_n 3, 1) := by decide +kernel
theorem dX2_good_7 : decode cX2_good 7 = .ok (.iload_n 3, 1) := by decide +kernel
theorem dX2_good_8 : decode cX2_good 8 = .ok (.ifCond .eq 7, 3) := by decide +kernel
theorem dX2_good_11 : decode cX2_good 11 = .ok (.iload_n 3, 1) := by decide +kernel
theorem dX2_good_12 : decode cX2_good 12 = .ok (.goto 15, 3) := by decide +kernel
theorem dX2_good_15 : decode cX2_good 15 = .ok (.aload_n 0, 1) := by decide +kernel
theorem dX2_good_16 : decode cX2_good 16 = .ok (.getfield 14, 3) := by decide +kernel
theorem dX2_good_19 : decode cX2_good 19 = .ok (.iload_n 1, 1) := by decide +kernel
theorem dX2_good_20 : decode cX2_good 20 = .ok (.invokevirtual 146, 3) := by decide +kernel
theorem dX2_good_23 : decode cX2_good 23 = .ok (.iload_n 2, 1) := by decide +kernel
theorem dX2_good_24 : decode cX2_good 24 = .ok (.invokestatic 149, 3) := by decide +kernel
theorem dX2_good_27 : decode cX2_good 27 = .ok (.ireturn, 1) := by decide +kernel
set_option maxRecDepth 20000 in
theorem ggX2_safe_X2_refusalOfMove : GoodIn wsX2_safe wsX2_refusalOfMove := goodIn_r _ [6, 7, 8, 5, 9, 10, 11, 12, 13, 1, 14, 81, 82, 83, 84, 85, 86, 87, 88, 89, 90, 91, 92, 93, 94, 95, 96] (by decide +kernel) (by decide +kernel)
set_option maxRecDepth 20000 in
theorem gX2_safe_X2_refusalOfMove : GoodIn wsX2_safe (wsV RX2 143 RX2 yX2_refusalOfMove wsX2_refusalOfMove) := goodIn_app (goodIn_of _ (by decide +kernel)) ggX2_safe_X2_refusalOfMove
set_option maxRecDepth 20000 in
theorem ggX2_safe_X0_safeChoice : GoodIn wsX2_safe wsX0_safeChoice := goodIn_r _ [19, 20, 21, 22, 23, 24, 25, 26, 27, 18, 28, 29, 30, 31, 32, 33, 34, 35, 36, 37, 38, 39, 40, 41, 42, 43, 44, 45, 46, 47, 48, 49, 50, 51, 52, 53, 54, 55, 56, 57, 58, 59, 60, 61, 62, 63, 64, 65, 66, 67, 68, 69, 70, 71, 72, 73, 89, 90, 91, 92, 93, 94, 95, 96] (by decide +kernel) (by decide +kernel)
set_option maxRecDepth 20000 in
theorem gX2_safe_X0_safeChoice : GoodIn wsX2_safe (wsV RX2 152 RX0 yX0_safeChoice wsX0_safeChoice) := goodIn_app (goodIn_of _ (by decide +kernel)) ggX2_safe_X0_safeChoice
set_option maxRecDepth 20000 in
theorem ggX2_safe_X2_partOfChoice : GoodIn wsX2_safe wsX2_partOfChoice := goodIn_r _ [76, 77, 78, 18, 79, 80, 72, 73] (by decide +kernel) (by decide +kernel)
set_option maxRecDepth 20000 in
theorem gX2_safe_X2_partOfChoice : GoodIn wsX2_safe (va_wsS RX2 149 yX2_partOfChoice wsX2_partOfChoice) := goodIn_app (goodIn_of _ (by decide +kernel)) ggX2_safe_X2_partOfChoice
theorem dX2_safe_0 : decode cX2_safe 0 = .ok (.aload_n 0, 1) := by decide +kernel
theorem dX2_safe_1 : decode cX2_safe 1 = .ok (.iload_n 1, 1) := by decide +kernel
theorem dX2_safe_2 : decode cX2_safe 2 = .ok (.iload_n 2, 1) := by decide +kernel
theorem dX2_safe_3 : decode cX2_safe 3 = .ok (.invokevirtual 143, 3) := by decide +kernel
theorem dX2_safe_6 : decode cX2_safe 6 = .ok (.istore_n 3, 1) := by decide +kernel
theorem dX2_safe_7 : decode cX2_safe 7 = .ok (.iload_n 3, 1) := by decide +kernel
theorem dX2_safe_8 : decode cX2_safe 8 = .ok (.ifCond .eq 7, 3) := by decide +kernel
theorem dX2_safe_11 : decode cX2_safe 11 = .ok (.iload_n 3, 1) := by decide +kernel
theorem dX2_safe_12 : decode cX2_safe 12 = .ok (.goto 15, 3) := by decide +kernel
theorem dX2_safe_15 : decode cX2_safe 15 = .ok (.aload_n 0, 1) := by decide +kernel
theorem dX2_safe_16 : decode cX2_safe 16 = .ok (.getfield 14, 3) := by decide +kernel
theorem dX2_safe_19 : decode cX2_safe 19 = .ok (.iload_n 1, 1) := by decide +kernel
theorem dX2_safe_20 : decode cX2_safe 20 = .ok (.invokevirtual 152, 3) := by decide +kernel
theorem dX2_safe_23 : decode cX2_safe 23 = .ok (.iload_n 2, 1) := by decide +kernel
theorem dX2_safe_24 : decode cX2_safe 24 = .ok (.invokestatic 149, 3) := by decide +kernel
theorem dX2_safe_27 : decode cX2_safe 27 = .ok (.ireturn, 1) := by decide +kernel
set_option maxRecDepth 20000 in
theorem ggX2_need_X2_isHouse : GoodIn wsX2_need wsX2_isHouse := goodIn_r _ [5] (by decide +kernel) (by decide +kernel)
set_option maxRecDepth 20000 in
theorem gX2_need_X2_isHouse : GoodIn wsX2_need (va_wsS RX2 96 yX2_isHouse wsX2_isHouse) := goodIn_app (goodIn_of _ (by decide +kernel)) ggX2_need_X2_isHouse
set_option maxRecDepth 20000 in
theorem ggX2_need_X2_isCell : GoodIn wsX2_need wsX2_isCell := goodIn_r _ [9, 1, 10, 38, 39, 40, 41, 42, 43, 44, 45, 46, 47, 48, 49, 50, 51, 52, 53] (by decide +kernel) (by decide +kernel)
set_option maxRecDepth 20000 in
theorem gX2_need_X2_isCell : GoodIn wsX2_need (wsV RX2 86 RX2 yX2_isCell wsX2_isCell) := goodIn_app (goodIn_of _ (by decide +kernel)) ggX2_need_X2_isCell
set_option maxRecDepth 20000 in
theorem ggX2_need_X0_fewestSteps : GoodIn wsX2_need wsX0_fewestSteps := goodIn_r _ [15, 16, 17, 18, 19, 20, 21, 22, 23, 24, 25, 14, 26, 27, 28, 29, 30, 31, 32, 33, 34, 35, 36, 37, 46, 47, 48, 49, 50, 51, 52, 53] (by decide +kernel) (by decide +kernel)
set_option maxRecDepth 20000 in
theorem gX2_need_X0_fewestSteps : GoodIn wsX2_need (wsV RX2 155 RX0 yX0_fewestSteps wsX0_fewestSteps) := goodIn_app (goodIn_of _ (by decide +kernel)) ggX2_need_X0_fewestSteps
theorem dX2_need_0 : decode cX2_need 0 = .ok (.iload_n 1, 1) := by decide +kernel
theorem dX2_need_1 : decode cX2_need 1 = .ok (.invokestatic 96, 3) := by decide +kernel
theorem dX2_need_4 : decode cX2_need 4 = .ok (.ifCond .eq 23, 3) := by decide +kernel
theorem dX2_need_7 : decode cX2_need 7 = .ok (.aload_n 0, 1) := by decide +kernel
theorem dX2_need_8 : decode cX2_need 8 = .ok (.iload_n 2, 1) := by decide +kernel
theorem dX2_need_9 : decode cX2_need 9 = .ok (.invokevirtual 86, 3) := by decide +kernel
theorem dX2_need_12 : decode cX2_need 12 = .ok (.ifCond .eq 15, 3) := by decide +kernel
theorem dX2_need_15 : decode cX2_need 15 = .ok (.aload_n 0, 1) := by decide +kernel
theorem dX2_need_16 : decode cX2_need 16 = .ok (.getfield 14, 3) := by decide +kernel
theorem dX2_need_19 : decode cX2_need 19 = .ok (.iload_n 1, 1) := by decide +kernel
theorem dX2_need_20 : decode cX2_need 20 = .ok (.iload_n 2, 1) := by decide +kernel
theorem dX2_need_21 : decode cX2_need 21 = .ok (.invokevirtual 155, 3) := by decide +kernel
theorem dX2_need_24 : decode cX2_need 24 = .ok (.goto 4, 3) := by decide +kernel
theorem dX2_need_27 : decode cX2_need 27 = .ok (.iconst (-1), 1) := by decide +kernel
theorem dX2_need_28 : decode cX2_need 28 = .ok (.ireturn, 1) := by decide +kernel
set_option maxRecDepth 20000 in
theorem ggX2_reading_X2_isCell : GoodIn wsX2_reading wsX2_isCell := goodIn_r _ [8, 9, 10, 14, 15, 16, 17, 18, 19, 20, 21, 22, 23, 24, 25, 26, 27, 28, 29] (by decide +kernel) (by decide +kernel)
set_option maxRecDepth 20000 in
theorem gX2_reading_X2_isCell : GoodIn wsX2_reading (wsV RX2 86 RX2 yX2_isCell wsX2_isCell) := goodIn_app (goodIn_of _ (by decide +kernel)) ggX2_reading_X2_isCell
set_option maxRecDepth 20000 in
theorem ggX2_reading_X2_isHouse : GoodIn wsX2_reading wsX2_isHouse := goodIn_r _ [13] (by decide +kernel) (by decide +kernel)
set_option maxRecDepth 20000 in
theorem gX2_reading_X2_isHouse : GoodIn wsX2_reading (va_wsS RX2 96 yX2_isHouse wsX2_isHouse) := goodIn_app (goodIn_of _ (by decide +kernel)) ggX2_reading_X2_isHouse
theorem dX2_reading_0 : decode cX2_reading 0 = .ok (.aload_n 0, 1) := by decide +kernel
theorem dX2_reading_1 : decode cX2_reading 1 = .ok (.iload_n 1, 1) := by decide +kernel
theorem dX2_reading_2 : decode cX2_reading 2 = .ok (.invokevirtual 86, 3) := by decide +kernel
theorem dX2_reading_5 : decode cX2_reading 5 = .ok (.ifCond .eq 16, 3) := by decide +kernel
theorem dX2_reading_8 : decode cX2_reading 8 = .ok (.iload_n 2, 1) := by decide +kernel
theorem dX2_reading_9 : decode cX2_reading 9 = .ok (.invokestatic 96, 3) := by decide +kernel
theorem dX2_reading_12 : decode cX2_reading 12 = .ok (.ifCond .ne 11, 3) := by decide +kernel
theorem dX2_reading_15 : decode cX2_reading 15 = .ok (.iload_n 2, 1) := by decide +kernel
theorem dX2_reading_16 : decode cX2_reading 16 = .ok (.bipush (-9), 2) := by decide +kernel
theorem dX2_reading_18 : decode cX2_reading 18 = .ok (.if_icmp .eq 5, 3) := by decide +kernel
theorem dX2_reading_21 : decode cX2_reading 21 = .ok (.iconst (-1), 1) := by decide +kernel
theorem dX2_reading_22 : decode cX2_reading 22 = .ok (.ireturn, 1) := by decide +kernel
theorem dX2_reading_23 : decode cX2_reading 23 = .ok (.aload_n 0, 1) := by decide +kernel
theorem dX2_reading_24 : decode cX2_reading 24 = .ok (.getfield 62, 3) := by decide +kernel
theorem dX2_reading_27 : decode cX2_reading 27 = .ok (.bipush 8, 2) := by decide +kernel
theorem dX2_reading_29 : decode cX2_reading 29 = .ok (.if_icmp .lt 6, 3) := by decide +kernel
theorem dX2_reading_32 : decode cX2_reading 32 = .ok (.bipush (-4), 2) := by decide +kernel
theorem dX2_reading_34 : decode cX2_reading 34 = .ok (.ireturn, 1) := by decide +kernel
theorem dX2_reading_35 : decode cX2_reading 35 = .ok (.aload_n 0, 1) := by decide +kernel
theorem dX2_reading_36 : decode cX2_reading 36 = .ok (.getfield 28, 3) := by decide +kernel
theorem dX2_reading_39 : decode cX2_reading 39 = .ok (.aload_n 0, 1) := by decide +kernel
theorem dX2_reading_40 : decode cX2_reading 40 = .ok (.getfield 62, 3) := by decide +kernel
theorem dX2_reading_43 : decode cX2_reading 43 = .ok (.iload_n 1, 1) := by decide +kernel
theorem dX2_reading_44 : decode cX2_reading 44 = .ok (.iastore, 1) := by decide +kernel
theorem dX2_reading_45 : decode cX2_reading 45 = .ok (.aload_n 0, 1) := by decide +kernel
theorem dX2_reading_46 : decode cX2_reading 46 = .ok (.getfield 32, 3) := by decide +kernel
theorem dX2_reading_49 : decode cX2_reading 49 = .ok (.aload_n 0, 1) := by decide +kernel
theorem dX2_reading_50 : decode cX2_reading 50 = .ok (.getfield 62, 3) := by decide +kernel
theorem dX2_reading_53 : decode cX2_reading 53 = .ok (.iload_n 2, 1) := by decide +kernel
theorem dX2_reading_54 : decode cX2_reading 54 = .ok (.iastore, 1) := by decide +kernel
theorem dX2_reading_55 : decode cX2_reading 55 = .ok (.aload_n 0, 1) := by decide +kernel
theorem dX2_reading_56 : decode cX2_reading 56 = .ok (.dup, 1) := by decide +kernel
theorem dX2_reading_57 : decode cX2_reading 57 = .ok (.getfield 62, 3) := by decide +kernel
theorem dX2_reading_60 : decode cX2_reading 60 = .ok (.iconst 1, 1) := by decide +kernel
theorem dX2_reading_61 : decode cX2_reading 61 = .ok (.iadd, 1) := by decide +kernel
theorem dX2_reading_62 : decode cX2_reading 62 = .ok (.putfield 62, 3) := by decide +kernel
theorem dX2_reading_65 : decode cX2_reading 65 = .ok (.aload_n 0, 1) := by decide +kernel
theorem dX2_reading_66 : decode cX2_reading 66 = .ok (.getfield 62, 3) := by decide +kernel
theorem dX2_reading_69 : decode cX2_reading 69 = .ok (.iconst 1, 1) := by decide +kernel
theorem dX2_reading_70 : decode cX2_reading 70 = .ok (.isub, 1) := by decide +kernel
theorem dX2_reading_71 : decode cX2_reading 71 = .ok (.ireturn, 1) := by decide +kernel
theorem dX2_back_0 : decode cX2_back 0 = .ok (.iload_n 1, 1) := by decide +kernel
theorem dX2_back_1 : decode cX2_back 1 = .ok (.ifCond .lt 11, 3) := by decide +kernel
theorem dX2_back_4 : decode cX2_back 4 = .ok (.iload_n 1, 1) := by decide +kernel
theorem dX2_back_5 : decode cX2_back 5 = .ok (.aload_n 0, 1) := by decide +kernel
theorem dX2_back_6 : decode cX2_back 6 = .ok (.getfield 62, 3) := by decide +kernel
theorem dX2_back_9 : decode cX2_back 9 = .ok (.if_icmp .le 6, 3) := by decide +kernel
theorem dX2_back_12 : decode cX2_back 12 = .ok (.bipush (-2), 2) := by decide +kernel
theorem dX2_back_14 : decode cX2_back 14 = .ok (.ireturn, 1) := by decide +kernel
theorem dX2_back_15 : decode cX2_back 15 = .ok (.aload_n 0, 1) := by decide +kernel
theorem dX2_back_16 : decode cX2_back 16 = .ok (.dup, 1) := by decide +kernel
theorem dX2_back_17 : decode cX2_back 17 = .ok (.getfield 62, 3) := by decide +kernel
theorem dX2_back_20 : decode cX2_back 20 = .ok (.iload_n 1, 1) := by decide +kernel
theorem dX2_back_21 : decode cX2_back 21 = .ok (.isub, 1) := by decide +kernel
theorem dX2_back_22 : decode cX2_back 22 = .ok (.putfield 62, 3) := by decide +kernel
theorem dX2_back_25 : decode cX2_back 25 = .ok (.aload_n 0, 1) := by decide +kernel
theorem dX2_back_26 : decode cX2_back 26 = .ok (.getfield 62, 3) := by decide +kernel
theorem dX2_back_29 : decode cX2_back 29 = .ok (.ireturn, 1) := by decide +kernel
set_option maxRecDepth 20000 in
theorem ggX2_strengths_X2_isThing : GoodIn wsX2_strengths wsX2_isThing := goodIn_r _ [7, 1, 8, 39, 40, 41, 42, 43, 44, 45, 46, 47, 48, 49, 50, 51, 52, 53, 54] (by decide +kernel) (by decide +kernel)
set_option maxRecDepth 20000 in
theorem gX2_strengths_X2_isThing : GoodIn wsX2_strengths (wsV RX2 68 RX2 yX2_isThing wsX2_isThing) := goodIn_app (goodIn_of _ (by decide +kernel)) ggX2_strengths_X2_isThing
set_option maxRecDepth 20000 in
theorem ggX2_strengths_X2_valuesThatFit : GoodIn wsX2_strengths wsX2_valuesThatFit := goodIn_r _ [12, 13, 14, 15, 6, 16, 17, 1, 18, 19, 20, 21, 22, 23, 24, 25, 26, 27, 28, 29, 30, 31, 32, 33, 34, 35, 36, 37, 38, 39, 40, 41, 42, 43, 44, 45, 46, 47, 48, 49, 50, 51, 52, 53, 54] (by decide +kernel) (by decide +kernel)
set_option maxRecDepth 20000 in
theorem gX2_strengths_X2_valuesThatFit : GoodIn wsX2_strengths (wsV RX2 158 RX2 yX2_valuesThatFit wsX2_valuesThatFit) := goodIn_app (goodIn_of _ (by decide +kernel)) ggX2_strengths_X2_valuesThatFit
theorem dX2_strengths_0 : decode cX2_strengths 0 = .ok (.aload_n 0, 1) := by decide +kernel
theorem dX2_strengths_1 : decode cX2_strengths 1 = .ok (.iload_n 1, 1) := by decide +kernel
theorem dX2_strengths_2 : decode cX2_strengths 2 = .ok (.invokevirtual 68, 3) := by decide +kernel
theorem dX2_strengths_5 : decode cX2_strengths 5 = .ok (.ifCond .eq 20, 3) := by decide +kernel
theorem dX2_strengths_8 : decode cX2_strengths 8 = .ok (.aload_n 0, 1) := by decide +kernel
theorem dX2_strengths_9 : decode cX2_strengths 9 = .ok (.aload_n 0, 1) := by decide +kernel
theorem dX2_strengths_10 : decode cX2_strengths 10 = .ok (.getfield 14, 3) := by decide +kernel
theorem dX2_strengths_13 : decode cX2_strengths 13 = .ok (.getfield 80, 3) := by decide +kernel
theorem dX2_strengths_16 : decode cX2_strengths 16 = .ok (.iload_n 1, 1) := by decide +kernel
theorem dX2_strengths_17 : decode cX2_strengths 17 = .ok (.bipush 10, 2) := by decide +kernel
theorem dX2_strengths_19 : decode cX2_strengths 19 = .ok (.invokevirtual 158, 3) := by decide +kernel
theorem dX2_strengths_22 : decode cX2_strengths 22 = .ok (.goto 4, 3) := by decide +kernel
theorem dX2_strengths_25 : decode cX2_strengths 25 = .ok (.iconst (-1), 1) := by decide +kernel
theorem dX2_strengths_26 : decode cX2_strengths 26 = .ok (.ireturn, 1) := by decide +kernel
set_option maxRecDepth 20000 in
theorem ggX2_kinds_X2_isThing : GoodIn wsX2_kinds wsX2_isThing := goodIn_r _ [7, 1, 8, 39, 40, 41, 42, 43, 44, 45, 46, 47, 48, 49, 50, 51, 52, 53, 54] (by decide +kernel) (by decide +kernel)
set_option maxRecDepth 20000 in
theorem gX2_kinds_X2_isThing : GoodIn wsX2_kinds (wsV RX2 68 RX2 yX2_isThing wsX2_isThing) := goodIn_app (goodIn_of _ (by decide +kernel)) ggX2_kinds_X2_isThing
set_option maxRecDepth 20000 in
theorem ggX2_kinds_X2_valuesThatFit : GoodIn wsX2_kinds wsX2_valuesThatFit := goodIn_r _ [12, 13, 14, 15, 6, 16, 17, 1, 18, 19, 20, 21, 22, 23, 24, 25, 26, 27, 28, 29, 30, 31, 32, 33, 34, 35, 36, 37, 38, 39, 40, 41, 42, 43, 44, 45, 46, 47, 48, 49, 50, 51, 52, 53, 54] (by decide +kernel) (by decide +kernel)
set_option maxRecDepth 20000 in
theorem gX2_kinds_X2_valuesThatFit : GoodIn wsX2_kinds (wsV RX2 158 RX2 yX2_valuesThatFit wsX2_valuesThatFit) := goodIn_app (goodIn_of _ (by decide +kernel)) ggX2_kinds_X2_valuesThatFit
theorem dX2_kinds_0 : decode cX2_kinds 0 = .ok (.aload_n 0, 1) := by decide +kernel
theorem dX2_kinds_1 : decode cX2_kinds 1 = .ok (.iload_n 1, 1) := by decide +kernel
theorem dX2_kinds_2 : decode cX2_kinds 2 = .ok (.invokevirtual 68, 3) := by decide +kernel
theorem dX2_kinds_5 : decode cX2_kinds 5 = .ok (.ifCond .eq 19, 3) := by decide +kernel
theorem dX2_kinds_8 : decode cX2_kinds 8 = .ok (.aload_n 0, 1) := by decide +kernel
theorem dX2_kinds_9 : decode cX2_kinds 9 = .ok (.aload_n 0, 1) := by decide +kernel
theorem dX2_kinds_10 : decode cX2_kinds 10 = .ok (.getfield 14, 3) := by decide +kernel
theorem dX2_kinds_13 : decode cX2_kinds 13 = .ok (.getfield 71, 3) := by decide +kernel
theorem dX2_kinds_16 : decode cX2_kinds 16 = .ok (.iload_n 1, 1) := by decide +kernel
theorem dX2_kinds_17 : decode cX2_kinds 17 = .ok (.iconst 3, 1) := by decide +kernel
theorem dX2_kinds_18 : decode cX2_kinds 18 = .ok (.invokevirtual 158, 3) := by decide +kernel
theorem dX2_kinds_21 : decode cX2_kinds 21 = .ok (.goto 4, 3) := by decide +kernel
theorem dX2_kinds_24 : decode cX2_kinds 24 = .ok (.iconst (-1), 1) := by decide +kernel
theorem dX2_kinds_25 : decode cX2_kinds 25 = .ok (.ireturn, 1) := by decide +kernel
set_option maxRecDepth 20000 in
theorem ggX2_spots_X2_isThing : GoodIn wsX2_spots wsX2_isThing := goodIn_r _ [8, 1, 9, 40, 41, 42, 43, 44, 45, 46, 47, 48, 49, 50, 51, 52, 53, 54, 55] (by decide +kernel) (by decide +kernel)
set_option maxRecDepth 20000 in
theorem gX2_spots_X2_isThing : GoodIn wsX2_spots (wsV RX2 68 RX2 yX2_isThing wsX2_isThing) := goodIn_app (goodIn_of _ (by decide +kernel)) ggX2_spots_X2_isThing
set_option maxRecDepth 20000 in
theorem ggX2_spots_X2_valuesThatFit : GoodIn wsX2_spots wsX2_valuesThatFit := goodIn_r _ [13, 14, 15, 16, 7, 17, 18, 1, 19, 20, 21, 22, 23, 24, 25, 26, 27, 28, 29, 30, 31, 32, 33, 34, 35, 36, 37, 38, 39, 40, 41, 42, 43, 44, 45, 46, 47, 48, 49, 50, 51, 52, 53, 54, 55] (by decide +kernel) (by decide +kernel)
set_option maxRecDepth 20000 in
theorem gX2_spots_X2_valuesThatFit : GoodIn wsX2_spots (wsV RX2 158 RX2 yX2_valuesThatFit wsX2_valuesThatFit) := goodIn_app (goodIn_of _ (by decide +kernel)) ggX2_spots_X2_valuesThatFit
theorem dX2_spots_0 : decode cX2_spots 0 = .ok (.aload_n 0, 1) := by decide +kernel
theorem dX2_spots_1 : decode cX2_spots 1 = .ok (.iload_n 1, 1) := by decide +kernel
theorem dX2_spots_2 : decode cX2_spots 2 = .ok (.invokevirtual 68, 3) := by decide +kernel
theorem dX2_spots_5 : decode cX2_spots 5 = .ok (.ifCond .eq 25, 3) := by decide +kernel
theorem dX2_spots_8 : decode cX2_spots 8 = .ok (.aload_n 0, 1) := by decide +kernel
theorem dX2_spots_9 : decode cX2_spots 9 = .ok (.aload_n 0, 1) := by decide +kernel
theorem dX2_spots_10 : decode cX2_spots 10 = .ok (.getfield 14, 3) := by decide +kernel
theorem dX2_spots_13 : decode cX2_spots 13 = .ok (.getfield 161, 3) := by decide +kernel
theorem dX2_spots_16 : decode cX2_spots 16 = .ok (.iload_n 1, 1) := by decide +kernel
theorem dX2_spots_17 : decode cX2_spots 17 = .ok (.aload_n 0, 1) := by decide +kernel
theorem dX2_spots_18 : decode cX2_spots 18 = .ok (.getfield 14, 3) := by decide +kernel
theorem dX2_spots_21 : decode cX2_spots 21 = .ok (.getfield 164, 3) := by decide +kernel
theorem dX2_spots_24 : decode cX2_spots 24 = .ok (.invokevirtual 158, 3) := by decide +kernel
theorem dX2_spots_27 : decode cX2_spots 27 = .ok (.goto 4, 3) := by decide +kernel
theorem dX2_spots_30 : decode cX2_spots 30 = .ok (.iconst (-1), 1) := by decide +kernel
theorem dX2_spots_31 : decode cX2_spots 31 = .ok (.ireturn, 1) := by decide +kernel
set_option maxRecDepth 20000 in
theorem ggX2_odds_X2_isHouse : GoodIn wsX2_odds wsX2_isHouse := goodIn_r _ [7] (by decide +kernel) (by decide +kernel)
set_option maxRecDepth 20000 in
theorem gX2_odds_X2_isHouse : GoodIn wsX2_odds (va_wsS RX2 96 yX2_isHouse wsX2_isHouse) := goodIn_app (goodIn_of _ (by decide +kernel)) ggX2_odds_X2_isHouse
set_option maxRecDepth 20000 in
theorem ggX2_odds_X2_hasTable : GoodIn wsX2_odds wsX2_hasTable := goodIn_r _ [11, 2, 3, 41, 42, 43, 44, 45, 46, 47, 48, 49, 50, 51, 52, 53, 54, 55, 56] (by decide +kernel) (by decide +kernel)
set_option maxRecDepth 20000 in
theorem gX2_odds_X2_hasTable : GoodIn wsX2_odds (wsV RX2 106 RX2 yX2_hasTable wsX2_hasTable) := goodIn_app (goodIn_of _ (by decide +kernel)) ggX2_odds_X2_hasTable
set_option maxRecDepth 20000 in
theorem ggX2_odds_X0_countSetsWithLead : GoodIn wsX2_odds wsX0_countSetsWithLead := goodIn_r _ [16, 17, 18, 19, 20, 21, 15, 22, 23, 24, 25, 26, 27, 28, 29, 30, 31, 32, 33, 34, 35, 36, 37, 38, 39, 40, 49, 50, 51, 52, 53, 54, 55, 56] (by decide +kernel) (by decide +kernel)
set_option maxRecDepth 20000 in
theorem gX2_odds_X0_countSetsWithLead : GoodIn wsX2_odds (wsV RX2 169 RX0 yX0_countSetsWithLead wsX0_countSetsWithLead) := goodIn_app (goodIn_of _ (by decide +kernel)) ggX2_odds_X0_countSetsWithLead
theorem dX2_odds_0 : decode cX2_odds 0 = .ok (.iload_n 1, 1) := by decide +kernel
theorem dX2_odds_1 : decode cX2_odds 1 = .ok (.invokestatic 96, 3) := by decide +kernel
theorem dX2_odds_4 : decode cX2_odds 4 = .ok (.ifCond .eq 19, 3) := by decide +kernel
theorem dX2_odds_7 : decode cX2_odds 7 = .ok (.iload_n 2, 1) := by decide +kernel
theorem dX2_odds_8 : decode cX2_odds 8 = .ok (.ifCond .lt 15, 3) := by decide +kernel
theorem dX2_odds_11 : decode cX2_odds 11 = .ok (.iload_n 2, 1) := by decide +kernel
theorem dX2_odds_12 : decode cX2_odds 12 = .ok (.iconst 1, 1) := by decide +kernel
theorem dX2_odds_13 : decode cX2_odds 13 = .ok (.if_icmp .gt 10, 3) := by decide +kernel
theorem dX2_odds_16 : decode cX2_odds 16 = .ok (.aload_n 0, 1) := by decide +kernel
theorem dX2_odds_17 : decode cX2_odds 17 = .ok (.invokevirtual 106, 3) := by decide +kernel
theorem dX2_odds_20 : decode cX2_odds 20 = .ok (.ifCond .ne 7, 3) := by decide +kernel
theorem dX2_odds_23 : decode cX2_odds 23 = .ok (.ldc2_w 167, 3) := by decide +kernel
theorem dX2_odds_26 : decode cX2_odds 26 = .ok (.lreturn, 1) := by decide +kernel
theorem dX2_odds_27 : decode cX2_odds 27 = .ok (.aload_n 0, 1) := by decide +kernel
theorem dX2_odds_28 : decode cX2_odds 28 = .ok (.getfield 14, 3) := by decide +kernel
theorem dX2_odds_31 : decode cX2_odds 31 = .ok (.iload_n 1, 1) := by decide +kernel
theorem dX2_odds_32 : decode cX2_odds 32 = .ok (.invokevirtual 169, 3) := by decide +kernel
theorem dX2_odds_35 : decode cX2_odds 35 = .ok (.istore_n 3, 1) := by decide +kernel
theorem dX2_odds_36 : decode cX2_odds 36 = .ok (.iconst 1, 1) := by decide +kernel
theorem dX2_odds_37 : decode cX2_odds 37 = .ok (.aload_n 0, 1) := by decide +kernel
theorem dX2_odds_38 : decode cX2_odds 38 = .ok (.getfield 14, 3) := by decide +kernel
theorem dX2_odds_41 : decode cX2_odds 41 = .ok (.getfield 65, 3) := by decide +kernel
theorem dX2_odds_44 : decode cX2_odds 44 = .ok (.ishl, 1) := by decide +kernel
theorem dX2_odds_45 : decode cX2_odds 45 = .ok (.istore 4, 2) := by decide +kernel
theorem dX2_odds_47 : decode cX2_odds 47 = .ok (.iconst 0, 1) := by decide +kernel
theorem dX2_odds_48 : decode cX2_odds 48 = .ok (.istore 5, 2) := by decide +kernel
theorem dX2_odds_50 : decode cX2_odds 50 = .ok (.iload 5, 2) := by decide +kernel
theorem dX2_odds_52 : decode cX2_odds 52 = .ok (.aload_n 0, 1) := by decide +kernel
theorem dX2_odds_53 : decode cX2_odds 53 = .ok (.getfield 14, 3) := by decide +kernel
theorem dX2_odds_56 : decode cX2_odds 56 = .ok (.getfield 65, 3) := by decide +kernel
theorem dX2_odds_59 : decode cX2_odds 59 = .ok (.if_icmp .ge 25, 3) := by decide +kernel
theorem dX2_odds_62 : decode cX2_odds 62 = .ok (.iload_n 3, 1) := by decide +kernel
theorem dX2_odds_63 : decode cX2_odds 63 = .ok (.iconst 2, 1) := by decide +kernel
theorem dX2_odds_64 : decode cX2_odds 64 = .ok (.irem, 1) := by decide +kernel
theorem dX2_odds_65 : decode cX2_odds 65 = .ok (.ifCond .ne 19, 3) := by decide +kernel
theorem dX2_odds_68 : decode cX2_odds 68 = .ok (.iload_n 3, 1) := by decide +kernel
theorem dX2_odds_69 : decode cX2_odds 69 = .ok (.iconst 2, 1) := by decide +kernel
theorem dX2_odds_70 : decode cX2_odds 70 = .ok (.idiv, 1) := by decide +kernel
theorem dX2_odds_71 : decode cX2_odds 71 = .ok (.istore_n 3, 1) := by decide +kernel
theorem dX2_odds_72 : decode cX2_odds 72 = .ok (.iload 4, 2) := by decide +kernel
theorem dX2_odds_74 : decode cX2_odds 74 = .ok (.iconst 2, 1) := by decide +kernel
theorem dX2_odds_75 : decode cX2_odds 75 = .ok (.idiv, 1) := by decide +kernel
theorem dX2_odds_76 : decode cX2_odds 76 = .ok (.istore 4, 2) := by decide +kernel
theorem dX2_odds_78 : decode cX2_odds 78 = .ok (.iinc 5 1, 3) := by decide +kernel
theorem dX2_odds_81 : decode cX2_odds 81 = .ok (.goto (-31), 3) := by decide +kernel
theorem dX2_odds_84 : decode cX2_odds 84 = .ok (.iload_n 2, 1) := by decide +kernel
theorem dX2_odds_85 : decode cX2_odds 85 = .ok (.ifCond .ne 8, 3) := by decide +kernel
theorem dX2_odds_88 : decode cX2_odds 88 = .ok (.iload_n 3, 1) := by decide +kernel
theorem dX2_odds_89 : decode cX2_odds 89 = .ok (.i2l, 1) := by decide +kernel
theorem dX2_odds_90 : decode cX2_odds 90 = .ok (.goto 6, 3) := by decide +kernel
theorem dX2_odds_93 : decode cX2_odds 93 = .ok (.iload 4, 2) := by decide +kernel
theorem dX2_odds_95 : decode cX2_odds 95 = .ok (.i2l, 1) := by decide +kernel
theorem dX2_odds_96 : decode cX2_odds 96 = .ok (.lreturn, 1) := by decide +kernel
set_option maxRecDepth 20000 in
theorem ggX2_sheet_X2_isSheet : GoodIn wsX2_sheet wsX2_isSheet := goodIn_r _ [6] (by decide +kernel) (by decide +kernel)
set_option maxRecDepth 20000 in
theorem gX2_sheet_X2_isSheet : GoodIn wsX2_sheet (va_wsS RX2 39 yX2_isSheet wsX2_isSheet) := goodIn_app (goodIn_of _ (by decide +kernel)) ggX2_sheet_X2_isSheet
set_option maxRecDepth 20000 in
theorem ggX2_sheet_X2_isLane : GoodIn wsX2_sheet wsX2_isLane := goodIn_r _ [9] (by decide +kernel) (by decide +kernel)
set_option maxRecDepth 20000 in
theorem gX2_sheet_X2_isLane : GoodIn wsX2_sheet (va_wsS RX2 43 yX2_isLane wsX2_isLane) := goodIn_app (goodIn_of _ (by decide +kernel)) ggX2_sheet_X2_isLane
set_option maxRecDepth 20000 in
theorem ggX2_sheet_X2_faulted : GoodIn wsX2_sheet wsX2_faulted := goodIn_r _ [13, 1, 26, 27, 28, 29, 30, 31, 32, 33] (by decide +kernel) (by decide +kernel)
set_option maxRecDepth 20000 in
theorem gX2_sheet_X2_faulted : GoodIn wsX2_sheet (wsV RX2 50 RX2 yX2_faulted wsX2_faulted) := goodIn_app (goodIn_of _ (by decide +kernel)) ggX2_sheet_X2_faulted
set_option maxRecDepth 20000 in
theorem ggX2_sheet_X1_renew : GoodIn wsX2_sheet wsX1_renew := goodIn_r _ [18, 19, 20, 21, 22, 23, 24, 25, 34, 35, 36] (by decide +kernel) (by decide +kernel)
set_option maxRecDepth 20000 in
theorem gX2_sheet_X1_renew : GoodIn wsX2_sheet (wsV RX2 172 RX1 yX1_renew wsX1_renew) := goodIn_app (goodIn_of _ (by decide +kernel)) ggX2_sheet_X1_renew
theorem dX2_sheet_0 : decode cX2_sheet 0 = .ok (.aload_n 0, 1) := by decide +kernel
theorem dX2_sheet_1 : decode cX2_sheet 1 = .ok (.iconst 0, 1) := by decide +kernel
theorem dX2_sheet_2 : decode cX2_sheet 2 = .ok (.putfield 35, 3) := by decide +kernel
theorem dX2_sheet_5 : decode cX2_sheet 5 = .ok (.iload_n 1, 1) := by decide +kernel
theorem dX2_sheet_6 : decode cX2_sheet 6 = .ok (.invokestatic 39, 3) := by decide +kernel
theorem dX2_sheet_9 : decode cX2_sheet 9 = .ok (.ifCond .ne 5, 3) := by decide +kernel
theorem dX2_sheet_12 : decode cX2_sheet 12 = .ok (.iconst (-1), 1) := by decide +kernel
theorem dX2_sheet_13 : decode cX2_sheet 13 = .ok (.ireturn, 1) := by decide +kernel
theorem dX2_sheet_14 : decode cX2_sheet 14 = .ok (.iload_n 2, 1) := by decide +kernel
theorem dX2_sheet_15 : decode cX2_sheet 15 = .ok (.invokestatic 43, 3) := by decide +kernel
theorem dX2_sheet_18 : decode cX2_sheet 18 = .ok (.ifCond .eq 9, 3) := by decide +kernel
theorem dX2_sheet_21 : decode cX2_sheet 21 = .ok (.iload_n 3, 1) := by decide +kernel
theorem dX2_sheet_22 : decode cX2_sheet 22 = .ok (.bipush 60, 2) := by decide +kernel
theorem dX2_sheet_24 : decode cX2_sheet 24 = .ok (.if_icmp .le 6, 3) := by decide +kernel
theorem dX2_sheet_27 : decode cX2_sheet 27 = .ok (.bipush (-2), 2) := by decide +kernel
theorem dX2_sheet_29 : decode cX2_sheet 29 = .ok (.ireturn, 1) := by decide +kernel
theorem dX2_sheet_30 : decode cX2_sheet 30 = .ok (.iload_n 3, 1) := by decide +kernel
theorem dX2_sheet_31 : decode cX2_sheet 31 = .ok (.ifCond .ge 9, 3) := by decide +kernel
theorem dX2_sheet_34 : decode cX2_sheet 34 = .ok (.aload_n 0, 1) := by decide +kernel
theorem dX2_sheet_35 : decode cX2_sheet 35 = .ok (.iconst 4, 1) := by decide +kernel
theorem dX2_sheet_36 : decode cX2_sheet 36 = .ok (.invokevirtual 50, 3) := by decide +kernel
theorem dX2_sheet_39 : decode cX2_sheet 39 = .ok (.ireturn, 1) := by decide +kernel
theorem dX2_sheet_40 : decode cX2_sheet 40 = .ok (.aload_n 0, 1) := by decide +kernel
theorem dX2_sheet_41 : decode cX2_sheet 41 = .ok (.getfield 23, 3) := by decide +kernel
theorem dX2_sheet_44 : decode cX2_sheet 44 = .ok (.iload_n 1, 1) := by decide +kernel
theorem dX2_sheet_45 : decode cX2_sheet 45 = .ok (.aaload, 1) := by decide +kernel
theorem dX2_sheet_46 : decode cX2_sheet 46 = .ok (.iload_n 2, 1) := by decide +kernel
theorem dX2_sheet_47 : decode cX2_sheet 47 = .ok (.iload_n 3, 1) := by decide +kernel
theorem dX2_sheet_48 : decode cX2_sheet 48 = .ok (.invokevirtual 172, 3) := by decide +kernel
theorem dX2_sheet_51 : decode cX2_sheet 51 = .ok (.iconst 1, 1) := by decide +kernel
theorem dX2_sheet_52 : decode cX2_sheet 52 = .ok (.ireturn, 1) := by decide +kernel
set_option maxRecDepth 20000 in
theorem ggX2_lose_X2_isSheet : GoodIn wsX2_lose wsX2_isSheet := goodIn_r _ [5] (by decide +kernel) (by decide +kernel)
set_option maxRecDepth 20000 in
theorem gX2_lose_X2_isSheet : GoodIn wsX2_lose (va_wsS RX2 39 yX2_isSheet wsX2_isSheet) := goodIn_app (goodIn_of _ (by decide +kernel)) ggX2_lose_X2_isSheet
set_option maxRecDepth 20000 in
theorem ggX2_lose_X1_isNothing : GoodIn wsX2_lose wsX1_isNothing := goodIn_r _ [10, 11, 25, 26, 27] (by decide +kernel) (by decide +kernel)
set_option maxRecDepth 20000 in
theorem gX2_lose_X1_isNothing : GoodIn wsX2_lose (wsV RX2 175 RX1 yX1_isNothing wsX1_isNothing) := goodIn_app (goodIn_of _ (by decide +kernel)) ggX2_lose_X1_isNothing
set_option maxRecDepth 20000 in
theorem ggX2_lose_X1_clear : GoodIn wsX2_lose wsX1_clear := goodIn_r _ [15, 11, 16, 25, 26, 27] (by decide +kernel) (by decide +kernel)
set_option maxRecDepth 20000 in
theorem gX2_lose_X1_clear : GoodIn wsX2_lose (wsV RX2 178 RX1 yX1_clear wsX1_clear) := goodIn_app (goodIn_of _ (by decide +kernel)) ggX2_lose_X1_clear
theorem dX2_lose_0 : decode cX2_lose 0 = .ok (.iload_n 1, 1) := by decide +kernel
theorem dX2_lose_1 : decode cX2_lose 1 = .ok (.invokestatic 39, 3) := by decide +kernel
theorem dX2_lose_4 : decode cX2_lose 4 = .ok (.ifCond .ne 5, 3) := by decide +kernel
theorem dX2_lose_7 : decode cX2_lose 7 = .ok (.iconst (-1), 1) := by decide +kernel
theorem dX2_lose_8 : decode cX2_lose 8 = .ok (.ireturn, 1) := by decide +kernel
theorem dX2_lose_9 : decode cX2_lose 9 = .ok (.aload_n 0, 1) := by decide +kernel
theorem dX2_lose_10 : decode cX2_lose 10 = .ok (.getfield 23, 3) := by decide +kernel
theorem dX2_lose_13 : decode cX2_lose 13 = .ok (.iload_n 1, 1) := by decide +kernel
theorem dX2_lose_14 : decode cX2_lose 14 = .ok (.aaload, 1) := by decide +kernel
theorem dX2_lose_15 : decode cX2_lose 15 = .ok (.invokevirtual 175, 3) := by decide +kernel
theorem dX2_lose_18 : decode cX2_lose 18 = .ok (.ifCond .eq 7, 3) := by decide +kernel
theorem dX2_lose_21 : decode cX2_lose 21 = .ok (.iconst 0, 1) := by decide +kernel
theorem dX2_lose_22 : decode cX2_lose 22 = .ok (.goto 4, 3) := by decide +kernel
theorem dX2_lose_25 : decode cX2_lose 25 = .ok (.iconst 1, 1) := by decide +kernel
theorem dX2_lose_26 : decode cX2_lose 26 = .ok (.istore_n 2, 1) := by decide +kernel
theorem dX2_lose_27 : decode cX2_lose 27 = .ok (.aload_n 0, 1) := by decide +kernel
theorem dX2_lose_28 : decode cX2_lose 28 = .ok (.getfield 23, 3) := by decide +kernel
theorem dX2_lose_31 : decode cX2_lose 31 = .ok (.iload_n 1, 1) := by decide +kernel
theorem dX2_lose_32 : decode cX2_lose 32 = .ok (.aaload, 1) := by decide +kernel
theorem dX2_lose_33 : decode cX2_lose 33 = .ok (.invokevirtual 178, 3) := by decide +kernel
theorem dX2_lose_36 : decode cX2_lose 36 = .ok (.iload_n 2, 1) := by decide +kernel
theorem dX2_lose_37 : decode cX2_lose 37 = .ok (.ireturn, 1) := by decide +kernel
set_option maxRecDepth 20000 in
theorem ggX2_put_X2_isSheet : GoodIn wsX2_put wsX2_isSheet := goodIn_r _ [7] (by decide +kernel) (by decide +kernel)
set_option maxRecDepth 20000 in
theorem gX2_put_X2_isSheet : GoodIn wsX2_put (va_wsS RX2 39 yX2_isSheet wsX2_isSheet) := goodIn_app (goodIn_of _ (by decide +kernel)) ggX2_put_X2_isSheet
set_option maxRecDepth 20000 in
theorem ggX2_put_X1_faultOfCells : GoodIn wsX2_put wsX1_faultOfCells := goodIn_r _ [12, 13, 14, 15, 16, 11, 17, 18, 19, 20, 21, 22, 44, 45, 46] (by decide +kernel) (by decide +kernel)
set_option maxRecDepth 20000 in
theorem gX2_put_X1_faultOfCells : GoodIn wsX2_put (wsV RX2 46 RX1 yX1_faultOfCells wsX1_faultOfCells) := goodIn_app (goodIn_of _ (by decide +kernel)) ggX2_put_X1_faultOfCells
set_option maxRecDepth 20000 in
theorem ggX2_put_X2_faulted : GoodIn wsX2_put wsX2_faulted := goodIn_r _ [26, 1, 36, 37, 38, 39, 40, 41, 42, 43] (by decide +kernel) (by decide +kernel)
set_option maxRecDepth 20000 in
theorem gX2_put_X2_faulted : GoodIn wsX2_put (wsV RX2 50 RX2 yX2_faulted wsX2_faulted) := goodIn_app (goodIn_of _ (by decide +kernel)) ggX2_put_X2_faulted
set_option maxRecDepth 20000 in
theorem ggX2_put_X1_setAt : GoodIn wsX2_put wsX1_setAt := goodIn_r _ [30, 22, 31, 32, 33, 34, 11, 35, 13, 44, 45, 46] (by decide +kernel) (by decide +kernel)
set_option maxRecDepth 20000 in
theorem gX2_put_X1_setAt : GoodIn wsX2_put (wsV RX2 184 RX1 yX1_setAt wsX1_setAt) := goodIn_app (goodIn_of _ (by decide +kernel)) ggX2_put_X1_setAt
theorem dX2_put_0 : decode cX2_put 0 = .ok (.aload_n 0, 1) := by decide +kernel
theorem dX2_put_1 : decode cX2_put 1 = .ok (.iconst 0, 1) := by decide +kernel
theorem dX2_put_2 : decode cX2_put 2 = .ok (.putfield 35, 3) := by decide +kernel
theorem dX2_put_5 : decode cX2_put 5 = .ok (.iload_n 1, 1) := by decide +kernel
theorem dX2_put_6 : decode cX2_put 6 = .ok (.invokestatic 39, 3) := by decide +kernel
theorem dX2_put_9 : decode cX2_put 9 = .ok (.ifCond .ne 5, 3) := by decide +kernel
theorem dX2_put_12 : decode cX2_put 12 = .ok (.iconst (-1), 1) := by decide +kernel
theorem dX2_put_13 : decode cX2_put 13 = .ok (.ireturn, 1) := by decide +kernel
theorem dX2_put_14 : decode cX2_put 14 = .ok (.aload_n 0, 1) := by decide +kernel
theorem dX2_put_15 : decode cX2_put 15 = .ok (.getfield 23, 3) := by decide +kernel
theorem dX2_put_18 : decode cX2_put 18 = .ok (.iload_n 1, 1) := by decide +kernel
theorem dX2_put_19 : decode cX2_put 19 = .ok (.aaload, 1) := by decide +kernel
theorem dX2_put_20 : decode cX2_put 20 = .ok (.astore 4, 2) := by decide +kernel
theorem dX2_put_22 : decode cX2_put 22 = .ok (.aload 4, 2) := by decide +kernel
theorem dX2_put_24 : decode cX2_put 24 = .ok (.aload 4, 2) := by decide +kernel
theorem dX2_put_26 : decode cX2_put 26 = .ok (.getfield 181, 3) := by decide +kernel
theorem dX2_put_29 : decode cX2_put 29 = .ok (.iload_n 2, 1) := by decide +kernel
theorem dX2_put_30 : decode cX2_put 30 = .ok (.iconst 1, 1) := by decide +kernel
theorem dX2_put_31 : decode cX2_put 31 = .ok (.invokevirtual 46, 3) := by decide +kernel
theorem dX2_put_34 : decode cX2_put 34 = .ok (.istore 5, 2) := by decide +kernel
theorem dX2_put_36 : decode cX2_put 36 = .ok (.iload 5, 2) := by decide +kernel
theorem dX2_put_38 : decode cX2_put 38 = .ok (.ifCond .eq 10, 3) := by decide +kernel
theorem dX2_put_41 : decode cX2_put 41 = .ok (.aload_n 0, 1) := by decide +kernel
theorem dX2_put_42 : decode cX2_put 42 = .ok (.iload 5, 2) := by decide +kernel
theorem dX2_put_44 : decode cX2_put 44 = .ok (.invokevirtual 50, 3) := by decide +kernel
theorem dX2_put_47 : decode cX2_put 47 = .ok (.ireturn, 1) := by decide +kernel
theorem dX2_put_48 : decode cX2_put 48 = .ok (.aload 4, 2) := by decide +kernel
theorem dX2_put_50 : decode cX2_put 50 = .ok (.iload_n 2, 1) := by decide +kernel
theorem dX2_put_51 : decode cX2_put 51 = .ok (.iload_n 3, 1) := by decide +kernel
theorem dX2_put_52 : decode cX2_put 52 = .ok (.invokevirtual 184, 3) := by decide +kernel
theorem dX2_put_55 : decode cX2_put 55 = .ok (.iconst 1, 1) := by decide +kernel
theorem dX2_put_56 : decode cX2_put 56 = .ok (.ireturn, 1) := by decide +kernel
set_option maxRecDepth 20000 in
theorem ggX2_cell_X2_isSheet : GoodIn wsX2_cell wsX2_isSheet := goodIn_r _ [7] (by decide +kernel) (by decide +kernel)
set_option maxRecDepth 20000 in
theorem gX2_cell_X2_isSheet : GoodIn wsX2_cell (va_wsS RX2 39 yX2_isSheet wsX2_isSheet) := goodIn_app (goodIn_of _ (by decide +kernel)) ggX2_cell_X2_isSheet
set_option maxRecDepth 20000 in
theorem ggX2_cell_X2_isLane : GoodIn wsX2_cell wsX2_isLane := goodIn_r _ [10] (by decide +kernel) (by decide +kernel)
set_option maxRecDepth 20000 in
theorem gX2_cell_X2_isLane : GoodIn wsX2_cell (va_wsS RX2 43 yX2_isLane wsX2_isLane) := goodIn_app (goodIn_of _ (by decide +kernel)) ggX2_cell_X2_isLane
set_option maxRecDepth 20000 in
theorem ggX2_cell_X1_faultOfCells : GoodIn wsX2_cell wsX1_faultOfCells := goodIn_r _ [15, 16, 17, 18, 19, 14, 20, 21, 22, 23, 24, 25, 39, 40, 41] (by decide +kernel) (by decide +kernel)
set_option maxRecDepth 20000 in
theorem gX2_cell_X1_faultOfCells : GoodIn wsX2_cell (wsV RX2 46 RX1 yX1_faultOfCells wsX1_faultOfCells) := goodIn_app (goodIn_of _ (by decide +kernel)) ggX2_cell_X1_faultOfCells
set_option maxRecDepth 20000 in
theorem ggX2_cell_X1_at : GoodIn wsX2_cell wsX1_at := goodIn_r _ [29, 25, 30, 39, 40, 41] (by decide +kernel) (by decide +kernel)
set_option maxRecDepth 20000 in
theorem gX2_cell_X1_at : GoodIn wsX2_cell (wsV RX2 187 RX1 yX1_at wsX1_at) := goodIn_app (goodIn_of _ (by decide +kernel)) ggX2_cell_X1_at
theorem dX2_cell_0 : decode cX2_cell 0 = .ok (.aload_n 0, 1) := by decide +kernel
theorem dX2_cell_1 : decode cX2_cell 1 = .ok (.iconst 0, 1) := by decide +kernel
theorem dX2_cell_2 : decode cX2_cell 2 = .ok (.putfield 35, 3) := by decide +kernel
theorem dX2_cell_5 : decode cX2_cell 5 = .ok (.iload_n 1, 1) := by decide +kernel
theorem dX2_cell_6 : decode cX2_cell 6 = .ok (.invokestatic 39, 3) := by decide +kernel
theorem dX2_cell_9 : decode cX2_cell 9 = .ok (.ifCond .eq 10, 3) := by decide +kernel
theorem dX2_cell_12 : decode cX2_cell 12 = .ok (.iload_n 3, 1) := by decide +kernel
theorem dX2_cell_13 : decode cX2_cell 13 = .ok (.invokestatic 43, 3) := by decide +kernel
theorem dX2_cell_16 : decode cX2_cell 16 = .ok (.ifCond .ne 7, 3) := by decide +kernel
theorem dX2_cell_19 : decode cX2_cell 19 = .ok (.ldc2_w 167, 3) := by decide +kernel
theorem dX2_cell_22 : decode cX2_cell 22 = .ok (.lreturn, 1) := by decide +kernel
theorem dX2_cell_23 : decode cX2_cell 23 = .ok (.aload_n 0, 1) := by decide +kernel
theorem dX2_cell_24 : decode cX2_cell 24 = .ok (.aload_n 0, 1) := by decide +kernel
theorem dX2_cell_25 : decode cX2_cell 25 = .ok (.getfield 23, 3) := by decide +kernel
theorem dX2_cell_28 : decode cX2_cell 28 = .ok (.iload_n 1, 1) := by decide +kernel
theorem dX2_cell_29 : decode cX2_cell 29 = .ok (.aaload, 1) := by decide +kernel
theorem dX2_cell_30 : decode cX2_cell 30 = .ok (.iload_n 3, 1) := by decide +kernel
theorem dX2_cell_31 : decode cX2_cell 31 = .ok (.iload_n 2, 1) := by decide +kernel
theorem dX2_cell_32 : decode cX2_cell 32 = .ok (.iconst 1, 1) := by decide +kernel
theorem dX2_cell_33 : decode cX2_cell 33 = .ok (.invokevirtual 46, 3) := by decide +kernel
theorem dX2_cell_36 : decode cX2_cell 36 = .ok (.putfield 35, 3) := by decide +kernel
theorem dX2_cell_39 : decode cX2_cell 39 = .ok (.aload_n 0, 1) := by decide +kernel
theorem dX2_cell_40 : decode cX2_cell 40 = .ok (.getfield 35, 3) := by decide +kernel
theorem dX2_cell_43 : decode cX2_cell 43 = .ok (.ifCond .ne 17, 3) := by decide +kernel
theorem dX2_cell_46 : decode cX2_cell 46 = .ok (.aload_n 0, 1) := by decide +kernel
theorem dX2_cell_47 : decode cX2_cell 47 = .ok (.getfield 23, 3) := by decide +kernel
theorem dX2_cell_50 : decode cX2_cell 50 = .ok (.iload_n 1, 1) := by decide +kernel
theorem dX2_cell_51 : decode cX2_cell 51 = .ok (.aaload, 1) := by decide +kernel
theorem dX2_cell_52 : decode cX2_cell 52 = .ok (.iload_n 2, 1) := by decide +kernel
theorem dX2_cell_53 : decode cX2_cell 53 = .ok (.invokevirtual 187, 3) := by decide +kernel
theorem dX2_cell_56 : decode cX2_cell 56 = .ok (.i2l, 1) := by decide +kernel
theorem dX2_cell_57 : decode cX2_cell 57 = .ok (.goto 6, 3) := by decide +kernel
theorem dX2_cell_60 : decode cX2_cell 60 = .ok (.ldc2_w 167, 3) := by decide +kernel
theorem dX2_cell_63 : decode cX2_cell 63 = .ok (.lreturn, 1) := by decide +kernel
set_option maxRecDepth 20000 in
theorem ggX2_copy_X2_isSheet : GoodIn wsX2_copy wsX2_isSheet := goodIn_r _ [12] (by decide +kernel) (by decide +kernel)
set_option maxRecDepth 20000 in
theorem gX2_copy_X2_isSheet : GoodIn wsX2_copy (va_wsS RX2 39 yX2_isSheet wsX2_isSheet) := goodIn_app (goodIn_of _ (by decide +kernel)) ggX2_copy_X2_isSheet
set_option maxRecDepth 20000 in
theorem ggX2_copy_X1_isNothing : GoodIn wsX2_copy wsX1_isNothing := goodIn_r _ [17, 18, 36, 37, 38] (by decide +kernel) (by decide +kernel)
set_option maxRecDepth 20000 in
theorem gX2_copy_X1_isNothing : GoodIn wsX2_copy (wsV RX2 175 RX1 yX1_isNothing wsX1_isNothing) := goodIn_app (goodIn_of _ (by decide +kernel)) ggX2_copy_X1_isNothing
set_option maxRecDepth 20000 in
theorem ggX2_copy_X2_faulted : GoodIn wsX2_copy wsX2_faulted := goodIn_r _ [22, 1, 28, 29, 30, 31, 32, 33, 34, 35] (by decide +kernel) (by decide +kernel)
set_option maxRecDepth 20000 in
theorem gX2_copy_X2_faulted : GoodIn wsX2_copy (wsV RX2 50 RX2 yX2_faulted wsX2_faulted) := goodIn_app (goodIn_of _ (by decide +kernel)) ggX2_copy_X2_faulted
set_option maxRecDepth 20000 in
theorem ggX2_copy_X1_hasCells : GoodIn wsX2_copy wsX1_hasCells := goodIn_r _ [26, 27, 36, 37, 38] (by decide +kernel) (by decide +kernel)
set_option maxRecDepth 20000 in
theorem gX2_copy_X1_hasCells : GoodIn wsX2_copy (wsV RX2 190 RX1 yX1_hasCells wsX1_hasCells) := goodIn_app (goodIn_of _ (by decide +kernel)) ggX2_copy_X1_hasCells
theorem dX2_copy_0 : decode cX2_copy 0 = .ok (.aload_n 0, 1) := by decide +kernel
theorem dX2_copy_1 : decode cX2_copy 1 = .ok (.iconst 0, 1) := by decide +kernel
theorem dX2_copy_2 : decode cX2_copy 2 = .ok (.putfield 35, 3) := by decide +kernel
theorem dX2_copy_5 : decode cX2_copy 5 = .ok (.iload_n 1, 1) := by decide +kernel
theorem dX2_copy_6 : decode cX2_copy 6 = .ok (.invokestatic 39, 3) := by decide +kernel
theorem dX2_copy_9 : decode cX2_copy 9 = .ok (.ifCond .eq 10, 3) := by decide +kernel
theorem dX2_copy_12 : decode cX2_copy 12 = .ok (.iload_n 3, 1) := by decide +kernel
theorem dX2_copy_13 : decode cX2_copy 13 = .ok (.invokestatic 39, 3) := by decide +kernel
theorem dX2_copy_16 : decode cX2_copy 16 = .ok (.ifCond .ne 5, 3) := by decide +kernel
theorem dX2_copy_19 : decode cX2_copy 19 = .ok (.iconst (-1), 1) := by decide +kernel
theorem dX2_copy_20 : decode cX2_copy 20 = .ok (.ireturn, 1) := by decide +kernel
theorem dX2_copy_21 : decode cX2_copy 21 = .ok (.aload_n 0, 1) := by decide +kernel
theorem dX2_copy_22 : decode cX2_copy 22 = .ok (.getfield 23, 3) := by decide +kernel
theorem dX2_copy_25 : decode cX2_copy 25 = .ok (.iload_n 1, 1) := by decide +kernel
theorem dX2_copy_26 : decode cX2_copy 26 = .ok (.aaload, 1) := by decide +kernel
theorem dX2_copy_27 : decode cX2_copy 27 = .ok (.astore 6, 2) := by decide +kernel
theorem dX2_copy_29 : decode cX2_copy 29 = .ok (.aload_n 0, 1) := by decide +kernel
theorem dX2_copy_30 : decode cX2_copy 30 = .ok (.getfield 23, 3) := by decide +kernel
theorem dX2_copy_33 : decode cX2_copy 33 = .ok (.iload_n 3, 1) := by decide +kernel
theorem dX2_copy_34 : decode cX2_copy 34 = .ok (.aaload, 1) := by decide +kernel
theorem dX2_copy_35 : decode cX2_copy 35 = .ok (.astore 7, 2) := by decide +kernel
theorem dX2_copy_37 : decode cX2_copy 37 = .ok (.aload 6, 2) := by decide +kernel
theorem dX2_copy_39 : decode cX2_copy 39 = .ok (.invokevirtual 175, 3) := by decide +kernel
theorem dX2_copy_42 : decode cX2_copy 42 = .ok (.ifCond .ne 11, 3) := by decide +kernel
theorem dX2_copy_45 : decode cX2_copy 45 = .ok (.aload 7, 2) := by decide +kernel
theorem dX2_copy_47 : decode cX2_copy 47 = .ok (.invokevirtual 175, 3) := by decide +kernel
theorem dX2_copy_50 : decode cX2_copy 50 = .ok (.ifCond .eq 9, 3) := by decide +kernel
theorem dX2_copy_53 : decode cX2_copy 53 = .ok (.aload_n 0, 1) := by decide +kernel
theorem dX2_copy_54 : decode cX2_copy 54 = .ok (.iconst 1, 1) := by decide +kernel
theorem dX2_copy_55 : decode cX2_copy 55 = .ok (.invokevirtual 50, 3) := by decide +kernel
theorem dX2_copy_58 : decode cX2_copy 58 = .ok (.ireturn, 1) := by decide +kernel
theorem dX2_copy_59 : decode cX2_copy 59 = .ok (.aload 6, 2) := by decide +kernel
theorem dX2_copy_61 : decode cX2_copy 61 = .ok (.getfield 181, 3) := by decide +kernel
theorem dX2_copy_64 : decode cX2_copy 64 = .ok (.aload 7, 2) := by decide +kernel
theorem dX2_copy_66 : decode cX2_copy 66 = .ok (.getfield 181, 3) := by decide +kernel
theorem dX2_copy_69 : decode cX2_copy 69 = .ok (.if_icmp .eq 9, 3) := by decide +kernel
theorem dX2_copy_72 : decode cX2_copy 72 = .ok (.aload_n 0, 1) := by decide +kernel
theorem dX2_copy_73 : decode cX2_copy 73 = .ok (.iconst 2, 1) := by decide +kernel
theorem dX2_copy_74 : decode cX2_copy 74 = .ok (.invokevirtual 50, 3) := by decide +kernel
theorem dX2_copy_77 : decode cX2_copy 77 = .ok (.ireturn, 1) := by decide +kernel
theorem dX2_copy_78 : decode cX2_copy 78 = .ok (.iload 5, 2) := by decide +kernel
theorem dX2_copy_80 : decode cX2_copy 80 = .ok (.ifCond .lt 26, 3) := by decide +kernel
theorem dX2_copy_83 : decode cX2_copy 83 = .ok (.aload 6, 2) := by decide +kernel
theorem dX2_copy_85 : decode cX2_copy 85 = .ok (.iload_n 2, 1) := by decide +kernel
theorem dX2_copy_86 : decode cX2_copy 86 = .ok (.iload 5, 2) := by decide +kernel
theorem dX2_copy_88 : decode cX2_copy 88 = .ok (.invokevirtual 190, 3) := by decide +kernel
theorem dX2_copy_91 : decode cX2_copy 91 = .ok (.ifCond .eq 15, 3) := by decide +kernel
theorem dX2_copy_94 : decode cX2_copy 94 = .ok (.aload 7, 2) := by decide +kernel
theorem dX2_copy_96 : decode cX2_copy 96 = .ok (.iload 4, 2) := by decide +kernel
theorem dX2_copy_98 : decode cX2_copy 98 = .ok (.iload 5, 2) := by decide +kernel
theorem dX2_copy_100 : decode cX2_copy 100 = .ok (.invokevirtual 190, 3) := by decide +kernel
theorem dX2_copy_103 : decode cX2_copy 103 = .ok (.ifCond .ne 9, 3) := by decide +kernel
theorem dX2_copy_106 : decode cX2_copy 106 = .ok (.aload_n 0, 1) := by decide +kernel
theorem dX2_copy_107 : decode cX2_copy 107 = .ok (.iconst 3, 1) := by decide +kernel
theorem dX2_copy_108 : decode cX2_copy 108 = .ok (.invokevirtual 50, 3) := by decide +kernel
theorem dX2_copy_111 : decode cX2_copy 111 = .ok (.ireturn, 1) := by decide +kernel
theorem dX2_copy_112 : decode cX2_copy 112 = .ok (.aload 6, 2) := by decide +kernel
theorem dX2_copy_114 : decode cX2_copy 114 = .ok (.getfield 193, 3) := by decide +kernel
theorem dX2_copy_117 : decode cX2_copy 117 = .ok (.iload_n 2, 1) := by decide +kernel
theorem dX2_copy_118 : decode cX2_copy 118 = .ok (.aload 7, 2) := by decide +kernel
theorem dX2_copy_120 : decode cX2_copy 120 = .ok (.getfield 193, 3) := by decide +kernel
theorem dX2_copy_123 : decode cX2_copy 123 = .ok (.iload 4, 2) := by decide +kernel
theorem dX2_copy_125 : decode cX2_copy 125 = .ok (.iload 5, 2) := by decide +kernel
theorem dX2_copy_127 : decode cX2_copy 127 = .ok (.invokestatic 196, 3) := by decide +kernel
theorem dX2_copy_130 : decode cX2_copy 130 = .ok (.iload 5, 2) := by decide +kernel
theorem dX2_copy_132 : decode cX2_copy 132 = .ok (.ireturn, 1) := by decide +kernel
set_option maxRecDepth 20000 in
theorem ggX2_tell_X2_isThing : GoodIn wsX2_tell wsX2_isThing := goodIn_r _ [7, 1, 8, 27, 28, 29, 30, 31, 32, 33, 34, 35, 36, 37, 38, 39, 40, 41, 42] (by decide +kernel) (by decide +kernel)
set_option maxRecDepth 20000 in
theorem gX2_tell_X2_isThing : GoodIn wsX2_tell (wsV RX2 68 RX2 yX2_isThing wsX2_isThing) := goodIn_app (goodIn_of _ (by decide +kernel)) ggX2_tell_X2_isThing
set_option maxRecDepth 20000 in
theorem ggX2_tell_X2_gravyTells : GoodIn wsX2_tell wsX2_gravyTells := goodIn_r _ [12, 13, 14, 15, 6, 16, 17, 18, 19, 20, 21, 22, 23, 24, 25, 1, 26, 27, 28, 29, 30, 31, 32, 33, 34, 35, 36, 37, 38, 39, 40, 41, 42] (by decide +kernel) (by decide +kernel)
set_option maxRecDepth 20000 in
theorem gX2_tell_X2_gravyTells : GoodIn wsX2_tell (wsV RX2 202 RX2 yX2_gravyTells wsX2_gravyTells) := goodIn_app (goodIn_of _ (by decide +kernel)) ggX2_tell_X2_gravyTells
set_option maxRecDepth 20000 in
theorem ggX2_tell_X2_saltTells : GoodIn wsX2_tell wsX2_saltTells := goodIn_r _ [21, 13, 14, 15, 6, 16, 17, 22, 23, 24, 25, 1, 26, 27, 28, 29, 30, 31, 32, 33, 34, 35, 36, 37, 38, 39, 40, 41, 42] (by decide +kernel) (by decide +kernel)
set_option maxRecDepth 20000 in
theorem gX2_tell_X2_saltTells : GoodIn wsX2_tell (wsV RX2 205 RX2 yX2_saltTells wsX2_saltTells) := goodIn_app (goodIn_of _ (by decide +kernel)) ggX2_tell_X2_saltTells
set_option maxRecDepth 20000 in
theorem ggX2_tell_X2_forkTells : GoodIn wsX2_tell wsX2_forkTells := goodIn_r _ [25, 1, 26, 13, 14, 15, 6, 16, 17, 27, 28, 29, 30, 31, 32, 33, 34, 35, 36, 37, 38, 39, 40, 41, 42] (by decide +kernel) (by decide +kernel)
set_option maxRecDepth 20000 in
theorem gX2_tell_X2_forkTells : GoodIn wsX2_tell (wsV RX2 208 RX2 yX2_forkTells wsX2_forkTells) := goodIn_app (goodIn_of _ (by decide +kernel)) ggX2_tell_X2_forkTells
theorem dX2_tell_0 : decode cX2_tell 0 = .ok (.aload_n 0, 1) := by decide +kernel
theorem dX2_tell_1 : decode cX2_tell 1 = .ok (.iload_n 1, 1) := by decide +kernel
theorem dX2_tell_2 : decode cX2_tell 2 = .ok (.invokevirtual 68, 3) := by decide +kernel
theorem dX2_tell_5 : decode cX2_tell 5 = .ok (.ifCond .ne 5, 3) := by decide +kernel
theorem dX2_tell_8 : decode cX2_tell 8 = .ok (.iconst (-1), 1) := by decide +kernel
theorem dX2_tell_9 : decode cX2_tell 9 = .ok (.ireturn, 1) := by decide +kernel
theorem dX2_tell_10 : decode cX2_tell 10 = .ok (.aload_n 0, 1) := by decide +kernel
theorem dX2_tell_11 : decode cX2_tell 11 = .ok (.getfield 14, 3) := by decide +kernel
theorem dX2_tell_14 : decode cX2_tell 14 = .ok (.getfield 71, 3) := by decide +kernel
theorem dX2_tell_17 : decode cX2_tell 17 = .ok (.iload_n 1, 1) := by decide +kernel
theorem dX2_tell_18 : decode cX2_tell 18 = .ok (.iaload, 1) := by decide +kernel
theorem dX2_tell_19 : decode cX2_tell 19 = .ok (.lookupswitch 37 #[(1, 31), (2, 25)], 25) := by decide +kernel
theorem dX2_tell_44 : decode cX2_tell 44 = .ok (.aload_n 0, 1) := by decide +kernel
theorem dX2_tell_45 : decode cX2_tell 45 = .ok (.iload_n 1, 1) := by decide +kernel
theorem dX2_tell_46 : decode cX2_tell 46 = .ok (.invokevirtual 202, 3) := by decide +kernel
theorem dX2_tell_49 : decode cX2_tell 49 = .ok (.ireturn, 1) := by decide +kernel
theorem dX2_tell_50 : decode cX2_tell 50 = .ok (.aload_n 0, 1) := by decide +kernel
theorem dX2_tell_51 : decode cX2_tell 51 = .ok (.iload_n 1, 1) := by decide +kernel
theorem dX2_tell_52 : decode cX2_tell 52 = .ok (.invokevirtual 205, 3) := by decide +kernel
theorem dX2_tell_55 : decode cX2_tell 55 = .ok (.ireturn, 1) := by decide +kernel
theorem dX2_tell_56 : decode cX2_tell 56 = .ok (.aload_n 0, 1) := by decide +kernel
theorem dX2_tell_57 : decode cX2_tell 57 = .ok (.iload_n 1, 1) := by decide +kernel
theorem dX2_tell_58 : decode cX2_tell 58 = .ok (.invokevirtual 208, 3) := by decide +kernel
theorem dX2_tell_61 : decode cX2_tell 61 = .ok (.ireturn, 1) := by decide +kernel
set_option maxRecDepth 20000 in
theorem ggX2_pass_X2_isThing : GoodIn wsX2_pass wsX2_isThing := goodIn_r _ [7, 1, 8, 14, 15, 16, 17, 18, 19, 20, 21, 22, 23, 24, 25, 26, 27, 28, 29] (by decide +kernel) (by decide +kernel)
set_option maxRecDepth 20000 in
theorem gX2_pass_X2_isThing : GoodIn wsX2_pass (wsV RX2 68 RX2 yX2_isThing wsX2_isThing) := goodIn_app (goodIn_of _ (by decide +kernel)) ggX2_pass_X2_isThing
set_option maxRecDepth 20000 in
theorem ggX2_pass_X2_leaveTrace : GoodIn wsX2_pass wsX2_leaveTrace := goodIn_r _ [12, 13, 14, 15, 16, 17, 18, 19, 20, 21] (by decide +kernel) (by decide +kernel)
set_option maxRecDepth 20000 in
theorem gX2_pass_X2_leaveTrace : GoodIn wsX2_pass (wsV RX2 211 RX2 yX2_leaveTrace wsX2_leaveTrace) := goodIn_app (goodIn_of _ (by decide +kernel)) ggX2_pass_X2_leaveTrace
theorem dX2_pass_0 : decode cX2_pass 0 = .ok (.aload_n 0, 1) := by decide +kernel
theorem dX2_pass_1 : decode cX2_pass 1 = .ok (.iload_n 1, 1) := by decide +kernel
theorem dX2_pass_2 : decode cX2_pass 2 = .ok (.invokevirtual 68, 3) := by decide +kernel
theorem dX2_pass_5 : decode cX2_pass 5 = .ok (.ifCond .ne 5, 3) := by decide +kernel
theorem dX2_pass_8 : decode cX2_pass 8 = .ok (.iconst (-1), 1) := by decide +kernel
theorem dX2_pass_9 : decode cX2_pass 9 = .ok (.ireturn, 1) := by decide +kernel
theorem dX2_pass_10 : decode cX2_pass 10 = .ok (.aload_n 0, 1) := by decide +kernel
theorem dX2_pass_11 : decode cX2_pass 11 = .ok (.getfield 14, 3) := by decide +kernel
theorem dX2_pass_14 : decode cX2_pass 14 = .ok (.getfield 71, 3) := by decide +kernel
theorem dX2_pass_17 : decode cX2_pass 17 = .ok (.iload_n 1, 1) := by decide +kernel
theorem dX2_pass_18 : decode cX2_pass 18 = .ok (.iaload, 1) := by decide +kernel
theorem dX2_pass_19 : decode cX2_pass 19 = .ok (.iconst 2, 1) := by decide +kernel
theorem dX2_pass_20 : decode cX2_pass 20 = .ok (.if_icmp .ne 11, 3) := by decide +kernel
theorem dX2_pass_23 : decode cX2_pass 23 = .ok (.aload_n 0, 1) := by decide +kernel
theorem dX2_pass_24 : decode cX2_pass 24 = .ok (.iconst 5, 1) := by decide +kernel
theorem dX2_pass_25 : decode cX2_pass 25 = .ok (.invokevirtual 211, 3) := by decide +kernel
theorem dX2_pass_28 : decode cX2_pass 28 = .ok (.bipush 60, 2) := by decide +kernel
theorem dX2_pass_30 : decode cX2_pass 30 = .ok (.ireturn, 1) := by decide +kernel
theorem dX2_pass_31 : decode cX2_pass 31 = .ok (.aload_n 0, 1) := by decide +kernel
theorem dX2_pass_32 : decode cX2_pass 32 = .ok (.iconst 4, 1) := by decide +kernel
theorem dX2_pass_33 : decode cX2_pass 33 = .ok (.invokevirtual 211, 3) := by decide +kernel
theorem dX2_pass_36 : decode cX2_pass 36 = .ok (.iload_n 1, 1) := by decide +kernel
theorem dX2_pass_37 : decode cX2_pass 37 = .ok (.ireturn, 1) := by decide +kernel
set_option maxRecDepth 20000 in
theorem ggX2_as_X2_isThing : GoodIn wsX2_as wsX2_isThing := goodIn_r _ [8, 2, 9, 14, 15, 16, 17, 18, 19, 20, 21, 22, 23, 24, 25, 26, 27, 28, 29] (by decide +kernel) (by decide +kernel)
set_option maxRecDepth 20000 in
theorem gX2_as_X2_isThing : GoodIn wsX2_as (wsV RX2 68 RX2 yX2_isThing wsX2_isThing) := goodIn_app (goodIn_of _ (by decide +kernel)) ggX2_as_X2_isThing
set_option maxRecDepth 20000 in
theorem ggX2_as_X2_faulted : GoodIn wsX2_as wsX2_faulted := goodIn_r _ [13, 1, 14, 15, 16, 17, 18, 19, 20, 21] (by decide +kernel) (by decide +kernel)
set_option maxRecDepth 20000 in
theorem gX2_as_X2_faulted : GoodIn wsX2_as (wsV RX2 50 RX2 yX2_faulted wsX2_faulted) := goodIn_app (goodIn_of _ (by decide +kernel)) ggX2_as_X2_faulted
theorem dX2_as_0 : decode cX2_as 0 = .ok (.aload_n 0, 1) := by decide +kernel
theorem dX2_as_1 : decode cX2_as 1 = .ok (.iconst 0, 1) := by decide +kernel
theorem dX2_as_2 : decode cX2_as 2 = .ok (.putfield 35, 3) := by decide +kernel
theorem dX2_as_5 : decode cX2_as 5 = .ok (.aload_n 0, 1) := by decide +kernel
theorem dX2_as_6 : decode cX2_as 6 = .ok (.iload_n 1, 1) := by decide +kernel
theorem dX2_as_7 : decode cX2_as 7 = .ok (.invokevirtual 68, 3) := by decide +kernel
theorem dX2_as_10 : decode cX2_as 10 = .ok (.ifCond .ne 5, 3) := by decide +kernel
theorem dX2_as_13 : decode cX2_as 13 = .ok (.iconst (-1), 1) := by decide +kernel
theorem dX2_as_14 : decode cX2_as 14 = .ok (.ireturn, 1) := by decide +kernel
theorem dX2_as_15 : decode cX2_as 15 = .ok (.iload_n 2, 1) := by decide +kernel
theorem dX2_as_16 : decode cX2_as 16 = .ok (.ifCond .lt 8, 3) := by decide +kernel
theorem dX2_as_19 : decode cX2_as 19 = .ok (.iload_n 2, 1) := by decide +kernel
theorem dX2_as_20 : decode cX2_as 20 = .ok (.iconst 2, 1) := by decide +kernel
theorem dX2_as_21 : decode cX2_as 21 = .ok (.if_icmp .le 6, 3) := by decide +kernel
theorem dX2_as_24 : decode cX2_as 24 = .ok (.bipush (-2), 2) := by decide +kernel
theorem dX2_as_26 : decode cX2_as 26 = .ok (.ireturn, 1) := by decide +kernel
theorem dX2_as_27 : decode cX2_as 27 = .ok (.aload_n 0, 1) := by decide +kernel
theorem dX2_as_28 : decode cX2_as 28 = .ok (.getfield 14, 3) := by decide +kernel
theorem dX2_as_31 : decode cX2_as 31 = .ok (.getfield 71, 3) := by decide +kernel
theorem dX2_as_34 : decode cX2_as 34 = .ok (.iload_n 1, 1) := by decide +kernel
theorem dX2_as_35 : decode cX2_as 35 = .ok (.iaload, 1) := by decide +kernel
theorem dX2_as_36 : decode cX2_as 36 = .ok (.iload_n 2, 1) := by decide +kernel
theorem dX2_as_37 : decode cX2_as 37 = .ok (.if_icmp .lt 7, 3) := by decide +kernel
theorem dX2_as_40 : decode cX2_as 40 = .ok (.iconst 1, 1) := by decide +kernel
theorem dX2_as_41 : decode cX2_as 41 = .ok (.goto 8, 3) := by decide +kernel
theorem dX2_as_44 : decode cX2_as 44 = .ok (.aload_n 0, 1) := by decide +kernel
theorem dX2_as_45 : decode cX2_as 45 = .ok (.iconst 2, 1) := by decide +kernel
theorem dX2_as_46 : decode cX2_as 46 = .ok (.invokevirtual 50, 3) := by decide +kernel
theorem dX2_as_49 : decode cX2_as 49 = .ok (.ireturn, 1) := by decide +kernel
theorem dX2_trace_0 : decode cX2_trace 0 = .ok (.aload_n 0, 1) := by decide +kernel
theorem dX2_trace_1 : decode cX2_trace 1 = .ok (.getfield 215, 3) := by decide +kernel
theorem dX2_trace_4 : decode cX2_trace 4 = .ok (.ireturn, 1) := by decide +kernel
theorem dX2_fault_0 : decode cX2_fault 0 = .ok (.aload_n 0, 1) := by decide +kernel
theorem dX2_fault_1 : decode cX2_fault 1 = .ok (.getfield 35, 3) := by decide +kernel
theorem dX2_fault_4 : decode cX2_fault 4 = .ok (.ireturn, 1) := by decide +kernel
set_option maxRecDepth 20000 in
theorem ggX2_many_X0_countEaten : GoodIn wsX2_many wsX0_countEaten := goodIn_r _ [9, 10, 11, 12, 13, 14, 15, 16, 17, 26, 27, 28, 29, 30, 31, 32, 33] (by decide +kernel) (by decide +kernel)
set_option maxRecDepth 20000 in
theorem gX2_many_X0_countEaten : GoodIn wsX2_many (wsV RX2 124 RX0 yX0_countEaten wsX0_countEaten) := goodIn_app (goodIn_of _ (by decide +kernel)) ggX2_many_X0_countEaten
theorem dX2_many_0 : decode cX2_many 0 = .ok (.iload_n 1, 1) := by decide +kernel
theorem dX2_many_1 : decode cX2_many 1 = .ok (.tableswitch 60 0 3 #[31, 39, 47, 55], 31) := by decide +kernel
theorem dX2_many_32 : decode cX2_many 32 = .ok (.aload_n 0, 1) := by decide +kernel
theorem dX2_many_33 : decode cX2_many 33 = .ok (.getfield 14, 3) := by decide +kernel
theorem dX2_many_36 : decode cX2_many 36 = .ok (.getfield 65, 3) := by decide +kernel
theorem dX2_many_39 : decode cX2_many 39 = .ok (.ireturn, 1) := by decide +kernel
theorem dX2_many_40 : decode cX2_many 40 = .ok (.aload_n 0, 1) := by decide +kernel
theorem dX2_many_41 : decode cX2_many 41 = .ok (.getfield 14, 3) := by decide +kernel
theorem dX2_many_44 : decode cX2_many 44 = .ok (.getfield 164, 3) := by decide +kernel
theorem dX2_many_47 : decode cX2_many 47 = .ok (.ireturn, 1) := by decide +kernel
theorem dX2_many_48 : decode cX2_many 48 = .ok (.aload_n 0, 1) := by decide +kernel
theorem dX2_many_49 : decode cX2_many 49 = .ok (.getfield 14, 3) := by decide +kernel
theorem dX2_many_52 : decode cX2_many 52 = .ok (.invokevirtual 124, 3) := by decide +kernel
theorem dX2_many_55 : decode cX2_many 55 = .ok (.ireturn, 1) := by decide +kernel
theorem dX2_many_56 : decode cX2_many 56 = .ok (.aload_n 0, 1) := by decide +kernel
theorem dX2_many_57 : decode cX2_many 57 = .ok (.getfield 62, 3) := by decide +kernel
theorem dX2_many_60 : decode cX2_many 60 = .ok (.ireturn, 1) := by decide +kernel
theorem dX2_many_61 : decode cX2_many 61 = .ok (.bipush (-2), 2) := by decide +kernel
theorem dX2_many_63 : decode cX2_many 63 = .ok (.ireturn, 1) := by decide +kernel
theorem dX2_hasTable_0 : decode cX2_hasTable 0 = .ok (.aload_n 0, 1) := by decide +kernel
theorem dX2_hasTable_1 : decode cX2_hasTable 1 = .ok (.getfield 14, 3) := by decide +kernel
theorem dX2_hasTable_4 : decode cX2_hasTable 4 = .ok (.getfield 65, 3) := by decide +kernel
theorem dX2_hasTable_7 : decode cX2_hasTable 7 = .ok (.ifCond .le 7, 3) := by decide +kernel
theorem dX2_hasTable_10 : decode cX2_hasTable 10 = .ok (.iconst 1, 1) := by decide +kernel
theorem dX2_hasTable_11 : decode cX2_hasTable 11 = .ok (.goto 4, 3) := by decide +kernel
theorem dX2_hasTable_14 : decode cX2_hasTable 14 = .ok (.iconst 0, 1) := by decide +kernel
theorem dX2_hasTable_15 : decode cX2_hasTable 15 = .ok (.ireturn, 1) := by decide +kernel
theorem dX2_isThing_0 : decode cX2_isThing 0 = .ok (.iload_n 1, 1) := by decide +kernel
theorem dX2_isThing_1 : decode cX2_isThing 1 = .ok (.ifCond .lt 18, 3) := by decide +kernel
theorem dX2_isThing_4 : decode cX2_isThing 4 = .ok (.iload_n 1, 1) := by decide +kernel
theorem dX2_isThing_5 : decode cX2_isThing 5 = .ok (.aload_n 0, 1) := by decide +kernel
theorem dX2_isThing_6 : decode cX2_isThing 6 = .ok (.getfield 14, 3) := by decide +kernel
theorem dX2_isThing_9 : decode cX2_isThing 9 = .ok (.getfield 65, 3) := by decide +kernel
theorem dX2_isThing_12 : decode cX2_isThing 12 = .ok (.if_icmp .ge 7, 3) := by decide +kernel
theorem dX2_isThing_15 : decode cX2_isThing 15 = .ok (.iconst 1, 1) := by decide +kernel
theorem dX2_isThing_16 : decode cX2_isThing 16 = .ok (.goto 4, 3) := by decide +kernel
theorem dX2_isThing_19 : decode cX2_isThing 19 = .ok (.iconst 0, 1) := by decide +kernel
theorem dX2_isThing_20 : decode cX2_isThing 20 = .ok (.ireturn, 1) := by decide +kernel
theorem dX2_isCell_0 : decode cX2_isCell 0 = .ok (.iload_n 1, 1) := by decide +kernel
theorem dX2_isCell_1 : decode cX2_isCell 1 = .ok (.ifCond .lt 18, 3) := by decide +kernel
theorem dX2_isCell_4 : decode cX2_isCell 4 = .ok (.iload_n 1, 1) := by decide +kernel
theorem dX2_isCell_5 : decode cX2_isCell 5 = .ok (.aload_n 0, 1) := by decide +kernel
theorem dX2_isCell_6 : decode cX2_isCell 6 = .ok (.getfield 14, 3) := by decide +kernel
theorem dX2_isCell_9 : decode cX2_isCell 9 = .ok (.getfield 164, 3) := by decide +kernel
theorem dX2_isCell_12 : decode cX2_isCell 12 = .ok (.if_icmp .ge 7, 3) := by decide +kernel
theorem dX2_isCell_15 : decode cX2_isCell 15 = .ok (.iconst 1, 1) := by decide +kernel
theorem dX2_isCell_16 : decode cX2_isCell 16 = .ok (.goto 4, 3) := by decide +kernel
theorem dX2_isCell_19 : decode cX2_isCell 19 = .ok (.iconst 0, 1) := by decide +kernel
theorem dX2_isCell_20 : decode cX2_isCell 20 = .ok (.ireturn, 1) := by decide +kernel
theorem dX2_isHouse_0 : decode cX2_isHouse 0 = .ok (.iload_n 0, 1) := by decide +kernel
theorem dX2_isHouse_1 : decode cX2_isHouse 1 = .ok (.ifCond .eq 8, 3) := by decide +kernel
theorem dX2_isHouse_4 : decode cX2_isHouse 4 = .ok (.iload_n 0, 1) := by decide +kernel
theorem dX2_isHouse_5 : decode cX2_isHouse 5 = .ok (.iconst 1, 1) := by decide +kernel
theorem dX2_isHouse_6 : decode cX2_isHouse 6 = .ok (.if_icmp .ne 7, 3) := by decide +kernel
theorem dX2_isHouse_9 : decode cX2_isHouse 9 = .ok (.iconst 1, 1) := by decide +kernel
theorem dX2_isHouse_10 : decode cX2_isHouse 10 = .ok (.goto 4, 3) := by decide +kernel
theorem dX2_isHouse_13 : decode cX2_isHouse 13 = .ok (.iconst 0, 1) := by decide +kernel
theorem dX2_isHouse_14 : decode cX2_isHouse 14 = .ok (.ireturn, 1) := by decide +kernel
theorem dX2_isAct_0 : decode cX2_isAct 0 = .ok (.iload_n 0, 1) := by decide +kernel
theorem dX2_isAct_1 : decode cX2_isAct 1 = .ok (.ifCond .lt 12, 3) := by decide +kernel
theorem dX2_isAct_4 : decode cX2_isAct 4 = .ok (.iload_n 0, 1) := by decide +kernel
theorem dX2_isAct_5 : decode cX2_isAct 5 = .ok (.iconst 3, 1) := by decide +kernel
theorem dX2_isAct_6 : decode cX2_isAct 6 = .ok (.if_icmp .ge 7, 3) := by decide +kernel
theorem dX2_isAct_9 : decode cX2_isAct 9 = .ok (.iconst 1, 1) := by decide +kernel
theorem dX2_isAct_10 : decode cX2_isAct 10 = .ok (.goto 4, 3) := by decide +kernel
theorem dX2_isAct_13 : decode cX2_isAct 13 = .ok (.iconst 0, 1) := by decide +kernel
theorem dX2_isAct_14 : decode cX2_isAct 14 = .ok (.ireturn, 1) := by decide +kernel
theorem dX2_isSheet_0 : decode cX2_isSheet 0 = .ok (.iload_n 0, 1) := by decide +kernel
theorem dX2_isSheet_1 : decode cX2_isSheet 1 = .ok (.ifCond .lt 12, 3) := by decide +kernel
theorem dX2_isSheet_4 : decode cX2_isSheet 4 = .ok (.iload_n 0, 1) := by decide +kernel
theorem dX2_isSheet_5 : decode cX2_isSheet 5 = .ok (.iconst 4, 1) := by decide +kernel
theorem dX2_isSheet_6 : decode cX2_isSheet 6 = .ok (.if_icmp .ge 7, 3) := by decide +kernel
theorem dX2_isSheet_9 : decode cX2_isSheet 9 = .ok (.iconst 1, 1) := by decide +kernel
theorem dX2_isSheet_10 : decode cX2_isSheet 10 = .ok (.goto 4, 3) := by decide +kernel
theorem dX2_isSheet_13 : decode cX2_isSheet 13 = .ok (.iconst 0, 1) := by decide +kernel
theorem dX2_isSheet_14 : decode cX2_isSheet 14 = .ok (.ireturn, 1) := by decide +kernel
theorem dX2_isLane_0 : decode cX2_isLane 0 = .ok (.iload_n 0, 1) := by decide +kernel
theorem dX2_isLane_1 : decode cX2_isLane 1 = .ok (.ifCond .lt 12, 3) := by decide +kernel
theorem dX2_isLane_4 : decode cX2_isLane 4 = .ok (.iload_n 0, 1) := by decide +kernel
theorem dX2_isLane_5 : decode cX2_isLane 5 = .ok (.iconst 3, 1) := by decide +kernel
theorem dX2_isLane_6 : decode cX2_isLane 6 = .ok (.if_icmp .ge 7, 3) := by decide +kernel
theorem dX2_isLane_9 : decode cX2_isLane 9 = .ok (.iconst 1, 1) := by decide +kernel
theorem dX2_isLane_10 : decode cX2_isLane 10 = .ok (.goto 4, 3) := by decide +kernel
theorem dX2_isLane_13 : decode cX2_isLane 13 = .ok (.iconst 0, 1) := by decide +kernel
theorem dX2_isLane_14 : decode cX2_isLane 14 = .ok (.ireturn, 1) := by decide +kernel
theorem dX2_faulted_0 : decode cX2_faulted 0 = .ok (.aload_n 0, 1) := by decide +kernel
theorem dX2_faulted_1 : decode cX2_faulted 1 = .ok (.iload_n 1, 1) := by decide +kernel
theorem dX2_faulted_2 : decode cX2_faulted 2 = .ok (.putfield 35, 3) := by decide +kernel
theorem dX2_faulted_5 : decode cX2_faulted 5 = .ok (.bipush (-10), 2) := by decide +kernel
theorem dX2_faulted_7 : decode cX2_faulted 7 = .ok (.iload_n 1, 1) := by decide +kernel
theorem dX2_faulted_8 : decode cX2_faulted 8 = .ok (.isub, 1) := by decide +kernel
theorem dX2_faulted_9 : decode cX2_faulted 9 = .ok (.ireturn, 1) := by decide +kernel
theorem dX2_replaceDigit_0 : decode cX2_replaceDigit 0 = .ok (.iload_n 2, 1) := by decide +kernel
theorem dX2_replaceDigit_1 : decode cX2_replaceDigit 1 = .ok (.ifCond .lt 9, 3) := by decide +kernel
theorem dX2_replaceDigit_4 : decode cX2_replaceDigit 4 = .ok (.iload_n 2, 1) := by decide +kernel
theorem dX2_replaceDigit_5 : decode cX2_replaceDigit 5 = .ok (.bipush 10, 2) := by decide +kernel
theorem dX2_replaceDigit_7 : decode cX2_replaceDigit 7 = .ok (.if_icmp .lt 6, 3) := by decide +kernel
theorem dX2_replaceDigit_10 : decode cX2_replaceDigit 10 = .ok (.bipush (-2), 2) := by decide +kernel
theorem dX2_replaceDigit_12 : decode cX2_replaceDigit 12 = .ok (.ireturn, 1) := by decide +kernel
theorem dX2_replaceDigit_13 : decode cX2_replaceDigit 13 = .ok (.aload_n 0, 1) := by decide +kernel
theorem dX2_replaceDigit_14 : decode cX2_replaceDigit 14 = .ok (.iload_n 1, 1) := by decide +kernel
theorem dX2_replaceDigit_15 : decode cX2_replaceDigit 15 = .ok (.iaload, 1) := by decide +kernel
theorem dX2_replaceDigit_16 : decode cX2_replaceDigit 16 = .ok (.istore_n 3, 1) := by decide +kernel
theorem dX2_replaceDigit_17 : decode cX2_replaceDigit 17 = .ok (.aload_n 0, 1) := by decide +kernel
theorem dX2_replaceDigit_18 : decode cX2_replaceDigit 18 = .ok (.iload_n 1, 1) := by decide +kernel
theorem dX2_replaceDigit_19 : decode cX2_replaceDigit 19 = .ok (.iload_n 2, 1) := by decide +kernel
theorem dX2_replaceDigit_20 : decode cX2_replaceDigit 20 = .ok (.iastore, 1) := by decide +kernel
theorem dX2_replaceDigit_21 : decode cX2_replaceDigit 21 = .ok (.iload_n 3, 1) := by decide +kernel
theorem dX2_replaceDigit_22 : decode cX2_replaceDigit 22 = .ok (.ireturn, 1) := by decide +kernel
theorem dX2_isDinnerQuestion_0 : decode cX2_isDinnerQuestion 0 = .ok (.iload_n 0, 1) := by decide +kernel
theorem dX2_isDinnerQuestion_1 : decode cX2_isDinnerQuestion 1 = .ok (.ifCond .lt 8, 3) := by decide +kernel
theorem dX2_isDinnerQuestion_4 : decode cX2_isDinnerQuestion 4 = .ok (.iload_n 0, 1) := by decide +kernel
theorem dX2_isDinnerQuestion_5 : decode cX2_isDinnerQuestion 5 = .ok (.iconst 3, 1) := by decide +kernel
theorem dX2_isDinnerQuestion_6 : decode cX2_isDinnerQuestion 6 = .ok (.if_icmp .le 27, 3) := by decide +kernel
theorem dX2_isDinnerQuestion_9 : decode cX2_isDinnerQuestion 9 = .ok (.iload_n 0, 1) := by decide +kernel
theorem dX2_isDinnerQuestion_10 : decode cX2_isDinnerQuestion 10 = .ok (.bipush 10, 2) := by decide +kernel
theorem dX2_isDinnerQuestion_12 : decode cX2_isDinnerQuestion 12 = .ok (.if_icmp .lt 9, 3) := by decide +kernel
theorem dX2_isDinnerQuestion_15 : decode cX2_isDinnerQuestion 15 = .ok (.iload_n 0, 1) := by decide +kernel
theorem dX2_isDinnerQuestion_16 : decode cX2_isDinnerQuestion 16 = .ok (.bipush 16, 2) := by decide +kernel
theorem dX2_isDinnerQuestion_18 : decode cX2_isDinnerQuestion 18 = .ok (.if_icmp .lt 15, 3) := by decide +kernel
theorem dX2_isDinnerQuestion_21 : decode cX2_isDinnerQuestion 21 = .ok (.iload_n 0, 1) := by decide +kernel
theorem dX2_isDinnerQuestion_22 : decode cX2_isDinnerQuestion 22 = .ok (.bipush 20, 2) := by decide +kernel
theorem dX2_isDinnerQuestion_24 : decode cX2_isDinnerQuestion 24 = .ok (.if_icmp .lt 13, 3) := by decide +kernel
theorem dX2_isDinnerQuestion_27 : decode cX2_isDinnerQuestion 27 = .ok (.iload_n 0, 1) := by decide +kernel
theorem dX2_isDinnerQuestion_28 : decode cX2_isDinnerQuestion 28 = .ok (.bipush 26, 2) := by decide +kernel
theorem dX2_isDinnerQuestion_30 : decode cX2_isDinnerQuestion 30 = .ok (.if_icmp .ge 7, 3) := by decide +kernel
theorem dX2_isDinnerQuestion_33 : decode cX2_isDinnerQuestion 33 = .ok (.iconst 1, 1) := by decide +kernel
theorem dX2_isDinnerQuestion_34 : decode cX2_isDinnerQuestion 34 = .ok (.goto 4, 3) := by decide +kernel
theorem dX2_isDinnerQuestion_37 : decode cX2_isDinnerQuestion 37 = .ok (.iconst 0, 1) := by decide +kernel
theorem dX2_isDinnerQuestion_38 : decode cX2_isDinnerQuestion 38 = .ok (.ireturn, 1) := by decide +kernel
set_option maxRecDepth 20000 in
theorem ggX2_refusalOfPairs_X1_at : GoodIn wsX2_refusalOfPairs wsX1_at := goodIn_r _ [5, 6, 7, 18, 19, 20] (by decide +kernel) (by decide +kernel)
set_option maxRecDepth 20000 in
theorem gX2_refusalOfPairs_X1_at : GoodIn wsX2_refusalOfPairs (wsV RX2 187 RX1 yX1_at wsX1_at) := goodIn_app (goodIn_of _ (by decide +kernel)) ggX2_refusalOfPairs_X1_at
set_option maxRecDepth 20000 in
theorem ggX2_refusalOfPairs_X2_isThing : GoodIn wsX2_refusalOfPairs wsX2_isThing := goodIn_r _ [12, 13, 14, 21, 22, 23, 24, 25, 26, 27, 28, 29, 30, 31, 32, 33, 34, 35, 36] (by decide +kernel) (by decide +kernel)
set_option maxRecDepth 20000 in
theorem gX2_refusalOfPairs_X2_isThing : GoodIn wsX2_refusalOfPairs (wsV RX2 68 RX2 yX2_isThing wsX2_isThing) := goodIn_app (goodIn_of _ (by decide +kernel)) ggX2_refusalOfPairs_X2_isThing
set_option maxRecDepth 20000 in
theorem ggX2_refusalOfPairs_X2_isAct : GoodIn wsX2_refusalOfPairs wsX2_isAct := goodIn_r _ [17] (by decide +kernel) (by decide +kernel)
set_option maxRecDepth 20000 in
theorem gX2_refusalOfPairs_X2_isAct : GoodIn wsX2_refusalOfPairs (va_wsS RX2 113 yX2_isAct wsX2_isAct) := goodIn_app (goodIn_of _ (by decide +kernel)) ggX2_refusalOfPairs_X2_isAct
theorem dX2_refusalOfPairs_0 : decode cX2_refusalOfPairs 0 = .ok (.iconst 0, 1) := by decide +kernel
theorem dX2_refusalOfPairs_1 : decode cX2_refusalOfPairs 1 = .ok (.istore 4, 2) := by decide +kernel
theorem dX2_refusalOfPairs_3 : decode cX2_refusalOfPairs 3 = .ok (.iload 4, 2) := by decide +kernel
theorem dX2_refusalOfPairs_5 : decode cX2_refusalOfPairs 5 = .ok (.iload_n 3, 1) := by decide +kernel
theorem dX2_refusalOfPairs_6 : decode cX2_refusalOfPairs 6 = .ok (.if_icmp .ge 49, 3) := by decide +kernel
theorem dX2_refusalOfPairs_9 : decode cX2_refusalOfPairs 9 = .ok (.aload_n 0, 1) := by decide +kernel
theorem dX2_refusalOfPairs_10 : decode cX2_refusalOfPairs 10 = .ok (.aload_n 1, 1) := by decide +kernel
theorem dX2_refusalOfPairs_11 : decode cX2_refusalOfPairs 11 = .ok (.iload_n 2, 1) := by decide +kernel
theorem dX2_refusalOfPairs_12 : decode cX2_refusalOfPairs 12 = .ok (.iconst 2, 1) := by decide +kernel
theorem dX2_refusalOfPairs_13 : decode cX2_refusalOfPairs 13 = .ok (.iload 4, 2) := by decide +kernel
theorem dX2_refusalOfPairs_15 : decode cX2_refusalOfPairs 15 = .ok (.imul, 1) := by decide +kernel
theorem dX2_refusalOfPairs_16 : decode cX2_refusalOfPairs 16 = .ok (.iadd, 1) := by decide +kernel
theorem dX2_refusalOfPairs_17 : decode cX2_refusalOfPairs 17 = .ok (.invokevirtual 187, 3) := by decide +kernel
theorem dX2_refusalOfPairs_20 : decode cX2_refusalOfPairs 20 = .ok (.invokevirtual 68, 3) := by decide +kernel
theorem dX2_refusalOfPairs_23 : decode cX2_refusalOfPairs 23 = .ok (.ifCond .ne 5, 3) := by decide +kernel
theorem dX2_refusalOfPairs_26 : decode cX2_refusalOfPairs 26 = .ok (.iconst (-1), 1) := by decide +kernel
theorem dX2_refusalOfPairs_27 : decode cX2_refusalOfPairs 27 = .ok (.ireturn, 1) := by decide +kernel
theorem dX2_refusalOfPairs_28 : decode cX2_refusalOfPairs 28 = .ok (.aload_n 1, 1) := by decide +kernel
theorem dX2_refusalOfPairs_29 : decode cX2_refusalOfPairs 29 = .ok (.iload_n 2, 1) := by decide +kernel
theorem dX2_refusalOfPairs_30 : decode cX2_refusalOfPairs 30 = .ok (.iconst 2, 1) := by decide +kernel
theorem dX2_refusalOfPairs_31 : decode cX2_refusalOfPairs 31 = .ok (.iload 4, 2) := by decide +kernel
theorem dX2_refusalOfPairs_33 : decode cX2_refusalOfPairs 33 = .ok (.imul, 1) := by decide +kernel
theorem dX2_refusalOfPairs_34 : decode cX2_refusalOfPairs 34 = .ok (.iadd, 1) := by decide +kernel
theorem dX2_refusalOfPairs_35 : decode cX2_refusalOfPairs 35 = .ok (.iconst 1, 1) := by decide +kernel
theorem dX2_refusalOfPairs_36 : decode cX2_refusalOfPairs 36 = .ok (.iadd, 1) := by decide +kernel
theorem dX2_refusalOfPairs_37 : decode cX2_refusalOfPairs 37 = .ok (.invokevirtual 187, 3) := by decide +kernel
theorem dX2_refusalOfPairs_40 : decode cX2_refusalOfPairs 40 = .ok (.invokestatic 113, 3) := by decide +kernel
theorem dX2_refusalOfPairs_43 : decode cX2_refusalOfPairs 43 = .ok (.ifCond .ne 6, 3) := by decide +kernel
theorem dX2_refusalOfPairs_46 : decode cX2_refusalOfPairs 46 = .ok (.bipush (-2), 2) := by decide +kernel
theorem dX2_refusalOfPairs_48 : decode cX2_refusalOfPairs 48 = .ok (.ireturn, 1) := by decide +kernel
theorem dX2_refusalOfPairs_49 : decode cX2_refusalOfPairs 49 = .ok (.iinc 4 1, 3) := by decide +kernel
theorem dX2_refusalOfPairs_52 : decode cX2_refusalOfPairs 52 = .ok (.goto (-49), 3) := by decide +kernel
theorem dX2_refusalOfPairs_55 : decode cX2_refusalOfPairs 55 = .ok (.iconst 0, 1) := by decide +kernel
theorem dX2_refusalOfPairs_56 : decode cX2_refusalOfPairs 56 = .ok (.ireturn, 1) := by decide +kernel
set_option maxRecDepth 20000 in
theorem ggX2_answerOfDinner_X0_landOf : GoodIn wsX2_answerOfDinner wsX0_landOf := goodIn_r _ [6, 7, 8, 9, 10, 11, 5, 12, 13, 14, 15, 16, 17, 18, 19, 20, 21, 22, 23, 24, 25, 26, 63, 64, 65, 66, 67, 68, 69, 70] (by decide +kernel) (by decide +kernel)
set_option maxRecDepth 20000 in
theorem gX2_answerOfDinner_X0_landOf : GoodIn wsX2_answerOfDinner (wsV RX2 110 RX0 yX0_landOf wsX0_landOf) := goodIn_app (goodIn_of _ (by decide +kernel)) ggX2_answerOfDinner_X0_landOf
set_option maxRecDepth 20000 in
theorem ggX2_answerOfDinner_X0_countEaten : GoodIn wsX2_answerOfDinner wsX0_countEaten := goodIn_r _ [30, 26, 31, 32, 33, 34, 35, 36, 37, 63, 64, 65, 66, 67, 68, 69, 70] (by decide +kernel) (by decide +kernel)
set_option maxRecDepth 20000 in
theorem gX2_answerOfDinner_X0_countEaten : GoodIn wsX2_answerOfDinner (wsV RX2 124 RX0 yX0_countEaten wsX0_countEaten) := goodIn_app (goodIn_of _ (by decide +kernel)) ggX2_answerOfDinner_X0_countEaten
set_option maxRecDepth 20000 in
theorem ggX2_answerOfDinner_X2_isThing : GoodIn wsX2_answerOfDinner wsX2_isThing := goodIn_r _ [42, 43, 44, 55, 56, 57, 58, 59, 60, 61, 62, 63, 64, 65, 66, 67, 68, 69, 70] (by decide +kernel) (by decide +kernel)
set_option maxRecDepth 20000 in
theorem gX2_answerOfDinner_X2_isThing : GoodIn wsX2_answerOfDinner (wsV RX2 68 RX2 yX2_isThing wsX2_isThing) := goodIn_app (goodIn_of _ (by decide +kernel)) ggX2_answerOfDinner_X2_isThing
set_option maxRecDepth 20000 in
theorem ggX2_answerOfDinner_X0_whereIs : GoodIn wsX2_answerOfDinner wsX0_whereIs := goodIn_r _ [48, 14, 22, 23, 24, 5, 25, 26, 63, 64, 65, 66, 67, 68, 69, 70] (by decide +kernel) (by decide +kernel)
set_option maxRecDepth 20000 in
theorem gX2_answerOfDinner_X0_whereIs : GoodIn wsX2_answerOfDinner (wsV RX2 77 RX0 yX0_whereIs wsX0_whereIs) := goodIn_app (goodIn_of _ (by decide +kernel)) ggX2_answerOfDinner_X0_whereIs
set_option maxRecDepth 20000 in
theorem ggX2_answerOfDinner_X2_isCell : GoodIn wsX2_answerOfDinner wsX2_isCell := goodIn_r _ [52, 43, 53, 55, 56, 57, 58, 59, 60, 61, 62, 63, 64, 65, 66, 67, 68, 69, 70] (by decide +kernel) (by decide +kernel)
set_option maxRecDepth 20000 in
theorem gX2_answerOfDinner_X2_isCell : GoodIn wsX2_answerOfDinner (wsV RX2 86 RX2 yX2_isCell wsX2_isCell) := goodIn_app (goodIn_of _ (by decide +kernel)) ggX2_answerOfDinner_X2_isCell
set_option maxRecDepth 20000 in
theorem ggX2_answerOfDinner_X0_holderOf : GoodIn wsX2_answerOfDinner wsX0_holderOf := goodIn_r _ [12, 13, 14, 15, 16, 17, 18, 5, 19, 20, 21, 22, 23, 24, 25, 26, 63, 64, 65, 66, 67, 68, 69, 70] (by decide +kernel) (by decide +kernel)
set_option maxRecDepth 20000 in
theorem gX2_answerOfDinner_X0_holderOf : GoodIn wsX2_answerOfDinner (wsV RX2 103 RX0 yX0_holderOf wsX0_holderOf) := goodIn_app (goodIn_of _ (by decide +kernel)) ggX2_answerOfDinner_X0_holderOf
theorem dX2_answerOfDinner_0 : decode cX2_answerOfDinner 0 = .ok (.iload_n 1, 1) := by decide +kernel
theorem dX2_answerOfDinner_1 : decode cX2_answerOfDinner 1 = .ok (.ifCond .ne 12, 3) := by decide +kernel
theorem dX2_answerOfDinner_4 : decode cX2_answerOfDinner 4 = .ok (.aload_n 0, 1) := by decide +kernel
theorem dX2_answerOfDinner_5 : decode cX2_answerOfDinner 5 = .ok (.getfield 18, 3) := by decide +kernel
theorem dX2_answerOfDinner_8 : decode cX2_answerOfDinner 8 = .ok (.iconst 0, 1) := by decide +kernel
theorem dX2_answerOfDinner_9 : decode cX2_answerOfDinner 9 = .ok (.invokevirtual 110, 3) := by decide +kernel
theorem dX2_answerOfDinner_12 : decode cX2_answerOfDinner 12 = .ok (.ireturn, 1) := by decide +kernel
theorem dX2_answerOfDinner_13 : decode cX2_answerOfDinner 13 = .ok (.iload_n 1, 1) := by decide +kernel
theorem dX2_answerOfDinner_14 : decode cX2_answerOfDinner 14 = .ok (.iconst 2, 1) := by decide +kernel
theorem dX2_answerOfDinner_15 : decode cX2_answerOfDinner 15 = .ok (.if_icmp .ne 12, 3) := by decide +kernel
theorem dX2_answerOfDinner_18 : decode cX2_answerOfDinner 18 = .ok (.aload_n 0, 1) := by decide +kernel
theorem dX2_answerOfDinner_19 : decode cX2_answerOfDinner 19 = .ok (.getfield 18, 3) := by decide +kernel
theorem dX2_answerOfDinner_22 : decode cX2_answerOfDinner 22 = .ok (.iconst 1, 1) := by decide +kernel
theorem dX2_answerOfDinner_23 : decode cX2_answerOfDinner 23 = .ok (.invokevirtual 110, 3) := by decide +kernel
theorem dX2_answerOfDinner_26 : decode cX2_answerOfDinner 26 = .ok (.ireturn, 1) := by decide +kernel
theorem dX2_answerOfDinner_27 : decode cX2_answerOfDinner 27 = .ok (.iload_n 1, 1) := by decide +kernel
theorem dX2_answerOfDinner_28 : decode cX2_answerOfDinner 28 = .ok (.iconst 3, 1) := by decide +kernel
theorem dX2_answerOfDinner_29 : decode cX2_answerOfDinner 29 = .ok (.if_icmp .ne 11, 3) := by decide +kernel
theorem dX2_answerOfDinner_32 : decode cX2_answerOfDinner 32 = .ok (.aload_n 0, 1) := by decide +kernel
theorem dX2_answerOfDinner_33 : decode cX2_answerOfDinner 33 = .ok (.getfield 18, 3) := by decide +kernel
theorem dX2_answerOfDinner_36 : decode cX2_answerOfDinner 36 = .ok (.invokevirtual 124, 3) := by decide +kernel
theorem dX2_answerOfDinner_39 : decode cX2_answerOfDinner 39 = .ok (.ireturn, 1) := by decide +kernel
theorem dX2_answerOfDinner_40 : decode cX2_answerOfDinner 40 = .ok (.iload_n 1, 1) := by decide +kernel
theorem dX2_answerOfDinner_41 : decode cX2_answerOfDinner 41 = .ok (.bipush 20, 2) := by decide +kernel
theorem dX2_answerOfDinner_43 : decode cX2_answerOfDinner 43 = .ok (.if_icmp .ge 31, 3) := by decide +kernel
theorem dX2_answerOfDinner_46 : decode cX2_answerOfDinner 46 = .ok (.aload_n 0, 1) := by decide +kernel
theorem dX2_answerOfDinner_47 : decode cX2_answerOfDinner 47 = .ok (.iload_n 1, 1) := by decide +kernel
theorem dX2_answerOfDinner_48 : decode cX2_answerOfDinner 48 = .ok (.bipush 10, 2) := by decide +kernel
theorem dX2_answerOfDinner_50 : decode cX2_answerOfDinner 50 = .ok (.isub, 1) := by decide +kernel
theorem dX2_answerOfDinner_51 : decode cX2_answerOfDinner 51 = .ok (.invokevirtual 68, 3) := by decide +kernel
theorem dX2_answerOfDinner_54 : decode cX2_answerOfDinner 54 = .ok (.ifCond .eq 17, 3) := by decide +kernel
theorem dX2_answerOfDinner_57 : decode cX2_answerOfDinner 57 = .ok (.aload_n 0, 1) := by decide +kernel
theorem dX2_answerOfDinner_58 : decode cX2_answerOfDinner 58 = .ok (.getfield 18, 3) := by decide +kernel
theorem dX2_answerOfDinner_61 : decode cX2_answerOfDinner 61 = .ok (.iload_n 1, 1) := by decide +kernel
theorem dX2_answerOfDinner_62 : decode cX2_answerOfDinner 62 = .ok (.bipush 10, 2) := by decide +kernel
theorem dX2_answerOfDinner_64 : decode cX2_answerOfDinner 64 = .ok (.isub, 1) := by decide +kernel
theorem dX2_answerOfDinner_65 : decode cX2_answerOfDinner 65 = .ok (.invokevirtual 77, 3) := by decide +kernel
theorem dX2_answerOfDinner_68 : decode cX2_answerOfDinner 68 = .ok (.goto 5, 3) := by decide +kernel
theorem dX2_answerOfDinner_71 : decode cX2_answerOfDinner 71 = .ok (.bipush (-9), 2) := by decide +kernel
theorem dX2_answerOfDinner_73 : decode cX2_answerOfDinner 73 = .ok (.ireturn, 1) := by decide +kernel
theorem dX2_answerOfDinner_74 : decode cX2_answerOfDinner 74 = .ok (.aload_n 0, 1) := by decide +kernel
theorem dX2_answerOfDinner_75 : decode cX2_answerOfDinner 75 = .ok (.iload_n 1, 1) := by decide +kernel
theorem dX2_answerOfDinner_76 : decode cX2_answerOfDinner 76 = .ok (.bipush 20, 2) := by decide +kernel
theorem dX2_answerOfDinner_78 : decode cX2_answerOfDinner 78 = .ok (.isub, 1) := by decide +kernel
theorem dX2_answerOfDinner_79 : decode cX2_answerOfDinner 79 = .ok (.invokevirtual 86, 3) := by decide +kernel
theorem dX2_answerOfDinner_82 : decode cX2_answerOfDinner 82 = .ok (.ifCond .eq 17, 3) := by decide +kernel
theorem dX2_answerOfDinner_85 : decode cX2_answerOfDinner 85 = .ok (.aload_n 0, 1) := by decide +kernel
theorem dX2_answerOfDinner_86 : decode cX2_answerOfDinner 86 = .ok (.getfield 18, 3) := by decide +kernel
theorem dX2_answerOfDinner_89 : decode cX2_answerOfDinner 89 = .ok (.iload_n 1, 1) := by decide +kernel
theorem dX2_answerOfDinner_90 : decode cX2_answerOfDinner 90 = .ok (.bipush 20, 2) := by decide +kernel
theorem dX2_answerOfDinner_92 : decode cX2_answerOfDinner 92 = .ok (.isub, 1) := by decide +kernel
theorem dX2_answerOfDinner_93 : decode cX2_answerOfDinner 93 = .ok (.invokevirtual 103, 3) := by decide +kernel
theorem dX2_answerOfDinner_96 : decode cX2_answerOfDinner 96 = .ok (.goto 5, 3) := by decide +kernel
theorem dX2_answerOfDinner_99 : decode cX2_answerOfDinner 99 = .ok (.bipush (-9), 2) := by decide +kernel
theorem dX2_answerOfDinner_101 : decode cX2_answerOfDinner 101 = .ok (.ireturn, 1) := by decide +kernel
set_option maxRecDepth 20000 in
theorem ggX2_refusalOfMove_X2_isHouse : GoodIn wsX2_refusalOfMove wsX2_isHouse := goodIn_r _ [4] (by decide +kernel) (by decide +kernel)
set_option maxRecDepth 20000 in
theorem gX2_refusalOfMove_X2_isHouse : GoodIn wsX2_refusalOfMove (va_wsS RX2 96 yX2_isHouse wsX2_isHouse) := goodIn_app (goodIn_of _ (by decide +kernel)) ggX2_refusalOfMove_X2_isHouse
set_option maxRecDepth 20000 in
theorem ggX2_refusalOfMove_X2_hasTable : GoodIn wsX2_refusalOfMove wsX2_hasTable := goodIn_r _ [8, 9, 10, 11, 12, 13, 14, 15, 16, 17, 18, 19, 20, 21, 22, 23, 24, 25, 26] (by decide +kernel) (by decide +kernel)
set_option maxRecDepth 20000 in
theorem gX2_refusalOfMove_X2_hasTable : GoodIn wsX2_refusalOfMove (wsV RX2 106 RX2 yX2_hasTable wsX2_hasTable) := goodIn_app (goodIn_of _ (by decide +kernel)) ggX2_refusalOfMove_X2_hasTable
theorem dX2_refusalOfMove_0 : decode cX2_refusalOfMove 0 = .ok (.iload_n 1, 1) := by decide +kernel
theorem dX2_refusalOfMove_1 : decode cX2_refusalOfMove 1 = .ok (.invokestatic 96, 3) := by decide +kernel
theorem dX2_refusalOfMove_4 : decode cX2_refusalOfMove 4 = .ok (.ifCond .ne 5, 3) := by decide +kernel
theorem dX2_refusalOfMove_7 : decode cX2_refusalOfMove 7 = .ok (.iconst (-1), 1) := by decide +kernel
theorem dX2_refusalOfMove_8 : decode cX2_refusalOfMove 8 = .ok (.ireturn, 1) := by decide +kernel
theorem dX2_refusalOfMove_9 : decode cX2_refusalOfMove 9 = .ok (.iload_n 2, 1) := by decide +kernel
theorem dX2_refusalOfMove_10 : decode cX2_refusalOfMove 10 = .ok (.ifCond .lt 8, 3) := by decide +kernel
theorem dX2_refusalOfMove_13 : decode cX2_refusalOfMove 13 = .ok (.iload_n 2, 1) := by decide +kernel
theorem dX2_refusalOfMove_14 : decode cX2_refusalOfMove 14 = .ok (.iconst 2, 1) := by decide +kernel
theorem dX2_refusalOfMove_15 : decode cX2_refusalOfMove 15 = .ok (.if_icmp .le 6, 3) := by decide +kernel
theorem dX2_refusalOfMove_18 : decode cX2_refusalOfMove 18 = .ok (.bipush (-2), 2) := by decide +kernel
theorem dX2_refusalOfMove_20 : decode cX2_refusalOfMove 20 = .ok (.ireturn, 1) := by decide +kernel
theorem dX2_refusalOfMove_21 : decode cX2_refusalOfMove 21 = .ok (.aload_n 0, 1) := by decide +kernel
theorem dX2_refusalOfMove_22 : decode cX2_refusalOfMove 22 = .ok (.invokevirtual 106, 3) := by decide +kernel
theorem dX2_refusalOfMove_25 : decode cX2_refusalOfMove 25 = .ok (.ifCond .eq 7, 3) := by decide +kernel
theorem dX2_refusalOfMove_28 : decode cX2_refusalOfMove 28 = .ok (.iconst 0, 1) := by decide +kernel
theorem dX2_refusalOfMove_29 : decode cX2_refusalOfMove 29 = .ok (.goto 5, 3) := by decide +kernel
theorem dX2_refusalOfMove_32 : decode cX2_refusalOfMove 32 = .ok (.bipush (-3), 2) := by decide +kernel
theorem dX2_refusalOfMove_34 : decode cX2_refusalOfMove 34 = .ok (.ireturn, 1) := by decide +kernel
set_option maxRecDepth 20000 in
theorem ggX2_partOfChoice_X0_moveOfChoice : GoodIn wsX2_partOfChoice wsX0_moveOfChoice := goodIn_r _ [4] (by decide +kernel) (by decide +kernel)
set_option maxRecDepth 20000 in
theorem gX2_partOfChoice_X0_moveOfChoice : GoodIn wsX2_partOfChoice (va_wsS RX2 218 yX0_moveOfChoice wsX0_moveOfChoice) := goodIn_app (goodIn_of _ (by decide +kernel)) ggX2_partOfChoice_X0_moveOfChoice
set_option maxRecDepth 20000 in
theorem ggX2_partOfChoice_X0_leadOfChoice : GoodIn wsX2_partOfChoice wsX0_leadOfChoice := goodIn_r _ [7] (by decide +kernel) (by decide +kernel)
set_option maxRecDepth 20000 in
theorem gX2_partOfChoice_X0_leadOfChoice : GoodIn wsX2_partOfChoice (va_wsS RX2 221 yX0_leadOfChoice wsX0_leadOfChoice) := goodIn_app (goodIn_of _ (by decide +kernel)) ggX2_partOfChoice_X0_leadOfChoice
theorem dX2_partOfChoice_0 : decode cX2_partOfChoice 0 = .ok (.iload_n 0, 1) := by decide +kernel
theorem dX2_partOfChoice_1 : decode cX2_partOfChoice 1 = .ok (.bipush (-9), 2) := by decide +kernel
theorem dX2_partOfChoice_3 : decode cX2_partOfChoice 3 = .ok (.if_icmp .ne 6, 3) := by decide +kernel
theorem dX2_partOfChoice_6 : decode cX2_partOfChoice 6 = .ok (.bipush (-9), 2) := by decide +kernel
theorem dX2_partOfChoice_8 : decode cX2_partOfChoice 8 = .ok (.ireturn, 1) := by decide +kernel
theorem dX2_partOfChoice_9 : decode cX2_partOfChoice 9 = .ok (.iload_n 0, 1) := by decide +kernel
theorem dX2_partOfChoice_10 : decode cX2_partOfChoice 10 = .ok (.invokestatic 218, 3) := by decide +kernel
theorem dX2_partOfChoice_13 : decode cX2_partOfChoice 13 = .ok (.istore_n 2, 1) := by decide +kernel
theorem dX2_partOfChoice_14 : decode cX2_partOfChoice 14 = .ok (.iload_n 1, 1) := by decide +kernel
theorem dX2_partOfChoice_15 : decode cX2_partOfChoice 15 = .ok (.lookupswitch 33 #[(0, 25), (1, 29)], 25) := by decide +kernel
theorem dX2_partOfChoice_40 : decode cX2_partOfChoice 40 = .ok (.iload_n 2, 1) := by decide +kernel
theorem dX2_partOfChoice_41 : decode cX2_partOfChoice 41 = .ok (.iconst 3, 1) := by decide +kernel
theorem dX2_partOfChoice_42 : decode cX2_partOfChoice 42 = .ok (.idiv, 1) := by decide +kernel
theorem dX2_partOfChoice_43 : decode cX2_partOfChoice 43 = .ok (.ireturn, 1) := by decide +kernel
theorem dX2_partOfChoice_44 : decode cX2_partOfChoice 44 = .ok (.iload_n 2, 1) := by decide +kernel
theorem dX2_partOfChoice_45 : decode cX2_partOfChoice 45 = .ok (.iconst 3, 1) := by decide +kernel
theorem dX2_partOfChoice_46 : decode cX2_partOfChoice 46 = .ok (.irem, 1) := by decide +kernel
theorem dX2_partOfChoice_47 : decode cX2_partOfChoice 47 = .ok (.ireturn, 1) := by decide +kernel
theorem dX2_partOfChoice_48 : decode cX2_partOfChoice 48 = .ok (.iload_n 0, 1) := by decide +kernel
theorem dX2_partOfChoice_49 : decode cX2_partOfChoice 49 = .ok (.invokestatic 221, 3) := by decide +kernel
theorem dX2_partOfChoice_52 : decode cX2_partOfChoice 52 = .ok (.ireturn, 1) := by decide +kernel
set_option maxRecDepth 20000 in
theorem ggX2_valuesThatFit_X2_readingsAreSo : GoodIn wsX2_valuesThatFit wsX2_readingsAreSo := goodIn_r _ [5, 6, 7, 8, 9, 10, 11, 12, 13, 14, 15, 16, 17, 18, 19, 20, 21, 22, 23, 24, 25, 26, 27, 28, 29, 30, 31, 32, 33, 34, 35, 36, 37, 38, 39, 40, 41, 42, 43, 44] (by decide +kernel) (by decide +kernel)
set_option maxRecDepth 20000 in
theorem gX2_valuesThatFit_X2_readingsAreSo : GoodIn wsX2_valuesThatFit (wsV RX2 224 RX2 yX2_readingsAreSo wsX2_readingsAreSo) := goodIn_app (goodIn_of _ (by decide +kernel)) ggX2_valuesThatFit_X2_readingsAreSo
theorem dX2_valuesThatFit_0 : decode cX2_valuesThatFit 0 = .ok (.aload_n 1, 1) := by decide +kernel
theorem dX2_valuesThatFit_1 : decode cX2_valuesThatFit 1 = .ok (.iload_n 2, 1) := by decide +kernel
theorem dX2_valuesThatFit_2 : decode cX2_valuesThatFit 2 = .ok (.iaload, 1) := by decide +kernel
theorem dX2_valuesThatFit_3 : decode cX2_valuesThatFit 3 = .ok (.istore 4, 2) := by decide +kernel
theorem dX2_valuesThatFit_5 : decode cX2_valuesThatFit 5 = .ok (.iconst 0, 1) := by decide +kernel
theorem dX2_valuesThatFit_6 : decode cX2_valuesThatFit 6 = .ok (.istore 5, 2) := by decide +kernel
theorem dX2_valuesThatFit_8 : decode cX2_valuesThatFit 8 = .ok (.iconst 0, 1) := by decide +kernel
theorem dX2_valuesThatFit_9 : decode cX2_valuesThatFit 9 = .ok (.istore 6, 2) := by decide +kernel
theorem dX2_valuesThatFit_11 : decode cX2_valuesThatFit 11 = .ok (.iload 6, 2) := by decide +kernel
theorem dX2_valuesThatFit_13 : decode cX2_valuesThatFit 13 = .ok (.iload_n 3, 1) := by decide +kernel
theorem dX2_valuesThatFit_14 : decode cX2_valuesThatFit 14 = .ok (.if_icmp .ge 30, 3) := by decide +kernel
theorem dX2_valuesThatFit_17 : decode cX2_valuesThatFit 17 = .ok (.aload_n 1, 1) := by decide +kernel
theorem dX2_valuesThatFit_18 : decode cX2_valuesThatFit 18 = .ok (.iload_n 2, 1) := by decide +kernel
theorem dX2_valuesThatFit_19 : decode cX2_valuesThatFit 19 = .ok (.iload 6, 2) := by decide +kernel
theorem dX2_valuesThatFit_21 : decode cX2_valuesThatFit 21 = .ok (.iastore, 1) := by decide +kernel
theorem dX2_valuesThatFit_22 : decode cX2_valuesThatFit 22 = .ok (.aload_n 0, 1) := by decide +kernel
theorem dX2_valuesThatFit_23 : decode cX2_valuesThatFit 23 = .ok (.invokevirtual 224, 3) := by decide +kernel
theorem dX2_valuesThatFit_26 : decode cX2_valuesThatFit 26 = .ok (.ifCond .eq 12, 3) := by decide +kernel
theorem dX2_valuesThatFit_29 : decode cX2_valuesThatFit 29 = .ok (.iload 5, 2) := by decide +kernel
theorem dX2_valuesThatFit_31 : decode cX2_valuesThatFit 31 = .ok (.iconst 1, 1) := by decide +kernel
theorem dX2_valuesThatFit_32 : decode cX2_valuesThatFit 32 = .ok (.iload 6, 2) := by decide +kernel
theorem dX2_valuesThatFit_34 : decode cX2_valuesThatFit 34 = .ok (.ishl, 1) := by decide +kernel
theorem dX2_valuesThatFit_35 : decode cX2_valuesThatFit 35 = .ok (.ior, 1) := by decide +kernel
theorem dX2_valuesThatFit_36 : decode cX2_valuesThatFit 36 = .ok (.istore 5, 2) := by decide +kernel
theorem dX2_valuesThatFit_38 : decode cX2_valuesThatFit 38 = .ok (.iinc 6 1, 3) := by decide +kernel
theorem dX2_valuesThatFit_41 : decode cX2_valuesThatFit 41 = .ok (.goto (-30), 3) := by decide +kernel
theorem dX2_valuesThatFit_44 : decode cX2_valuesThatFit 44 = .ok (.aload_n 1, 1) := by decide +kernel
theorem dX2_valuesThatFit_45 : decode cX2_valuesThatFit 45 = .ok (.iload_n 2, 1) := by decide +kernel
theorem dX2_valuesThatFit_46 : decode cX2_valuesThatFit 46 = .ok (.iload 4, 2) := by decide +kernel
theorem dX2_valuesThatFit_48 : decode cX2_valuesThatFit 48 = .ok (.iastore, 1) := by decide +kernel
theorem dX2_valuesThatFit_49 : decode cX2_valuesThatFit 49 = .ok (.iload 5, 2) := by decide +kernel
theorem dX2_valuesThatFit_51 : decode cX2_valuesThatFit 51 = .ok (.ireturn, 1) := by decide +kernel
set_option maxRecDepth 20000 in
theorem ggX2_readingsAreSo_X0_holderOf : GoodIn wsX2_readingsAreSo wsX0_holderOf := goodIn_r _ [9, 10, 11, 12, 13, 14, 15, 8, 16, 17, 18, 19, 20, 21, 22, 23, 32, 33, 34, 35, 36, 37, 38, 39] (by decide +kernel) (by decide +kernel)
set_option maxRecDepth 20000 in
theorem gX2_readingsAreSo_X0_holderOf : GoodIn wsX2_readingsAreSo (wsV RX2 103 RX0 yX0_holderOf wsX0_holderOf) := goodIn_app (goodIn_of _ (by decide +kernel)) ggX2_readingsAreSo_X0_holderOf
theorem dX2_readingsAreSo_0 : decode cX2_readingsAreSo 0 = .ok (.iconst 0, 1) := by decide +kernel
theorem dX2_readingsAreSo_1 : decode cX2_readingsAreSo 1 = .ok (.istore_n 1, 1) := by decide +kernel
theorem dX2_readingsAreSo_2 : decode cX2_readingsAreSo 2 = .ok (.iload_n 1, 1) := by decide +kernel
theorem dX2_readingsAreSo_3 : decode cX2_readingsAreSo 3 = .ok (.aload_n 0, 1) := by decide +kernel
theorem dX2_readingsAreSo_4 : decode cX2_readingsAreSo 4 = .ok (.getfield 62, 3) := by decide +kernel
theorem dX2_readingsAreSo_7 : decode cX2_readingsAreSo 7 = .ok (.if_icmp .ge 33, 3) := by decide +kernel
theorem dX2_readingsAreSo_10 : decode cX2_readingsAreSo 10 = .ok (.aload_n 0, 1) := by decide +kernel
theorem dX2_readingsAreSo_11 : decode cX2_readingsAreSo 11 = .ok (.getfield 14, 3) := by decide +kernel
theorem dX2_readingsAreSo_14 : decode cX2_readingsAreSo 14 = .ok (.aload_n 0, 1) := by decide +kernel
theorem dX2_readingsAreSo_15 : decode cX2_readingsAreSo 15 = .ok (.getfield 28, 3) := by decide +kernel
theorem dX2_readingsAreSo_18 : decode cX2_readingsAreSo 18 = .ok (.iload_n 1, 1) := by decide +kernel
theorem dX2_readingsAreSo_19 : decode cX2_readingsAreSo 19 = .ok (.iaload, 1) := by decide +kernel
theorem dX2_readingsAreSo_20 : decode cX2_readingsAreSo 20 = .ok (.invokevirtual 103, 3) := by decide +kernel
theorem dX2_readingsAreSo_23 : decode cX2_readingsAreSo 23 = .ok (.aload_n 0, 1) := by decide +kernel
theorem dX2_readingsAreSo_24 : decode cX2_readingsAreSo 24 = .ok (.getfield 32, 3) := by decide +kernel
theorem dX2_readingsAreSo_27 : decode cX2_readingsAreSo 27 = .ok (.iload_n 1, 1) := by decide +kernel
theorem dX2_readingsAreSo_28 : decode cX2_readingsAreSo 28 = .ok (.iaload, 1) := by decide +kernel
theorem dX2_readingsAreSo_29 : decode cX2_readingsAreSo 29 = .ok (.if_icmp .eq 5, 3) := by decide +kernel
theorem dX2_readingsAreSo_32 : decode cX2_readingsAreSo 32 = .ok (.iconst 0, 1) := by decide +kernel
theorem dX2_readingsAreSo_33 : decode cX2_readingsAreSo 33 = .ok (.ireturn, 1) := by decide +kernel
theorem dX2_readingsAreSo_34 : decode cX2_readingsAreSo 34 = .ok (.iinc 1 1, 3) := by decide +kernel
theorem dX2_readingsAreSo_37 : decode cX2_readingsAreSo 37 = .ok (.goto (-35), 3) := by decide +kernel
theorem dX2_readingsAreSo_40 : decode cX2_readingsAreSo 40 = .ok (.iconst 1, 1) := by decide +kernel
theorem dX2_readingsAreSo_41 : decode cX2_readingsAreSo 41 = .ok (.ireturn, 1) := by decide +kernel
theorem dX2_leaveTrace_0 : decode cX2_leaveTrace 0 = .ok (.aload_n 0, 1) := by decide +kernel
theorem dX2_leaveTrace_1 : decode cX2_leaveTrace 1 = .ok (.bipush 31, 2) := by decide +kernel
theorem dX2_leaveTrace_3 : decode cX2_leaveTrace 3 = .ok (.aload_n 0, 1) := by decide +kernel
theorem dX2_leaveTrace_4 : decode cX2_leaveTrace 4 = .ok (.getfield 215, 3) := by decide +kernel
theorem dX2_leaveTrace_7 : decode cX2_leaveTrace 7 = .ok (.imul, 1) := by decide +kernel
theorem dX2_leaveTrace_8 : decode cX2_leaveTrace 8 = .ok (.iload_n 1, 1) := by decide +kernel
theorem dX2_leaveTrace_9 : decode cX2_leaveTrace 9 = .ok (.iadd, 1) := by decide +kernel
theorem dX2_leaveTrace_10 : decode cX2_leaveTrace 10 = .ok (.putfield 215, 3) := by decide +kernel
theorem dX2_leaveTrace_13 : decode cX2_leaveTrace 13 = .ok (.return_, 1) := by decide +kernel
set_option maxRecDepth 20000 in
theorem ggX2_forkTells_X2_leaveTrace : GoodIn wsX2_forkTells wsX2_leaveTrace := goodIn_r _ [7, 8, 9, 10, 11, 12, 13, 14, 15, 16] (by decide +kernel) (by decide +kernel)
set_option maxRecDepth 20000 in
theorem gX2_forkTells_X2_leaveTrace : GoodIn wsX2_forkTells (wsV RX2 211 RX2 yX2_leaveTrace wsX2_leaveTrace) := goodIn_app (goodIn_of _ (by decide +kernel)) ggX2_forkTells_X2_leaveTrace
theorem dX2_forkTells_0 : decode cX2_forkTells 0 = .ok (.aload_n 0, 1) := by decide +kernel
theorem dX2_forkTells_1 : decode cX2_forkTells 1 = .ok (.iconst 1, 1) := by decide +kernel
theorem dX2_forkTells_2 : decode cX2_forkTells 2 = .ok (.invokevirtual 211, 3) := by decide +kernel
theorem dX2_forkTells_5 : decode cX2_forkTells 5 = .ok (.aload_n 0, 1) := by decide +kernel
theorem dX2_forkTells_6 : decode cX2_forkTells 6 = .ok (.getfield 14, 3) := by decide +kernel
theorem dX2_forkTells_9 : decode cX2_forkTells 9 = .ok (.getfield 80, 3) := by decide +kernel
theorem dX2_forkTells_12 : decode cX2_forkTells 12 = .ok (.iload_n 1, 1) := by decide +kernel
theorem dX2_forkTells_13 : decode cX2_forkTells 13 = .ok (.iaload, 1) := by decide +kernel
theorem dX2_forkTells_14 : decode cX2_forkTells 14 = .ok (.ireturn, 1) := by decide +kernel
set_option maxRecDepth 20000 in
theorem ggX2_saltTells_X2_leaveTrace : GoodIn wsX2_saltTells wsX2_leaveTrace := goodIn_r _ [5, 6, 13, 14, 15, 16, 17, 18, 19, 20] (by decide +kernel) (by decide +kernel)
set_option maxRecDepth 20000 in
theorem gX2_saltTells_X2_leaveTrace : GoodIn wsX2_saltTells (wsV RX2 211 RX2 yX2_leaveTrace wsX2_leaveTrace) := goodIn_app (goodIn_of _ (by decide +kernel)) ggX2_saltTells_X2_leaveTrace
set_option maxRecDepth 20000 in
theorem ggX2_saltTells_X2_forkTells : GoodIn wsX2_saltTells wsX2_forkTells := goodIn_r _ [10, 11, 12, 1, 2, 3, 4, 5, 6, 13, 14, 15, 16, 17, 18, 19, 20, 21, 22, 23, 24, 25, 26, 27, 28] (by decide +kernel) (by decide +kernel)
set_option maxRecDepth 20000 in
theorem gX2_saltTells_X2_forkTells : GoodIn wsX2_saltTells (wsV RX2 208 RX2 yX2_forkTells wsX2_forkTells) := goodIn_app (goodIn_of _ (by decide +kernel)) ggX2_saltTells_X2_forkTells
theorem dX2_saltTells_0 : decode cX2_saltTells 0 = .ok (.aload_n 0, 1) := by decide +kernel
theorem dX2_saltTells_1 : decode cX2_saltTells 1 = .ok (.iconst 2, 1) := by decide +kernel
theorem dX2_saltTells_2 : decode cX2_saltTells 2 = .ok (.invokevirtual 211, 3) := by decide +kernel
theorem dX2_saltTells_5 : decode cX2_saltTells 5 = .ok (.aload_n 0, 1) := by decide +kernel
theorem dX2_saltTells_6 : decode cX2_saltTells 6 = .ok (.iload_n 1, 1) := by decide +kernel
theorem dX2_saltTells_7 : decode cX2_saltTells 7 = .ok (.invokevirtual 208, 3) := by decide +kernel
theorem dX2_saltTells_10 : decode cX2_saltTells 10 = .ok (.bipush 100, 2) := by decide +kernel
theorem dX2_saltTells_12 : decode cX2_saltTells 12 = .ok (.iadd, 1) := by decide +kernel
theorem dX2_saltTells_13 : decode cX2_saltTells 13 = .ok (.ireturn, 1) := by decide +kernel
set_option maxRecDepth 20000 in
theorem ggX2_gravyTells_X2_leaveTrace : GoodIn wsX2_gravyTells wsX2_leaveTrace := goodIn_r _ [5, 6, 17, 18, 19, 20, 21, 22, 23, 24] (by decide +kernel) (by decide +kernel)
set_option maxRecDepth 20000 in
theorem gX2_gravyTells_X2_leaveTrace : GoodIn wsX2_gravyTells (wsV RX2 211 RX2 yX2_leaveTrace wsX2_leaveTrace) := goodIn_app (goodIn_of _ (by decide +kernel)) ggX2_gravyTells_X2_leaveTrace
set_option maxRecDepth 20000 in
theorem ggX2_gravyTells_X2_saltTells : GoodIn wsX2_gravyTells wsX2_saltTells := goodIn_r _ [10, 1, 2, 3, 4, 5, 6, 11, 12, 13, 14, 15, 16, 17, 18, 19, 20, 21, 22, 23, 24, 25, 26, 27, 28, 29, 30, 31, 32] (by decide +kernel) (by decide +kernel)
set_option maxRecDepth 20000 in
theorem gX2_gravyTells_X2_saltTells : GoodIn wsX2_gravyTells (wsV RX2 205 RX2 yX2_saltTells wsX2_saltTells) := goodIn_app (goodIn_of _ (by decide +kernel)) ggX2_gravyTells_X2_saltTells
set_option maxRecDepth 20000 in
theorem ggX2_gravyTells_X2_forkTells : GoodIn wsX2_gravyTells wsX2_forkTells := goodIn_r _ [14, 15, 16, 1, 2, 3, 4, 5, 6, 17, 18, 19, 20, 21, 22, 23, 24, 25, 26, 27, 28, 29, 30, 31, 32] (by decide +kernel) (by decide +kernel)
set_option maxRecDepth 20000 in
theorem gX2_gravyTells_X2_forkTells : GoodIn wsX2_gravyTells (wsV RX2 208 RX2 yX2_forkTells wsX2_forkTells) := goodIn_app (goodIn_of _ (by decide +kernel)) ggX2_gravyTells_X2_forkTells
theorem dX2_gravyTells_0 : decode cX2_gravyTells 0 = .ok (.aload_n 0, 1) := by decide +kernel
theorem dX2_gravyTells_1 : decode cX2_gravyTells 1 = .ok (.iconst 3, 1) := by decide +kernel
theorem dX2_gravyTells_2 : decode cX2_gravyTells 2 = .ok (.invokevirtual 211, 3) := by decide +kernel
theorem dX2_gravyTells_5 : decode cX2_gravyTells 5 = .ok (.aload_n 0, 1) := by decide +kernel
theorem dX2_gravyTells_6 : decode cX2_gravyTells 6 = .ok (.iload_n 1, 1) := by decide +kernel
theorem dX2_gravyTells_7 : decode cX2_gravyTells 7 = .ok (.invokevirtual 205, 3) := by decide +kernel
theorem dX2_gravyTells_10 : decode cX2_gravyTells 10 = .ok (.istore_n 2, 1) := by decide +kernel
theorem dX2_gravyTells_11 : decode cX2_gravyTells 11 = .ok (.iload_n 2, 1) := by decide +kernel
theorem dX2_gravyTells_12 : decode cX2_gravyTells 12 = .ok (.aload_n 0, 1) := by decide +kernel
theorem dX2_gravyTells_13 : decode cX2_gravyTells 13 = .ok (.iload_n 1, 1) := by decide +kernel
theorem dX2_gravyTells_14 : decode cX2_gravyTells 14 = .ok (.invokevirtual 208, 3) := by decide +kernel
theorem dX2_gravyTells_17 : decode cX2_gravyTells 17 = .ok (.iadd, 1) := by decide +kernel
theorem dX2_gravyTells_18 : decode cX2_gravyTells 18 = .ok (.ireturn, 1) := by decide +kernel
