set_option maxRecDepth 20000 in
theorem ggX5_init_X3_init : GoodIn wsX5_init wsX3_init := goodIn_r _ [25, 26, 2, 3, 27, 28, 29, 30, 14, 31, 32, 58, 59, 60, 61, 62, 63, 64, 65] (by decide +kernel) (by decide +kernel)
set_option maxRecDepth 20000 in
theorem gX5_init_X3_init_n9 : GoodIn wsX5_init (wsX3_init) := ggX5_init_X3_init
set_option maxRecDepth 20000 in
theorem ggX5_init_X2_init : GoodIn wsX5_init wsX2_init := goodIn_r _ [34, 35, 2, 3, 14, 36, 76, 77] (by decide +kernel) (by decide +kernel)
set_option maxRecDepth 20000 in
theorem gX5_init_X2_init_n24 : GoodIn wsX5_init (wsX2_init) := ggX5_init_X2_init
set_option maxRecDepth 20000 in
theorem ggX5_init_X4_init : GoodIn wsX5_init wsX4_init := goodIn_r _ [38, 39, 2, 3, 40, 41, 42, 43, 44, 45, 46, 47, 48, 49, 87, 78, 79] (by decide +kernel) (by decide +kernel)
set_option maxRecDepth 20000 in
theorem gX5_init_X4_init_n41 : GoodIn wsX5_init (wsX4_init) := ggX5_init_X4_init
set_option maxRecDepth 20000 in
theorem ggX5_init_X1_init : GoodIn wsX5_init wsX1_init := goodIn_r _ [52, 53, 2, 3, 54, 41, 42, 55, 56, 57, 45, 46, 47, 48, 49, 87, 80, 81, 82, 83, 84, 85, 86] (by decide +kernel) (by decide +kernel)
set_option maxRecDepth 20000 in
theorem gX5_init_X1_init : GoodIn wsX5_init (wsX1_init) := ggX5_init_X1_init
theorem dX5_init_0 : decode cX5_init 0 = .ok (.aload_n 0, 1) := by decide +kernel
theorem dX5_init_1 : decode cX5_init 1 = .ok (.invokespecial 1, 3) := by decide +kernel
theorem dX5_init_4 : decode cX5_init 4 = .ok (.aload_n 0, 1) := by decide +kernel
theorem dX5_init_5 : decode cX5_init 5 = .ok (.new 7, 3) := by decide +kernel
theorem dX5_init_8 : decode cX5_init 8 = .ok (.dup, 1) := by decide +kernel
theorem dX5_init_9 : decode cX5_init 9 = .ok (.invokespecial 9, 3) := by decide +kernel
theorem dX5_init_12 : decode cX5_init 12 = .ok (.putfield 10, 3) := by decide +kernel
theorem dX5_init_15 : decode cX5_init 15 = .ok (.aload_n 0, 1) := by decide +kernel
theorem dX5_init_16 : decode cX5_init 16 = .ok (.new 7, 3) := by decide +kernel
theorem dX5_init_19 : decode cX5_init 19 = .ok (.dup, 1) := by decide +kernel
theorem dX5_init_20 : decode cX5_init 20 = .ok (.invokespecial 9, 3) := by decide +kernel
theorem dX5_init_23 : decode cX5_init 23 = .ok (.putfield 16, 3) := by decide +kernel
theorem dX5_init_26 : decode cX5_init 26 = .ok (.aload_n 0, 1) := by decide +kernel
theorem dX5_init_27 : decode cX5_init 27 = .ok (.new 7, 3) := by decide +kernel
theorem dX5_init_30 : decode cX5_init 30 = .ok (.dup, 1) := by decide +kernel
theorem dX5_init_31 : decode cX5_init 31 = .ok (.invokespecial 9, 3) := by decide +kernel
theorem dX5_init_34 : decode cX5_init 34 = .ok (.putfield 19, 3) := by decide +kernel
theorem dX5_init_37 : decode cX5_init 37 = .ok (.aload_n 0, 1) := by decide +kernel
theorem dX5_init_38 : decode cX5_init 38 = .ok (.new 22, 3) := by decide +kernel
theorem dX5_init_41 : decode cX5_init 41 = .ok (.dup, 1) := by decide +kernel
theorem dX5_init_42 : decode cX5_init 42 = .ok (.invokespecial 24, 3) := by decide +kernel
theorem dX5_init_45 : decode cX5_init 45 = .ok (.putfield 25, 3) := by decide +kernel
theorem dX5_init_48 : decode cX5_init 48 = .ok (.aload_n 0, 1) := by decide +kernel
theorem dX5_init_49 : decode cX5_init 49 = .ok (.bipush 6, 2) := by decide +kernel
theorem dX5_init_51 : decode cX5_init 51 = .ok (.newarray .int, 2) := by decide +kernel
theorem dX5_init_53 : decode cX5_init 53 = .ok (.putfield 29, 3) := by decide +kernel
theorem dX5_init_56 : decode cX5_init 56 = .ok (.aload_n 0, 1) := by decide +kernel
theorem dX5_init_57 : decode cX5_init 57 = .ok (.bipush 6, 2) := by decide +kernel
theorem dX5_init_59 : decode cX5_init 59 = .ok (.anewarray 33, 3) := by decide +kernel
theorem dX5_init_62 : decode cX5_init 62 = .ok (.putfield 35, 3) := by decide +kernel
theorem dX5_init_65 : decode cX5_init 65 = .ok (.new 39, 3) := by decide +kernel
theorem dX5_init_68 : decode cX5_init 68 = .ok (.dup, 1) := by decide +kernel
theorem dX5_init_69 : decode cX5_init 69 = .ok (.invokespecial 41, 3) := by decide +kernel
theorem dX5_init_72 : decode cX5_init 72 = .ok (.astore_n 1, 1) := by decide +kernel
theorem dX5_init_73 : decode cX5_init 73 = .ok (.iconst 0, 1) := by decide +kernel
theorem dX5_init_74 : decode cX5_init 74 = .ok (.istore_n 2, 1) := by decide +kernel
theorem dX5_init_75 : decode cX5_init 75 = .ok (.iload_n 2, 1) := by decide +kernel
theorem dX5_init_76 : decode cX5_init 76 = .ok (.aload_n 0, 1) := by decide +kernel
theorem dX5_init_77 : decode cX5_init 77 = .ok (.getfield 35, 3) := by decide +kernel
theorem dX5_init_80 : decode cX5_init 80 = .ok (.arraylength, 1) := by decide +kernel
theorem dX5_init_81 : decode cX5_init 81 = .ok (.if_icmp .ge 23, 3) := by decide +kernel
theorem dX5_init_84 : decode cX5_init 84 = .ok (.aload_n 0, 1) := by decide +kernel
theorem dX5_init_85 : decode cX5_init 85 = .ok (.getfield 35, 3) := by decide +kernel
theorem dX5_init_88 : decode cX5_init 88 = .ok (.iload_n 2, 1) := by decide +kernel
theorem dX5_init_89 : decode cX5_init 89 = .ok (.new 33, 3) := by decide +kernel
theorem dX5_init_92 : decode cX5_init 92 = .ok (.dup, 1) := by decide +kernel
theorem dX5_init_93 : decode cX5_init 93 = .ok (.aload_n 1, 1) := by decide +kernel
theorem dX5_init_94 : decode cX5_init 94 = .ok (.invokespecial 42, 3) := by decide +kernel
theorem dX5_init_97 : decode cX5_init 97 = .ok (.aastore, 1) := by decide +kernel
theorem dX5_init_98 : decode cX5_init 98 = .ok (.iinc 2 1, 3) := by decide +kernel
theorem dX5_init_101 : decode cX5_init 101 = .ok (.goto (-26), 3) := by decide +kernel
theorem dX5_init_104 : decode cX5_init 104 = .ok (.aload_n 0, 1) := by decide +kernel
theorem dX5_init_105 : decode cX5_init 105 = .ok (.new 33, 3) := by decide +kernel
theorem dX5_init_108 : decode cX5_init 108 = .ok (.dup, 1) := by decide +kernel
theorem dX5_init_109 : decode cX5_init 109 = .ok (.aload_n 1, 1) := by decide +kernel
theorem dX5_init_110 : decode cX5_init 110 = .ok (.invokespecial 42, 3) := by decide +kernel
theorem dX5_init_113 : decode cX5_init 113 = .ok (.putfield 45, 3) := by decide +kernel
theorem dX5_init_116 : decode cX5_init 116 = .ok (.return_, 1) := by decide +kernel
set_option maxRecDepth 20000 in
theorem ggX5_letter_X5_refuse : GoodIn wsX5_letter wsX5_refuse := goodIn_r _ [6, 7, 15, 16, 17, 18, 19, 20, 21, 22, 23, 24] (by decide +kernel) (by decide +kernel)
set_option maxRecDepth 20000 in
theorem gX5_letter_X5_refuse : GoodIn wsX5_letter (wsV RX5 49 RX5 yX5_refuse wsX5_refuse) := goodIn_app (goodIn_of _ (by decide +kernel)) ggX5_letter_X5_refuse
set_option maxRecDepth 20000 in
theorem ggX5_letter_X2_append : GoodIn wsX5_letter wsX2_append := goodIn_r _ [12, 13, 14, 25, 26] (by decide +kernel) (by decide +kernel)
set_option maxRecDepth 20000 in
theorem gX5_letter_X2_append : GoodIn wsX5_letter (wsV RX5 57 RX2 yX2_append wsX2_append) := goodIn_app (goodIn_of _ (by decide +kernel)) ggX5_letter_X2_append
theorem dX5_letter_0 : decode cX5_letter 0 = .ok (.iload_n 1, 1) := by decide +kernel
theorem dX5_letter_1 : decode cX5_letter 1 = .ok (.ifCond .ge 10, 3) := by decide +kernel
theorem dX5_letter_4 : decode cX5_letter 4 = .ok (.aload_n 0, 1) := by decide +kernel
theorem dX5_letter_5 : decode cX5_letter 5 = .ok (.bipush (-4), 2) := by decide +kernel
theorem dX5_letter_7 : decode cX5_letter 7 = .ok (.invokevirtual 49, 3) := by decide +kernel
theorem dX5_letter_10 : decode cX5_letter 10 = .ok (.ireturn, 1) := by decide +kernel
theorem dX5_letter_11 : decode cX5_letter 11 = .ok (.iload_n 1, 1) := by decide +kernel
theorem dX5_letter_12 : decode cX5_letter 12 = .ok (.sipush 255, 3) := by decide +kernel
theorem dX5_letter_15 : decode cX5_letter 15 = .ok (.if_icmp .gt 15, 3) := by decide +kernel
theorem dX5_letter_18 : decode cX5_letter 18 = .ok (.aload_n 0, 1) := by decide +kernel
theorem dX5_letter_19 : decode cX5_letter 19 = .ok (.getfield 25, 3) := by decide +kernel
theorem dX5_letter_22 : decode cX5_letter 22 = .ok (.getfield 53, 3) := by decide +kernel
theorem dX5_letter_25 : decode cX5_letter 25 = .ok (.bipush 64, 2) := by decide +kernel
theorem dX5_letter_27 : decode cX5_letter 27 = .ok (.if_icmp .lt 10, 3) := by decide +kernel
theorem dX5_letter_30 : decode cX5_letter 30 = .ok (.aload_n 0, 1) := by decide +kernel
theorem dX5_letter_31 : decode cX5_letter 31 = .ok (.bipush (-6), 2) := by decide +kernel
theorem dX5_letter_33 : decode cX5_letter 33 = .ok (.invokevirtual 49, 3) := by decide +kernel
theorem dX5_letter_36 : decode cX5_letter 36 = .ok (.ireturn, 1) := by decide +kernel
theorem dX5_letter_37 : decode cX5_letter 37 = .ok (.aload_n 0, 1) := by decide +kernel
theorem dX5_letter_38 : decode cX5_letter 38 = .ok (.getfield 25, 3) := by decide +kernel
theorem dX5_letter_41 : decode cX5_letter 41 = .ok (.iload_n 1, 1) := by decide +kernel
theorem dX5_letter_42 : decode cX5_letter 42 = .ok (.invokevirtual 57, 3) := by decide +kernel
theorem dX5_letter_45 : decode cX5_letter 45 = .ok (.aload_n 0, 1) := by decide +kernel
theorem dX5_letter_46 : decode cX5_letter 46 = .ok (.getfield 25, 3) := by decide +kernel
theorem dX5_letter_49 : decode cX5_letter 49 = .ok (.getfield 53, 3) := by decide +kernel
theorem dX5_letter_52 : decode cX5_letter 52 = .ok (.ireturn, 1) := by decide +kernel
set_option maxRecDepth 20000 in
theorem ggX5_land_X2_firstFault : GoodIn wsX5_land wsX2_firstFault := goodIn_r _ [6, 7, 8, 9, 10, 5, 11, 12, 13, 14, 15, 16, 17, 18, 19, 20, 21, 22, 23, 24, 25, 26, 27, 95, 96] (by decide +kernel) (by decide +kernel)
set_option maxRecDepth 20000 in
theorem gX5_land_X2_firstFault : GoodIn wsX5_land (wsV RX5 61 RX2 yX2_firstFault wsX2_firstFault) := goodIn_app (goodIn_of _ (by decide +kernel)) ggX5_land_X2_firstFault
set_option maxRecDepth 20000 in
theorem ggX5_land_X5_tellText : GoodIn wsX5_land wsX5_tellText := goodIn_r _ [32, 33, 34, 1, 35, 36, 37, 38, 39, 40, 41, 42, 43, 44, 45, 46, 47, 48, 49, 50, 51, 52, 53, 54, 55, 56, 9, 10, 5, 11, 12, 13, 14, 15, 7, 16, 17, 18, 19, 20, 21, 22, 23, 24, 25, 26, 27, 57, 58, 59, 60, 61, 62, 63, 64, 65, 66, 67, 68, 69, 70, 71, 72, 73, 74, 75, 76, 77, 78, 79, 80, 81, 82, 83, 84, 85, 86, 87, 88, 89, 90, 91, 92, 93, 94, 95, 96, 97, 98, 99, 100, 101, 102, 103, 104] (by decide +kernel) (by decide +kernel)
set_option maxRecDepth 20000 in
theorem gX5_land_X5_tellText : GoodIn wsX5_land (wsV RX5 65 RX5 yX5_tellText wsX5_tellText) := goodIn_app (goodIn_of _ (by decide +kernel)) ggX5_land_X5_tellText
theorem dX5_land_0 : decode cX5_land 0 = .ok (.aload_n 0, 1) := by decide +kernel
theorem dX5_land_1 : decode cX5_land 1 = .ok (.getfield 25, 3) := by decide +kernel
theorem dX5_land_4 : decode cX5_land 4 = .ok (.invokevirtual 61, 3) := by decide +kernel
theorem dX5_land_7 : decode cX5_land 7 = .ok (.istore_n 1, 1) := by decide +kernel
theorem dX5_land_8 : decode cX5_land 8 = .ok (.iload_n 1, 1) := by decide +kernel
theorem dX5_land_9 : decode cX5_land 9 = .ok (.ifCond .lt 11, 3) := by decide +kernel
theorem dX5_land_12 : decode cX5_land 12 = .ok (.sipush (-1000), 3) := by decide +kernel
theorem dX5_land_15 : decode cX5_land 15 = .ok (.iload_n 1, 1) := by decide +kernel
theorem dX5_land_16 : decode cX5_land 16 = .ok (.isub, 1) := by decide +kernel
theorem dX5_land_17 : decode cX5_land 17 = .ok (.goto 7, 3) := by decide +kernel
theorem dX5_land_20 : decode cX5_land 20 = .ok (.aload_n 0, 1) := by decide +kernel
theorem dX5_land_21 : decode cX5_land 21 = .ok (.invokevirtual 65, 3) := by decide +kernel
theorem dX5_land_24 : decode cX5_land 24 = .ok (.istore_n 2, 1) := by decide +kernel
theorem dX5_land_25 : decode cX5_land 25 = .ok (.aload_n 0, 1) := by decide +kernel
theorem dX5_land_26 : decode cX5_land 26 = .ok (.getfield 25, 3) := by decide +kernel
theorem dX5_land_29 : decode cX5_land 29 = .ok (.iconst 0, 1) := by decide +kernel
theorem dX5_land_30 : decode cX5_land 30 = .ok (.putfield 53, 3) := by decide +kernel
theorem dX5_land_33 : decode cX5_land 33 = .ok (.iload_n 2, 1) := by decide +kernel
theorem dX5_land_34 : decode cX5_land 34 = .ok (.ireturn, 1) := by decide +kernel
set_option maxRecDepth 20000 in
theorem ggX5_law_X5_refuse : GoodIn wsX5_law wsX5_refuse := goodIn_r _ [6, 7, 8, 9, 10, 11, 12, 13, 14, 15, 16, 17] (by decide +kernel) (by decide +kernel)
set_option maxRecDepth 20000 in
theorem gX5_law_X5_refuse : GoodIn wsX5_law (wsV RX5 49 RX5 yX5_refuse wsX5_refuse) := goodIn_app (goodIn_of _ (by decide +kernel)) ggX5_law_X5_refuse
theorem dX5_law_0 : decode cX5_law 0 = .ok (.iload_n 1, 1) := by decide +kernel
theorem dX5_law_1 : decode cX5_law 1 = .ok (.ifCond .lt 9, 3) := by decide +kernel
theorem dX5_law_4 : decode cX5_law 4 = .ok (.iload_n 1, 1) := by decide +kernel
theorem dX5_law_5 : decode cX5_law 5 = .ok (.bipush 6, 2) := by decide +kernel
theorem dX5_law_7 : decode cX5_law 7 = .ok (.if_icmp .lt 10, 3) := by decide +kernel
theorem dX5_law_10 : decode cX5_law 10 = .ok (.aload_n 0, 1) := by decide +kernel
theorem dX5_law_11 : decode cX5_law 11 = .ok (.bipush (-2), 2) := by decide +kernel
theorem dX5_law_13 : decode cX5_law 13 = .ok (.invokevirtual 49, 3) := by decide +kernel
theorem dX5_law_16 : decode cX5_law 16 = .ok (.ireturn, 1) := by decide +kernel
theorem dX5_law_17 : decode cX5_law 17 = .ok (.iload_n 2, 1) := by decide +kernel
theorem dX5_law_18 : decode cX5_law 18 = .ok (.iconst 1, 1) := by decide +kernel
theorem dX5_law_19 : decode cX5_law 19 = .ok (.if_icmp .ge 10, 3) := by decide +kernel
theorem dX5_law_22 : decode cX5_law 22 = .ok (.aload_n 0, 1) := by decide +kernel
theorem dX5_law_23 : decode cX5_law 23 = .ok (.bipush (-4), 2) := by decide +kernel
theorem dX5_law_25 : decode cX5_law 25 = .ok (.invokevirtual 49, 3) := by decide +kernel
theorem dX5_law_28 : decode cX5_law 28 = .ok (.ireturn, 1) := by decide +kernel
theorem dX5_law_29 : decode cX5_law 29 = .ok (.iload_n 2, 1) := by decide +kernel
theorem dX5_law_30 : decode cX5_law 30 = .ok (.bipush 9, 2) := by decide +kernel
theorem dX5_law_32 : decode cX5_law 32 = .ok (.if_icmp .le 10, 3) := by decide +kernel
theorem dX5_law_35 : decode cX5_law 35 = .ok (.aload_n 0, 1) := by decide +kernel
theorem dX5_law_36 : decode cX5_law 36 = .ok (.bipush (-6), 2) := by decide +kernel
theorem dX5_law_38 : decode cX5_law 38 = .ok (.invokevirtual 49, 3) := by decide +kernel
theorem dX5_law_41 : decode cX5_law 41 = .ok (.ireturn, 1) := by decide +kernel
theorem dX5_law_42 : decode cX5_law 42 = .ok (.bipush 10, 2) := by decide +kernel
theorem dX5_law_44 : decode cX5_law 44 = .ok (.aload_n 0, 1) := by decide +kernel
theorem dX5_law_45 : decode cX5_law 45 = .ok (.getfield 10, 3) := by decide +kernel
theorem dX5_law_48 : decode cX5_law 48 = .ok (.getfield 68, 3) := by decide +kernel
theorem dX5_law_51 : decode cX5_law 51 = .ok (.imul, 1) := by decide +kernel
theorem dX5_law_52 : decode cX5_law 52 = .ok (.aload_n 0, 1) := by decide +kernel
theorem dX5_law_53 : decode cX5_law 53 = .ok (.getfield 10, 3) := by decide +kernel
theorem dX5_law_56 : decode cX5_law 56 = .ok (.getfield 71, 3) := by decide +kernel
theorem dX5_law_59 : decode cX5_law 59 = .ok (.iadd, 1) := by decide +kernel
theorem dX5_law_60 : decode cX5_law 60 = .ok (.istore_n 3, 1) := by decide +kernel
theorem dX5_law_61 : decode cX5_law 61 = .ok (.aload_n 0, 1) := by decide +kernel
theorem dX5_law_62 : decode cX5_law 62 = .ok (.getfield 10, 3) := by decide +kernel
theorem dX5_law_65 : decode cX5_law 65 = .ok (.iload_n 1, 1) := by decide +kernel
theorem dX5_law_66 : decode cX5_law 66 = .ok (.putfield 68, 3) := by decide +kernel
theorem dX5_law_69 : decode cX5_law 69 = .ok (.aload_n 0, 1) := by decide +kernel
theorem dX5_law_70 : decode cX5_law 70 = .ok (.getfield 10, 3) := by decide +kernel
theorem dX5_law_73 : decode cX5_law 73 = .ok (.iload_n 2, 1) := by decide +kernel
theorem dX5_law_74 : decode cX5_law 74 = .ok (.putfield 71, 3) := by decide +kernel
theorem dX5_law_77 : decode cX5_law 77 = .ok (.iload_n 3, 1) := by decide +kernel
theorem dX5_law_78 : decode cX5_law 78 = .ok (.ireturn, 1) := by decide +kernel
set_option maxRecDepth 20000 in
theorem ggX5_set_X5_refuse : GoodIn wsX5_set wsX5_refuse := goodIn_r _ [6, 7, 28, 29, 30, 31, 32, 33, 34, 35, 36, 37] (by decide +kernel) (by decide +kernel)
set_option maxRecDepth 20000 in
theorem gX5_set_X5_refuse : GoodIn wsX5_set (wsV RX5 49 RX5 yX5_refuse wsX5_refuse) := goodIn_app (goodIn_of _ (by decide +kernel)) ggX5_set_X5_refuse
set_option maxRecDepth 20000 in
theorem ggX5_set_X3_least : GoodIn wsX5_set wsX3_least := goodIn_r _ [11] (by decide +kernel) (by decide +kernel)
set_option maxRecDepth 20000 in
theorem gX5_set_X3_least : GoodIn wsX5_set (va_wsS RX5 74 yX3_least wsX3_least) := goodIn_app (goodIn_of _ (by decide +kernel)) ggX5_set_X3_least
set_option maxRecDepth 20000 in
theorem ggX5_set_X3_greatest : GoodIn wsX5_set wsX3_greatest := goodIn_r _ [14] (by decide +kernel) (by decide +kernel)
set_option maxRecDepth 20000 in
theorem gX5_set_X3_greatest : GoodIn wsX5_set (va_wsS RX5 77 yX3_greatest wsX3_greatest) := goodIn_app (goodIn_of _ (by decide +kernel)) ggX5_set_X3_greatest
set_option maxRecDepth 20000 in
theorem ggX5_set_X3_number : GoodIn wsX5_set wsX3_number := goodIn_r _ [18, 19, 20, 21, 38, 39, 40, 41, 42, 43, 44, 45] (by decide +kernel) (by decide +kernel)
set_option maxRecDepth 20000 in
theorem gX5_set_X3_number : GoodIn wsX5_set (wsV RX5 80 RX3 yX3_number wsX3_number) := goodIn_app (goodIn_of _ (by decide +kernel)) ggX5_set_X3_number
set_option maxRecDepth 20000 in
theorem ggX5_set_X3_tellNumber : GoodIn wsX5_set wsX3_tellNumber := goodIn_r _ [25, 19, 20, 21, 26, 9, 10, 11, 27, 13, 14, 38, 39, 40, 41, 42, 43, 44, 45] (by decide +kernel) (by decide +kernel)
set_option maxRecDepth 20000 in
theorem gX5_set_X3_tellNumber : GoodIn wsX5_set (wsV RX5 83 RX3 yX3_tellNumber wsX3_tellNumber) := goodIn_app (goodIn_of _ (by decide +kernel)) ggX5_set_X3_tellNumber
theorem dX5_set_0 : decode cX5_set 0 = .ok (.iload_n 1, 1) := by decide +kernel
theorem dX5_set_1 : decode cX5_set 1 = .ok (.ifCond .lt 8, 3) := by decide +kernel
theorem dX5_set_4 : decode cX5_set 4 = .ok (.iload_n 1, 1) := by decide +kernel
theorem dX5_set_5 : decode cX5_set 5 = .ok (.iconst 2, 1) := by decide +kernel
theorem dX5_set_6 : decode cX5_set 6 = .ok (.if_icmp .le 10, 3) := by decide +kernel
theorem dX5_set_9 : decode cX5_set 9 = .ok (.aload_n 0, 1) := by decide +kernel
theorem dX5_set_10 : decode cX5_set 10 = .ok (.bipush (-2), 2) := by decide +kernel
theorem dX5_set_12 : decode cX5_set 12 = .ok (.invokevirtual 49, 3) := by decide +kernel
theorem dX5_set_15 : decode cX5_set 15 = .ok (.ireturn, 1) := by decide +kernel
theorem dX5_set_16 : decode cX5_set 16 = .ok (.iload_n 2, 1) := by decide +kernel
theorem dX5_set_17 : decode cX5_set 17 = .ok (.iload_n 1, 1) := by decide +kernel
theorem dX5_set_18 : decode cX5_set 18 = .ok (.invokestatic 74, 3) := by decide +kernel
theorem dX5_set_21 : decode cX5_set 21 = .ok (.if_icmp .ge 10, 3) := by decide +kernel
theorem dX5_set_24 : decode cX5_set 24 = .ok (.aload_n 0, 1) := by decide +kernel
theorem dX5_set_25 : decode cX5_set 25 = .ok (.bipush (-4), 2) := by decide +kernel
theorem dX5_set_27 : decode cX5_set 27 = .ok (.invokevirtual 49, 3) := by decide +kernel
theorem dX5_set_30 : decode cX5_set 30 = .ok (.ireturn, 1) := by decide +kernel
theorem dX5_set_31 : decode cX5_set 31 = .ok (.iload_n 2, 1) := by decide +kernel
theorem dX5_set_32 : decode cX5_set 32 = .ok (.iload_n 1, 1) := by decide +kernel
theorem dX5_set_33 : decode cX5_set 33 = .ok (.invokestatic 77, 3) := by decide +kernel
theorem dX5_set_36 : decode cX5_set 36 = .ok (.if_icmp .le 10, 3) := by decide +kernel
theorem dX5_set_39 : decode cX5_set 39 = .ok (.aload_n 0, 1) := by decide +kernel
theorem dX5_set_40 : decode cX5_set 40 = .ok (.bipush (-6), 2) := by decide +kernel
theorem dX5_set_42 : decode cX5_set 42 = .ok (.invokevirtual 49, 3) := by decide +kernel
theorem dX5_set_45 : decode cX5_set 45 = .ok (.ireturn, 1) := by decide +kernel
theorem dX5_set_46 : decode cX5_set 46 = .ok (.aload_n 0, 1) := by decide +kernel
theorem dX5_set_47 : decode cX5_set 47 = .ok (.getfield 10, 3) := by decide +kernel
theorem dX5_set_50 : decode cX5_set 50 = .ok (.iload_n 1, 1) := by decide +kernel
theorem dX5_set_51 : decode cX5_set 51 = .ok (.invokevirtual 80, 3) := by decide +kernel
theorem dX5_set_54 : decode cX5_set 54 = .ok (.istore_n 3, 1) := by decide +kernel
theorem dX5_set_55 : decode cX5_set 55 = .ok (.aload_n 0, 1) := by decide +kernel
theorem dX5_set_56 : decode cX5_set 56 = .ok (.getfield 10, 3) := by decide +kernel
theorem dX5_set_59 : decode cX5_set 59 = .ok (.iload_n 1, 1) := by decide +kernel
theorem dX5_set_60 : decode cX5_set 60 = .ok (.iload_n 2, 1) := by decide +kernel
theorem dX5_set_61 : decode cX5_set 61 = .ok (.invokevirtual 83, 3) := by decide +kernel
theorem dX5_set_64 : decode cX5_set 64 = .ok (.pop, 1) := by decide +kernel
theorem dX5_set_65 : decode cX5_set 65 = .ok (.iload_n 3, 1) := by decide +kernel
theorem dX5_set_66 : decode cX5_set 66 = .ok (.ireturn, 1) := by decide +kernel
set_option maxRecDepth 20000 in
theorem ggX5_stops_X5_refuse : GoodIn wsX5_stops wsX5_refuse := goodIn_r _ [6, 7, 11, 12, 13, 14, 15, 16, 17, 18, 19, 20] (by decide +kernel) (by decide +kernel)
set_option maxRecDepth 20000 in
theorem gX5_stops_X5_refuse : GoodIn wsX5_stops (wsV RX5 49 RX5 yX5_refuse wsX5_refuse) := goodIn_app (goodIn_of _ (by decide +kernel)) ggX5_stops_X5_refuse
set_option maxRecDepth 20000 in
theorem ggX5_stops_X5_lawStops : GoodIn wsX5_stops wsX5_lawStops := goodIn_r _ [10] (by decide +kernel) (by decide +kernel)
set_option maxRecDepth 20000 in
theorem gX5_stops_X5_lawStops : GoodIn wsX5_stops (va_wsS RX5 87 yX5_lawStops wsX5_lawStops) := goodIn_app (goodIn_of _ (by decide +kernel)) ggX5_stops_X5_lawStops
theorem dX5_stops_0 : decode cX5_stops 0 = .ok (.iload_n 1, 1) := by decide +kernel
theorem dX5_stops_1 : decode cX5_stops 1 = .ok (.ifCond .lt 11, 3) := by decide +kernel
theorem dX5_stops_4 : decode cX5_stops 4 = .ok (.iload_n 2, 1) := by decide +kernel
theorem dX5_stops_5 : decode cX5_stops 5 = .ok (.ifCond .lt 7, 3) := by decide +kernel
theorem dX5_stops_8 : decode cX5_stops 8 = .ok (.iload_n 3, 1) := by decide +kernel
theorem dX5_stops_9 : decode cX5_stops 9 = .ok (.ifCond .ge 10, 3) := by decide +kernel
theorem dX5_stops_12 : decode cX5_stops 12 = .ok (.aload_n 0, 1) := by decide +kernel
theorem dX5_stops_13 : decode cX5_stops 13 = .ok (.bipush (-4), 2) := by decide +kernel
theorem dX5_stops_15 : decode cX5_stops 15 = .ok (.invokevirtual 49, 3) := by decide +kernel
theorem dX5_stops_18 : decode cX5_stops 18 = .ok (.ireturn, 1) := by decide +kernel
theorem dX5_stops_19 : decode cX5_stops 19 = .ok (.iload_n 1, 1) := by decide +kernel
theorem dX5_stops_20 : decode cX5_stops 20 = .ok (.bipush 10, 2) := by decide +kernel
theorem dX5_stops_22 : decode cX5_stops 22 = .ok (.if_icmp .gt 15, 3) := by decide +kernel
theorem dX5_stops_25 : decode cX5_stops 25 = .ok (.iload_n 2, 1) := by decide +kernel
theorem dX5_stops_26 : decode cX5_stops 26 = .ok (.bipush 10, 2) := by decide +kernel
theorem dX5_stops_28 : decode cX5_stops 28 = .ok (.if_icmp .gt 9, 3) := by decide +kernel
theorem dX5_stops_31 : decode cX5_stops 31 = .ok (.iload_n 3, 1) := by decide +kernel
theorem dX5_stops_32 : decode cX5_stops 32 = .ok (.bipush 10, 2) := by decide +kernel
theorem dX5_stops_34 : decode cX5_stops 34 = .ok (.if_icmp .le 10, 3) := by decide +kernel
theorem dX5_stops_37 : decode cX5_stops 37 = .ok (.aload_n 0, 1) := by decide +kernel
theorem dX5_stops_38 : decode cX5_stops 38 = .ok (.bipush (-6), 2) := by decide +kernel
theorem dX5_stops_40 : decode cX5_stops 40 = .ok (.invokevirtual 49, 3) := by decide +kernel
theorem dX5_stops_43 : decode cX5_stops 43 = .ok (.ireturn, 1) := by decide +kernel
theorem dX5_stops_44 : decode cX5_stops 44 = .ok (.iload_n 3, 1) := by decide +kernel
theorem dX5_stops_45 : decode cX5_stops 45 = .ok (.iload_n 1, 1) := by decide +kernel
theorem dX5_stops_46 : decode cX5_stops 46 = .ok (.if_icmp .gt 19, 3) := by decide +kernel
theorem dX5_stops_49 : decode cX5_stops 49 = .ok (.iload_n 1, 1) := by decide +kernel
theorem dX5_stops_50 : decode cX5_stops 50 = .ok (.ifCond .ne 7, 3) := by decide +kernel
theorem dX5_stops_53 : decode cX5_stops 53 = .ok (.iload_n 2, 1) := by decide +kernel
theorem dX5_stops_54 : decode cX5_stops 54 = .ok (.ifCond .eq 11, 3) := by decide +kernel
theorem dX5_stops_57 : decode cX5_stops 57 = .ok (.iload_n 3, 1) := by decide +kernel
theorem dX5_stops_58 : decode cX5_stops 58 = .ok (.ifCond .ne 14, 3) := by decide +kernel
theorem dX5_stops_61 : decode cX5_stops 61 = .ok (.iload_n 2, 1) := by decide +kernel
theorem dX5_stops_62 : decode cX5_stops 62 = .ok (.ifCond .ne 10, 3) := by decide +kernel
theorem dX5_stops_65 : decode cX5_stops 65 = .ok (.aload_n 0, 1) := by decide +kernel
theorem dX5_stops_66 : decode cX5_stops 66 = .ok (.bipush (-3), 2) := by decide +kernel
theorem dX5_stops_68 : decode cX5_stops 68 = .ok (.invokevirtual 49, 3) := by decide +kernel
theorem dX5_stops_71 : decode cX5_stops 71 = .ok (.ireturn, 1) := by decide +kernel
theorem dX5_stops_72 : decode cX5_stops 72 = .ok (.aload_n 0, 1) := by decide +kernel
theorem dX5_stops_73 : decode cX5_stops 73 = .ok (.getfield 10, 3) := by decide +kernel
theorem dX5_stops_76 : decode cX5_stops 76 = .ok (.getfield 68, 3) := by decide +kernel
theorem dX5_stops_79 : decode cX5_stops 79 = .ok (.aload_n 0, 1) := by decide +kernel
theorem dX5_stops_80 : decode cX5_stops 80 = .ok (.getfield 10, 3) := by decide +kernel
theorem dX5_stops_83 : decode cX5_stops 83 = .ok (.getfield 71, 3) := by decide +kernel
theorem dX5_stops_86 : decode cX5_stops 86 = .ok (.iload_n 1, 1) := by decide +kernel
theorem dX5_stops_87 : decode cX5_stops 87 = .ok (.iload_n 2, 1) := by decide +kernel
theorem dX5_stops_88 : decode cX5_stops 88 = .ok (.iload_n 3, 1) := by decide +kernel
theorem dX5_stops_89 : decode cX5_stops 89 = .ok (.invokestatic 87, 3) := by decide +kernel
theorem dX5_stops_92 : decode cX5_stops 92 = .ok (.ifCond .eq 7, 3) := by decide +kernel
theorem dX5_stops_95 : decode cX5_stops 95 = .ok (.iconst 1, 1) := by decide +kernel
theorem dX5_stops_96 : decode cX5_stops 96 = .ok (.goto 4, 3) := by decide +kernel
theorem dX5_stops_99 : decode cX5_stops 99 = .ok (.iconst 0, 1) := by decide +kernel
theorem dX5_stops_100 : decode cX5_stops 100 = .ok (.ireturn, 1) := by decide +kernel
set_option maxRecDepth 20000 in
theorem ggX5_mean_X5_isNoBit : GoodIn wsX5_mean wsX5_isNoBit := goodIn_r _ [5] (by decide +kernel) (by decide +kernel)
set_option maxRecDepth 20000 in
theorem gX5_mean_X5_isNoBit : GoodIn wsX5_mean (va_wsS RX5 91 yX5_isNoBit wsX5_isNoBit) := goodIn_app (goodIn_of _ (by decide +kernel)) ggX5_mean_X5_isNoBit
set_option maxRecDepth 20000 in
theorem ggX5_mean_X5_refuseLong : GoodIn wsX5_mean wsX5_refuseLong := goodIn_r _ [9, 10, 11, 12, 13, 4, 14, 15, 105, 106, 107, 108, 109, 110, 111, 112, 113, 114] (by decide +kernel) (by decide +kernel)
set_option maxRecDepth 20000 in
theorem gX5_mean_X5_refuseLong : GoodIn wsX5_mean (wsV RX5 95 RX5 yX5_refuseLong wsX5_refuseLong) := goodIn_app (goodIn_of _ (by decide +kernel)) ggX5_mean_X5_refuseLong
set_option maxRecDepth 20000 in
theorem ggX5_mean_X5_tallyNow : GoodIn wsX5_mean wsX5_tallyNow := goodIn_r _ [19, 20, 21, 22, 23, 4, 24, 25, 26, 27, 28, 29, 30, 31, 32, 33, 34, 35, 36, 37, 38, 39, 40, 41, 42, 43, 44, 45, 46, 47, 48, 49, 50, 51, 52, 53, 54, 55, 56, 57, 58, 59, 60, 61, 62, 63, 64, 65, 66, 67, 68, 69, 70, 71, 72, 73, 74, 75, 76, 77, 78, 79, 80, 81, 82, 83, 84, 85, 86, 87, 105, 106, 107, 108, 109, 110, 111, 112, 113, 114, 115, 116, 117, 118, 119, 120, 121, 122, 123, 124, 125, 126, 127, 128, 129, 130, 131, 132] (by decide +kernel) (by decide +kernel)
set_option maxRecDepth 20000 in
theorem gX5_mean_X5_tallyNow : GoodIn wsX5_mean (wsV RX5 99 RX5 yX5_tallyNow wsX5_tallyNow) := goodIn_app (goodIn_of _ (by decide +kernel)) ggX5_mean_X5_tallyNow
set_option maxRecDepth 20000 in
theorem ggX5_mean_X1_sum : GoodIn wsX5_mean wsX1_sum := goodIn_r _ [91, 34, 92, 93, 94, 30, 95, 37, 68, 69, 70, 42, 71, 44, 61, 62, 63, 96, 97, 98, 123, 124, 125, 126, 127, 128, 129, 130] (by decide +kernel) (by decide +kernel)
set_option maxRecDepth 20000 in
theorem gX5_mean_X1_sum : GoodIn wsX5_mean (wsV RX5 103 RX1 yX1_sum wsX1_sum) := goodIn_app (goodIn_of _ (by decide +kernel)) ggX5_mean_X1_sum
set_option maxRecDepth 20000 in
theorem ggX5_mean_X5_fraction : GoodIn wsX5_mean wsX5_fraction := goodIn_r _ [101, 102, 103, 4, 104] (by decide +kernel) (by decide +kernel)
set_option maxRecDepth 20000 in
theorem gX5_mean_X5_fraction : GoodIn wsX5_mean (va_wsS RX5 109 yX5_fraction wsX5_fraction) := goodIn_app (goodIn_of _ (by decide +kernel)) ggX5_mean_X5_fraction
theorem dX5_mean_0 : decode cX5_mean 0 = .ok (.iload_n 1, 1) := by decide +kernel
theorem dX5_mean_1 : decode cX5_mean 1 = .ok (.ifCond .lt 15, 3) := by decide +kernel
theorem dX5_mean_4 : decode cX5_mean 4 = .ok (.iload_n 1, 1) := by decide +kernel
theorem dX5_mean_5 : decode cX5_mean 5 = .ok (.iconst 2, 1) := by decide +kernel
theorem dX5_mean_6 : decode cX5_mean 6 = .ok (.if_icmp .gt 10, 3) := by decide +kernel
theorem dX5_mean_9 : decode cX5_mean 9 = .ok (.iload_n 2, 1) := by decide +kernel
theorem dX5_mean_10 : decode cX5_mean 10 = .ok (.invokestatic 91, 3) := by decide +kernel
theorem dX5_mean_13 : decode cX5_mean 13 = .ok (.ifCond .eq 10, 3) := by decide +kernel
theorem dX5_mean_16 : decode cX5_mean 16 = .ok (.aload_n 0, 1) := by decide +kernel
theorem dX5_mean_17 : decode cX5_mean 17 = .ok (.bipush (-2), 2) := by decide +kernel
theorem dX5_mean_19 : decode cX5_mean 19 = .ok (.invokevirtual 95, 3) := by decide +kernel
theorem dX5_mean_22 : decode cX5_mean 22 = .ok (.lreturn, 1) := by decide +kernel
theorem dX5_mean_23 : decode cX5_mean 23 = .ok (.aload_n 0, 1) := by decide +kernel
theorem dX5_mean_24 : decode cX5_mean 24 = .ok (.invokevirtual 99, 3) := by decide +kernel
theorem dX5_mean_27 : decode cX5_mean 27 = .ok (.iload_n 1, 1) := by decide +kernel
theorem dX5_mean_28 : decode cX5_mean 28 = .ok (.iconst 0, 1) := by decide +kernel
theorem dX5_mean_29 : decode cX5_mean 29 = .ok (.invokevirtual 103, 3) := by decide +kernel
theorem dX5_mean_32 : decode cX5_mean 32 = .ok (.ldc2_w 107, 3) := by decide +kernel
theorem dX5_mean_35 : decode cX5_mean 35 = .ok (.iload_n 2, 1) := by decide +kernel
theorem dX5_mean_36 : decode cX5_mean 36 = .ok (.invokestatic 109, 3) := by decide +kernel
theorem dX5_mean_39 : decode cX5_mean 39 = .ok (.lreturn, 1) := by decide +kernel
set_option maxRecDepth 20000 in
theorem ggX5_share_X5_isNoBit : GoodIn wsX5_share wsX5_isNoBit := goodIn_r _ [5] (by decide +kernel) (by decide +kernel)
set_option maxRecDepth 20000 in
theorem gX5_share_X5_isNoBit : GoodIn wsX5_share (va_wsS RX5 91 yX5_isNoBit wsX5_isNoBit) := goodIn_app (goodIn_of _ (by decide +kernel)) ggX5_share_X5_isNoBit
set_option maxRecDepth 20000 in
theorem ggX5_share_X5_refuseLong : GoodIn wsX5_share wsX5_refuseLong := goodIn_r _ [9, 10, 11, 12, 13, 4, 14, 15, 105, 106, 107, 108, 109, 110, 111, 112, 113, 114] (by decide +kernel) (by decide +kernel)
set_option maxRecDepth 20000 in
theorem gX5_share_X5_refuseLong : GoodIn wsX5_share (wsV RX5 95 RX5 yX5_refuseLong wsX5_refuseLong) := goodIn_app (goodIn_of _ (by decide +kernel)) ggX5_share_X5_refuseLong
set_option maxRecDepth 20000 in
theorem ggX5_share_X5_tallyNow : GoodIn wsX5_share wsX5_tallyNow := goodIn_r _ [19, 20, 21, 22, 23, 4, 24, 25, 26, 27, 28, 29, 30, 31, 32, 33, 34, 35, 36, 37, 38, 39, 40, 41, 42, 43, 44, 45, 46, 47, 48, 49, 50, 51, 52, 53, 54, 55, 56, 57, 58, 59, 60, 61, 62, 63, 64, 65, 66, 67, 68, 69, 70, 71, 72, 73, 74, 75, 76, 77, 78, 79, 80, 81, 82, 83, 84, 85, 86, 87, 105, 106, 107, 108, 109, 110, 111, 112, 113, 114, 115, 116, 117, 118, 119, 120, 121, 122, 123, 124, 125, 126, 127, 128, 129, 130, 131, 132] (by decide +kernel) (by decide +kernel)
set_option maxRecDepth 20000 in
theorem gX5_share_X5_tallyNow : GoodIn wsX5_share (wsV RX5 99 RX5 yX5_tallyNow wsX5_tallyNow) := goodIn_app (goodIn_of _ (by decide +kernel)) ggX5_share_X5_tallyNow
set_option maxRecDepth 20000 in
theorem ggX5_share_X1_sum : GoodIn wsX5_share wsX1_sum := goodIn_r _ [91, 34, 92, 93, 94, 30, 95, 37, 68, 69, 70, 42, 71, 44, 61, 62, 63, 96, 97, 98, 123, 124, 125, 126, 127, 128, 129, 130] (by decide +kernel) (by decide +kernel)
set_option maxRecDepth 20000 in
theorem gX5_share_X1_sum : GoodIn wsX5_share (wsV RX5 103 RX1 yX1_sum wsX1_sum) := goodIn_app (goodIn_of _ (by decide +kernel)) ggX5_share_X1_sum
set_option maxRecDepth 20000 in
theorem ggX5_share_X5_fraction : GoodIn wsX5_share wsX5_fraction := goodIn_r _ [101, 102, 103, 4, 104] (by decide +kernel) (by decide +kernel)
set_option maxRecDepth 20000 in
theorem gX5_share_X5_fraction : GoodIn wsX5_share (va_wsS RX5 109 yX5_fraction wsX5_fraction) := goodIn_app (goodIn_of _ (by decide +kernel)) ggX5_share_X5_fraction
theorem dX5_share_0 : decode cX5_share 0 = .ok (.iload_n 1, 1) := by decide +kernel
theorem dX5_share_1 : decode cX5_share 1 = .ok (.invokestatic 91, 3) := by decide +kernel
theorem dX5_share_4 : decode cX5_share 4 = .ok (.ifCond .eq 10, 3) := by decide +kernel
theorem dX5_share_7 : decode cX5_share 7 = .ok (.aload_n 0, 1) := by decide +kernel
theorem dX5_share_8 : decode cX5_share 8 = .ok (.bipush (-2), 2) := by decide +kernel
theorem dX5_share_10 : decode cX5_share 10 = .ok (.invokevirtual 95, 3) := by decide +kernel
theorem dX5_share_13 : decode cX5_share 13 = .ok (.lreturn, 1) := by decide +kernel
theorem dX5_share_14 : decode cX5_share 14 = .ok (.aload_n 0, 1) := by decide +kernel
theorem dX5_share_15 : decode cX5_share 15 = .ok (.invokevirtual 99, 3) := by decide +kernel
theorem dX5_share_18 : decode cX5_share 18 = .ok (.bipush 6, 2) := by decide +kernel
theorem dX5_share_20 : decode cX5_share 20 = .ok (.iconst 0, 1) := by decide +kernel
theorem dX5_share_21 : decode cX5_share 21 = .ok (.invokevirtual 103, 3) := by decide +kernel
theorem dX5_share_24 : decode cX5_share 24 = .ok (.ldc2_w 113, 3) := by decide +kernel
theorem dX5_share_27 : decode cX5_share 27 = .ok (.iload_n 1, 1) := by decide +kernel
theorem dX5_share_28 : decode cX5_share 28 = .ok (.invokestatic 109, 3) := by decide +kernel
theorem dX5_share_31 : decode cX5_share 31 = .ok (.lreturn, 1) := by decide +kernel
set_option maxRecDepth 20000 in
theorem ggX5_all_X5_isNoBit : GoodIn wsX5_all wsX5_isNoBit := goodIn_r _ [4] (by decide +kernel) (by decide +kernel)
set_option maxRecDepth 20000 in
theorem gX5_all_X5_isNoBit : GoodIn wsX5_all (va_wsS RX5 91 yX5_isNoBit wsX5_isNoBit) := goodIn_app (goodIn_of _ (by decide +kernel)) ggX5_all_X5_isNoBit
set_option maxRecDepth 20000 in
theorem ggX5_all_X5_refuseLong : GoodIn wsX5_all wsX5_refuseLong := goodIn_r _ [8, 9, 10, 11, 12, 3, 13, 14, 104, 105, 106, 107, 108, 109, 110, 111, 112, 113] (by decide +kernel) (by decide +kernel)
set_option maxRecDepth 20000 in
theorem gX5_all_X5_refuseLong : GoodIn wsX5_all (wsV RX5 95 RX5 yX5_refuseLong wsX5_refuseLong) := goodIn_app (goodIn_of _ (by decide +kernel)) ggX5_all_X5_refuseLong
set_option maxRecDepth 20000 in
theorem ggX5_all_X5_tallyNow : GoodIn wsX5_all wsX5_tallyNow := goodIn_r _ [18, 19, 20, 21, 22, 3, 23, 24, 25, 26, 27, 28, 29, 30, 31, 32, 33, 34, 35, 36, 37, 38, 39, 40, 41, 42, 43, 44, 45, 46, 47, 48, 49, 50, 51, 52, 53, 54, 55, 56, 57, 58, 59, 60, 61, 62, 63, 64, 65, 66, 67, 68, 69, 70, 71, 72, 73, 74, 75, 76, 77, 78, 79, 80, 81, 82, 83, 84, 85, 86, 104, 105, 106, 107, 108, 109, 110, 111, 112, 113, 114, 115, 116, 117, 118, 119, 120, 121, 122, 123, 124, 125, 126, 127, 128, 129, 130, 131] (by decide +kernel) (by decide +kernel)
set_option maxRecDepth 20000 in
theorem gX5_all_X5_tallyNow : GoodIn wsX5_all (wsV RX5 99 RX5 yX5_tallyNow wsX5_tallyNow) := goodIn_app (goodIn_of _ (by decide +kernel)) ggX5_all_X5_tallyNow
set_option maxRecDepth 20000 in
theorem ggX5_all_X1_sum : GoodIn wsX5_all wsX1_sum := goodIn_r _ [90, 33, 91, 92, 93, 29, 94, 36, 67, 68, 69, 41, 70, 43, 60, 61, 62, 95, 96, 97, 122, 123, 124, 125, 126, 127, 128, 129] (by decide +kernel) (by decide +kernel)
set_option maxRecDepth 20000 in
theorem gX5_all_X1_sum : GoodIn wsX5_all (wsV RX5 103 RX1 yX1_sum wsX1_sum) := goodIn_app (goodIn_of _ (by decide +kernel)) ggX5_all_X1_sum
set_option maxRecDepth 20000 in
theorem ggX5_all_X5_fraction : GoodIn wsX5_all wsX5_fraction := goodIn_r _ [100, 101, 102, 3, 103] (by decide +kernel) (by decide +kernel)
set_option maxRecDepth 20000 in
theorem gX5_all_X5_fraction : GoodIn wsX5_all (va_wsS RX5 109 yX5_fraction wsX5_fraction) := goodIn_app (goodIn_of _ (by decide +kernel)) ggX5_all_X5_fraction
theorem dX5_all_0 : decode cX5_all 0 = .ok (.iload_n 1, 1) := by decide +kernel
theorem dX5_all_1 : decode cX5_all 1 = .ok (.invokestatic 91, 3) := by decide +kernel
theorem dX5_all_4 : decode cX5_all 4 = .ok (.ifCond .eq 10, 3) := by decide +kernel
theorem dX5_all_7 : decode cX5_all 7 = .ok (.aload_n 0, 1) := by decide +kernel
theorem dX5_all_8 : decode cX5_all 8 = .ok (.bipush (-2), 2) := by decide +kernel
theorem dX5_all_10 : decode cX5_all 10 = .ok (.invokevirtual 95, 3) := by decide +kernel
theorem dX5_all_13 : decode cX5_all 13 = .ok (.lreturn, 1) := by decide +kernel
theorem dX5_all_14 : decode cX5_all 14 = .ok (.aload_n 0, 1) := by decide +kernel
theorem dX5_all_15 : decode cX5_all 15 = .ok (.invokevirtual 99, 3) := by decide +kernel
theorem dX5_all_18 : decode cX5_all 18 = .ok (.astore_n 2, 1) := by decide +kernel
theorem dX5_all_19 : decode cX5_all 19 = .ok (.aload_n 2, 1) := by decide +kernel
theorem dX5_all_20 : decode cX5_all 20 = .ok (.iconst 1, 1) := by decide +kernel
theorem dX5_all_21 : decode cX5_all 21 = .ok (.iconst 0, 1) := by decide +kernel
theorem dX5_all_22 : decode cX5_all 22 = .ok (.invokevirtual 103, 3) := by decide +kernel
theorem dX5_all_25 : decode cX5_all 25 = .ok (.aload_n 2, 1) := by decide +kernel
theorem dX5_all_26 : decode cX5_all 26 = .ok (.iconst 0, 1) := by decide +kernel
theorem dX5_all_27 : decode cX5_all 27 = .ok (.iconst 0, 1) := by decide +kernel
theorem dX5_all_28 : decode cX5_all 28 = .ok (.invokevirtual 103, 3) := by decide +kernel
theorem dX5_all_31 : decode cX5_all 31 = .ok (.iload_n 1, 1) := by decide +kernel
theorem dX5_all_32 : decode cX5_all 32 = .ok (.invokestatic 109, 3) := by decide +kernel
theorem dX5_all_35 : decode cX5_all 35 = .ok (.lreturn, 1) := by decide +kernel
set_option maxRecDepth 20000 in
theorem ggX5_more_X5_isNoBit : GoodIn wsX5_more wsX5_isNoBit := goodIn_r _ [5] (by decide +kernel) (by decide +kernel)
set_option maxRecDepth 20000 in
theorem gX5_more_X5_isNoBit : GoodIn wsX5_more (va_wsS RX5 91 yX5_isNoBit wsX5_isNoBit) := goodIn_app (goodIn_of _ (by decide +kernel)) ggX5_more_X5_isNoBit
set_option maxRecDepth 20000 in
theorem ggX5_more_X5_refuseLong : GoodIn wsX5_more wsX5_refuseLong := goodIn_r _ [9, 10, 11, 12, 13, 4, 14, 15, 105, 106, 107, 108, 109, 110, 111, 112, 113, 114] (by decide +kernel) (by decide +kernel)
set_option maxRecDepth 20000 in
theorem gX5_more_X5_refuseLong : GoodIn wsX5_more (wsV RX5 95 RX5 yX5_refuseLong wsX5_refuseLong) := goodIn_app (goodIn_of _ (by decide +kernel)) ggX5_more_X5_refuseLong
set_option maxRecDepth 20000 in
theorem ggX5_more_X5_tallyNow : GoodIn wsX5_more wsX5_tallyNow := goodIn_r _ [19, 20, 21, 22, 23, 4, 24, 25, 26, 27, 28, 29, 30, 31, 32, 33, 34, 35, 36, 37, 38, 39, 40, 41, 42, 43, 44, 45, 46, 47, 48, 49, 50, 51, 52, 53, 54, 55, 56, 57, 58, 59, 60, 61, 62, 63, 64, 65, 66, 67, 68, 69, 70, 71, 72, 73, 74, 75, 76, 77, 78, 79, 80, 81, 82, 83, 84, 85, 86, 87, 105, 106, 107, 108, 109, 110, 111, 112, 113, 114, 115, 116, 117, 118, 119, 120, 121, 122, 123, 124, 125, 126, 127, 128, 129, 130, 131, 132] (by decide +kernel) (by decide +kernel)
set_option maxRecDepth 20000 in
theorem gX5_more_X5_tallyNow : GoodIn wsX5_more (wsV RX5 99 RX5 yX5_tallyNow wsX5_tallyNow) := goodIn_app (goodIn_of _ (by decide +kernel)) ggX5_more_X5_tallyNow
set_option maxRecDepth 20000 in
theorem ggX5_more_X1_sum : GoodIn wsX5_more wsX1_sum := goodIn_r _ [91, 34, 92, 93, 94, 30, 95, 37, 68, 69, 70, 42, 71, 44, 61, 62, 63, 96, 97, 98, 123, 124, 125, 126, 127, 128, 129, 130] (by decide +kernel) (by decide +kernel)
set_option maxRecDepth 20000 in
theorem gX5_more_X1_sum : GoodIn wsX5_more (wsV RX5 103 RX1 yX1_sum wsX1_sum) := goodIn_app (goodIn_of _ (by decide +kernel)) ggX5_more_X1_sum
set_option maxRecDepth 20000 in
theorem ggX5_more_X5_fraction : GoodIn wsX5_more wsX5_fraction := goodIn_r _ [101, 102, 103, 4, 104] (by decide +kernel) (by decide +kernel)
set_option maxRecDepth 20000 in
theorem gX5_more_X5_fraction : GoodIn wsX5_more (va_wsS RX5 109 yX5_fraction wsX5_fraction) := goodIn_app (goodIn_of _ (by decide +kernel)) ggX5_more_X5_fraction
theorem dX5_more_0 : decode cX5_more 0 = .ok (.iload_n 1, 1) := by decide +kernel
theorem dX5_more_1 : decode cX5_more 1 = .ok (.ifCond .lt 15, 3) := by decide +kernel
theorem dX5_more_4 : decode cX5_more 4 = .ok (.iload_n 1, 1) := by decide +kernel
theorem dX5_more_5 : decode cX5_more 5 = .ok (.iconst 2, 1) := by decide +kernel
theorem dX5_more_6 : decode cX5_more 6 = .ok (.if_icmp .gt 10, 3) := by decide +kernel
theorem dX5_more_9 : decode cX5_more 9 = .ok (.iload_n 2, 1) := by decide +kernel
theorem dX5_more_10 : decode cX5_more 10 = .ok (.invokestatic 91, 3) := by decide +kernel
theorem dX5_more_13 : decode cX5_more 13 = .ok (.ifCond .eq 10, 3) := by decide +kernel
theorem dX5_more_16 : decode cX5_more 16 = .ok (.aload_n 0, 1) := by decide +kernel
theorem dX5_more_17 : decode cX5_more 17 = .ok (.bipush (-2), 2) := by decide +kernel
theorem dX5_more_19 : decode cX5_more 19 = .ok (.invokevirtual 95, 3) := by decide +kernel
theorem dX5_more_22 : decode cX5_more 22 = .ok (.lreturn, 1) := by decide +kernel
theorem dX5_more_23 : decode cX5_more 23 = .ok (.aload_n 0, 1) := by decide +kernel
theorem dX5_more_24 : decode cX5_more 24 = .ok (.invokevirtual 99, 3) := by decide +kernel
theorem dX5_more_27 : decode cX5_more 27 = .ok (.iconst 3, 1) := by decide +kernel
theorem dX5_more_28 : decode cX5_more 28 = .ok (.iload_n 1, 1) := by decide +kernel
theorem dX5_more_29 : decode cX5_more 29 = .ok (.iadd, 1) := by decide +kernel
theorem dX5_more_30 : decode cX5_more 30 = .ok (.iconst 0, 1) := by decide +kernel
theorem dX5_more_31 : decode cX5_more 31 = .ok (.invokevirtual 103, 3) := by decide +kernel
theorem dX5_more_34 : decode cX5_more 34 = .ok (.ldc2_w 107, 3) := by decide +kernel
theorem dX5_more_37 : decode cX5_more 37 = .ok (.iload_n 2, 1) := by decide +kernel
theorem dX5_more_38 : decode cX5_more 38 = .ok (.invokestatic 109, 3) := by decide +kernel
theorem dX5_more_41 : decode cX5_more 41 = .ok (.lreturn, 1) := by decide +kernel
set_option maxRecDepth 20000 in
theorem ggX5_size_X5_refuseLong : GoodIn wsX5_size wsX5_refuseLong := goodIn_r _ [6, 7, 8, 9, 10, 5, 11, 12, 105, 106, 107, 108, 109, 110, 111, 112, 113, 114] (by decide +kernel) (by decide +kernel)
set_option maxRecDepth 20000 in
theorem gX5_size_X5_refuseLong : GoodIn wsX5_size (wsV RX5 95 RX5 yX5_refuseLong wsX5_refuseLong) := goodIn_app (goodIn_of _ (by decide +kernel)) ggX5_size_X5_refuseLong
set_option maxRecDepth 20000 in
theorem ggX5_size_X5_isNoBit : GoodIn wsX5_size wsX5_isNoBit := goodIn_r _ [15] (by decide +kernel) (by decide +kernel)
set_option maxRecDepth 20000 in
theorem gX5_size_X5_isNoBit : GoodIn wsX5_size (va_wsS RX5 91 yX5_isNoBit wsX5_isNoBit) := goodIn_app (goodIn_of _ (by decide +kernel)) ggX5_size_X5_isNoBit
set_option maxRecDepth 20000 in
theorem ggX5_size_X5_tallyNow : GoodIn wsX5_size wsX5_tallyNow := goodIn_r _ [19, 20, 21, 22, 23, 5, 24, 25, 26, 27, 28, 29, 30, 31, 32, 33, 34, 35, 36, 37, 38, 39, 40, 41, 42, 43, 44, 45, 46, 47, 48, 49, 50, 51, 52, 53, 54, 55, 56, 57, 58, 59, 60, 61, 62, 63, 64, 65, 66, 67, 68, 69, 70, 71, 72, 73, 74, 75, 76, 77, 78, 79, 80, 81, 82, 83, 84, 85, 86, 87, 105, 106, 107, 108, 109, 110, 111, 112, 113, 114, 115, 116, 117, 118, 119, 120, 121, 122, 123, 124, 125, 126, 127, 128, 129, 130, 131, 132] (by decide +kernel) (by decide +kernel)
set_option maxRecDepth 20000 in
theorem gX5_size_X5_tallyNow : GoodIn wsX5_size (wsV RX5 99 RX5 yX5_tallyNow wsX5_tallyNow) := goodIn_app (goodIn_of _ (by decide +kernel)) ggX5_size_X5_tallyNow
set_option maxRecDepth 20000 in
theorem ggX5_size_X1_sum : GoodIn wsX5_size wsX1_sum := goodIn_r _ [91, 34, 92, 93, 94, 30, 95, 37, 68, 69, 70, 42, 71, 44, 61, 62, 63, 96, 97, 98, 123, 124, 125, 126, 127, 128, 129, 130] (by decide +kernel) (by decide +kernel)
set_option maxRecDepth 20000 in
theorem gX5_size_X1_sum : GoodIn wsX5_size (wsV RX5 103 RX1 yX1_sum wsX1_sum) := goodIn_app (goodIn_of _ (by decide +kernel)) ggX5_size_X1_sum
set_option maxRecDepth 20000 in
theorem ggX5_size_X5_fraction : GoodIn wsX5_size wsX5_fraction := goodIn_r _ [101, 102, 103, 5, 104] (by decide +kernel) (by decide +kernel)
set_option maxRecDepth 20000 in
theorem gX5_size_X5_fraction : GoodIn wsX5_size (va_wsS RX5 109 yX5_fraction wsX5_fraction) := goodIn_app (goodIn_of _ (by decide +kernel)) ggX5_size_X5_fraction
theorem dX5_size_0 : decode cX5_size 0 = .ok (.iload_n 1, 1) := by decide +kernel
theorem dX5_size_1 : decode cX5_size 1 = .ok (.iconst 1, 1) := by decide +kernel
theorem dX5_size_2 : decode cX5_size 2 = .ok (.if_icmp .ge 10, 3) := by decide +kernel
theorem dX5_size_5 : decode cX5_size 5 = .ok (.aload_n 0, 1) := by decide +kernel
theorem dX5_size_6 : decode cX5_size 6 = .ok (.bipush (-4), 2) := by decide +kernel
theorem dX5_size_8 : decode cX5_size 8 = .ok (.invokevirtual 95, 3) := by decide +kernel
theorem dX5_size_11 : decode cX5_size 11 = .ok (.lreturn, 1) := by decide +kernel
theorem dX5_size_12 : decode cX5_size 12 = .ok (.iload_n 1, 1) := by decide +kernel
theorem dX5_size_13 : decode cX5_size 13 = .ok (.bipush 10, 2) := by decide +kernel
theorem dX5_size_15 : decode cX5_size 15 = .ok (.if_icmp .le 10, 3) := by decide +kernel
theorem dX5_size_18 : decode cX5_size 18 = .ok (.aload_n 0, 1) := by decide +kernel
theorem dX5_size_19 : decode cX5_size 19 = .ok (.bipush (-6), 2) := by decide +kernel
theorem dX5_size_21 : decode cX5_size 21 = .ok (.invokevirtual 95, 3) := by decide +kernel
theorem dX5_size_24 : decode cX5_size 24 = .ok (.lreturn, 1) := by decide +kernel
theorem dX5_size_25 : decode cX5_size 25 = .ok (.iload_n 2, 1) := by decide +kernel
theorem dX5_size_26 : decode cX5_size 26 = .ok (.invokestatic 91, 3) := by decide +kernel
theorem dX5_size_29 : decode cX5_size 29 = .ok (.ifCond .eq 10, 3) := by decide +kernel
theorem dX5_size_32 : decode cX5_size 32 = .ok (.aload_n 0, 1) := by decide +kernel
theorem dX5_size_33 : decode cX5_size 33 = .ok (.bipush (-2), 2) := by decide +kernel
theorem dX5_size_35 : decode cX5_size 35 = .ok (.invokevirtual 95, 3) := by decide +kernel
theorem dX5_size_38 : decode cX5_size 38 = .ok (.lreturn, 1) := by decide +kernel
theorem dX5_size_39 : decode cX5_size 39 = .ok (.aload_n 0, 1) := by decide +kernel
theorem dX5_size_40 : decode cX5_size 40 = .ok (.invokevirtual 99, 3) := by decide +kernel
theorem dX5_size_43 : decode cX5_size 43 = .ok (.bipush 7, 2) := by decide +kernel
theorem dX5_size_45 : decode cX5_size 45 = .ok (.iload_n 1, 1) := by decide +kernel
theorem dX5_size_46 : decode cX5_size 46 = .ok (.invokevirtual 103, 3) := by decide +kernel
theorem dX5_size_49 : decode cX5_size 49 = .ok (.ldc2_w 107, 3) := by decide +kernel
theorem dX5_size_52 : decode cX5_size 52 = .ok (.iload_n 2, 1) := by decide +kernel
theorem dX5_size_53 : decode cX5_size 53 = .ok (.invokestatic 109, 3) := by decide +kernel
theorem dX5_size_56 : decode cX5_size 56 = .ok (.lreturn, 1) := by decide +kernel
set_option maxRecDepth 20000 in
theorem ggX5_met_X5_isNoBit : GoodIn wsX5_met wsX5_isNoBit := goodIn_r _ [4] (by decide +kernel) (by decide +kernel)
set_option maxRecDepth 20000 in
theorem gX5_met_X5_isNoBit : GoodIn wsX5_met (va_wsS RX5 91 yX5_isNoBit wsX5_isNoBit) := goodIn_app (goodIn_of _ (by decide +kernel)) ggX5_met_X5_isNoBit
set_option maxRecDepth 20000 in
theorem ggX5_met_X5_refuseLong : GoodIn wsX5_met wsX5_refuseLong := goodIn_r _ [8, 9, 10, 11, 12, 3, 13, 14, 104, 105, 106, 107, 108, 109, 110, 111, 112, 113] (by decide +kernel) (by decide +kernel)
set_option maxRecDepth 20000 in
theorem gX5_met_X5_refuseLong : GoodIn wsX5_met (wsV RX5 95 RX5 yX5_refuseLong wsX5_refuseLong) := goodIn_app (goodIn_of _ (by decide +kernel)) ggX5_met_X5_refuseLong
set_option maxRecDepth 20000 in
theorem ggX5_met_X5_tallyNow : GoodIn wsX5_met wsX5_tallyNow := goodIn_r _ [18, 19, 20, 21, 22, 3, 23, 24, 25, 26, 27, 28, 29, 30, 31, 32, 33, 34, 35, 36, 37, 38, 39, 40, 41, 42, 43, 44, 45, 46, 47, 48, 49, 50, 51, 52, 53, 54, 55, 56, 57, 58, 59, 60, 61, 62, 63, 64, 65, 66, 67, 68, 69, 70, 71, 72, 73, 74, 75, 76, 77, 78, 79, 80, 81, 82, 83, 84, 85, 86, 104, 105, 106, 107, 108, 109, 110, 111, 112, 113, 114, 115, 116, 117, 118, 119, 120, 121, 122, 123, 124, 125, 126, 127, 128, 129, 130, 131] (by decide +kernel) (by decide +kernel)
set_option maxRecDepth 20000 in
theorem gX5_met_X5_tallyNow : GoodIn wsX5_met (wsV RX5 99 RX5 yX5_tallyNow wsX5_tallyNow) := goodIn_app (goodIn_of _ (by decide +kernel)) ggX5_met_X5_tallyNow
set_option maxRecDepth 20000 in
theorem ggX5_met_X1_sum : GoodIn wsX5_met wsX1_sum := goodIn_r _ [90, 33, 91, 92, 93, 29, 94, 36, 67, 68, 69, 41, 70, 43, 60, 61, 62, 95, 96, 97, 122, 123, 124, 125, 126, 127, 128, 129] (by decide +kernel) (by decide +kernel)
set_option maxRecDepth 20000 in
theorem gX5_met_X1_sum : GoodIn wsX5_met (wsV RX5 103 RX1 yX1_sum wsX1_sum) := goodIn_app (goodIn_of _ (by decide +kernel)) ggX5_met_X1_sum
set_option maxRecDepth 20000 in
theorem ggX5_met_X5_fraction : GoodIn wsX5_met wsX5_fraction := goodIn_r _ [100, 101, 102, 3, 103] (by decide +kernel) (by decide +kernel)
set_option maxRecDepth 20000 in
theorem gX5_met_X5_fraction : GoodIn wsX5_met (va_wsS RX5 109 yX5_fraction wsX5_fraction) := goodIn_app (goodIn_of _ (by decide +kernel)) ggX5_met_X5_fraction
theorem dX5_met_0 : decode cX5_met 0 = .ok (.iload_n 1, 1) := by decide +kernel
theorem dX5_met_1 : decode cX5_met 1 = .ok (.invokestatic 91, 3) := by decide +kernel
theorem dX5_met_4 : decode cX5_met 4 = .ok (.ifCond .ne 10, 3) := by decide +kernel
theorem dX5_met_7 : decode cX5_met 7 = .ok (.iload_n 2, 1) := by decide +kernel
theorem dX5_met_8 : decode cX5_met 8 = .ok (.invokestatic 91, 3) := by decide +kernel
theorem dX5_met_11 : decode cX5_met 11 = .ok (.ifCond .eq 10, 3) := by decide +kernel
theorem dX5_met_14 : decode cX5_met 14 = .ok (.aload_n 0, 1) := by decide +kernel
theorem dX5_met_15 : decode cX5_met 15 = .ok (.bipush (-2), 2) := by decide +kernel
theorem dX5_met_17 : decode cX5_met 17 = .ok (.invokevirtual 95, 3) := by decide +kernel
theorem dX5_met_20 : decode cX5_met 20 = .ok (.lreturn, 1) := by decide +kernel
theorem dX5_met_21 : decode cX5_met 21 = .ok (.aload_n 0, 1) := by decide +kernel
theorem dX5_met_22 : decode cX5_met 22 = .ok (.invokevirtual 99, 3) := by decide +kernel
theorem dX5_met_25 : decode cX5_met 25 = .ok (.astore_n 3, 1) := by decide +kernel
theorem dX5_met_26 : decode cX5_met 26 = .ok (.iload_n 1, 1) := by decide +kernel
theorem dX5_met_27 : decode cX5_met 27 = .ok (.ifCond .ne 8, 3) := by decide +kernel
theorem dX5_met_30 : decode cX5_met 30 = .ok (.bipush 8, 2) := by decide +kernel
theorem dX5_met_32 : decode cX5_met 32 = .ok (.goto 5, 3) := by decide +kernel
theorem dX5_met_35 : decode cX5_met 35 = .ok (.bipush 9, 2) := by decide +kernel
theorem dX5_met_37 : decode cX5_met 37 = .ok (.istore 4, 2) := by decide +kernel
theorem dX5_met_39 : decode cX5_met 39 = .ok (.aload_n 3, 1) := by decide +kernel
theorem dX5_met_40 : decode cX5_met 40 = .ok (.iload 4, 2) := by decide +kernel
theorem dX5_met_42 : decode cX5_met 42 = .ok (.iconst 0, 1) := by decide +kernel
theorem dX5_met_43 : decode cX5_met 43 = .ok (.invokevirtual 103, 3) := by decide +kernel
theorem dX5_met_46 : decode cX5_met 46 = .ok (.aload_n 3, 1) := by decide +kernel
theorem dX5_met_47 : decode cX5_met 47 = .ok (.iconst 0, 1) := by decide +kernel
theorem dX5_met_48 : decode cX5_met 48 = .ok (.iconst 0, 1) := by decide +kernel
theorem dX5_met_49 : decode cX5_met 49 = .ok (.invokevirtual 103, 3) := by decide +kernel
theorem dX5_met_52 : decode cX5_met 52 = .ok (.iload_n 2, 1) := by decide +kernel
theorem dX5_met_53 : decode cX5_met 53 = .ok (.invokestatic 109, 3) := by decide +kernel
theorem dX5_met_56 : decode cX5_met 56 = .ok (.lreturn, 1) := by decide +kernel
set_option maxRecDepth 20000 in
theorem ggX5_says_X5_refuseLong : GoodIn wsX5_says wsX5_refuseLong := goodIn_r _ [5, 6, 7, 8, 9, 4, 10, 11, 109, 110, 111, 112, 113, 114, 115, 116, 117, 118] (by decide +kernel) (by decide +kernel)
set_option maxRecDepth 20000 in
theorem gX5_says_X5_refuseLong : GoodIn wsX5_says (wsV RX5 95 RX5 yX5_refuseLong wsX5_refuseLong) := goodIn_app (goodIn_of _ (by decide +kernel)) ggX5_says_X5_refuseLong
set_option maxRecDepth 20000 in
theorem ggX5_says_X5_isNoBit : GoodIn wsX5_says wsX5_isNoBit := goodIn_r _ [14] (by decide +kernel) (by decide +kernel)
set_option maxRecDepth 20000 in
theorem gX5_says_X5_isNoBit : GoodIn wsX5_says (va_wsS RX5 91 yX5_isNoBit wsX5_isNoBit) := goodIn_app (goodIn_of _ (by decide +kernel)) ggX5_says_X5_isNoBit
set_option maxRecDepth 20000 in
theorem ggX5_says_X5_tallyNow : GoodIn wsX5_says wsX5_tallyNow := goodIn_r _ [18, 19, 20, 21, 22, 4, 23, 24, 25, 26, 27, 28, 29, 30, 31, 32, 33, 34, 35, 36, 37, 38, 39, 40, 41, 42, 43, 44, 45, 46, 47, 48, 49, 50, 51, 52, 53, 54, 55, 56, 57, 58, 59, 60, 61, 62, 63, 64, 65, 66, 67, 68, 69, 70, 71, 72, 73, 74, 75, 76, 77, 78, 79, 80, 81, 82, 83, 84, 85, 86, 109, 110, 111, 112, 113, 114, 115, 116, 117, 118, 119, 120, 121, 122, 123, 124, 125, 126, 127, 128, 129, 130, 131, 132, 133, 134, 135, 136] (by decide +kernel) (by decide +kernel)
set_option maxRecDepth 20000 in
theorem gX5_says_X5_tallyNow : GoodIn wsX5_says (wsV RX5 99 RX5 yX5_tallyNow wsX5_tallyNow) := goodIn_app (goodIn_of _ (by decide +kernel)) ggX5_says_X5_tallyNow
set_option maxRecDepth 20000 in
theorem ggX5_says_X1_families : GoodIn wsX5_says wsX1_families := goodIn_r _ [90, 36, 67, 68, 69, 41, 70, 43, 60, 61, 62, 127, 128, 129, 130, 131, 132, 133, 134] (by decide +kernel) (by decide +kernel)
set_option maxRecDepth 20000 in
theorem gX5_says_X1_families : GoodIn wsX5_says (wsV RX5 115 RX1 yX1_families wsX1_families) := goodIn_app (goodIn_of _ (by decide +kernel)) ggX5_says_X1_families
set_option maxRecDepth 20000 in
theorem ggX5_says_X1_sum : GoodIn wsX5_says wsX1_sum := goodIn_r _ [94, 33, 95, 88, 89, 29, 90, 36, 67, 68, 69, 41, 70, 43, 60, 61, 62, 96, 97, 98, 127, 128, 129, 130, 131, 132, 133, 134] (by decide +kernel) (by decide +kernel)
set_option maxRecDepth 20000 in
theorem gX5_says_X1_sum : GoodIn wsX5_says (wsV RX5 103 RX1 yX1_sum wsX1_sum) := goodIn_app (goodIn_of _ (by decide +kernel)) ggX5_says_X1_sum
set_option maxRecDepth 20000 in
theorem ggX5_says_X5_fraction : GoodIn wsX5_says wsX5_fraction := goodIn_r _ [101, 102, 103, 4, 104] (by decide +kernel) (by decide +kernel)
set_option maxRecDepth 20000 in
theorem gX5_says_X5_fraction : GoodIn wsX5_says (va_wsS RX5 109 yX5_fraction wsX5_fraction) := goodIn_app (goodIn_of _ (by decide +kernel)) ggX5_says_X5_fraction
set_option maxRecDepth 20000 in
theorem ggX5_says_X1_familiesFrom : GoodIn wsX5_says wsX1_familiesFrom := goodIn_r _ [108, 36, 67, 68, 69, 41, 70, 43, 60, 61, 62, 127, 128, 129, 130, 131, 132, 133, 134] (by decide +kernel) (by decide +kernel)
set_option maxRecDepth 20000 in
theorem gX5_says_X1_familiesFrom : GoodIn wsX5_says (wsV RX5 118 RX1 yX1_familiesFrom wsX1_familiesFrom) := goodIn_app (goodIn_of _ (by decide +kernel)) ggX5_says_X1_familiesFrom
theorem dX5_says_0 : decode cX5_says 0 = .ok (.iload_n 2, 1) := by decide +kernel
theorem dX5_says_1 : decode cX5_says 1 = .ok (.ifCond .lt 7, 3) := by decide +kernel
theorem dX5_says_4 : decode cX5_says 4 = .ok (.iload_n 3, 1) := by decide +kernel
theorem dX5_says_5 : decode cX5_says 5 = .ok (.ifCond .ge 10, 3) := by decide +kernel
theorem dX5_says_8 : decode cX5_says 8 = .ok (.aload_n 0, 1) := by decide +kernel
theorem dX5_says_9 : decode cX5_says 9 = .ok (.bipush (-4), 2) := by decide +kernel
theorem dX5_says_11 : decode cX5_says 11 = .ok (.invokevirtual 95, 3) := by decide +kernel
theorem dX5_says_14 : decode cX5_says 14 = .ok (.lreturn, 1) := by decide +kernel
theorem dX5_says_15 : decode cX5_says 15 = .ok (.iload_n 2, 1) := by decide +kernel
theorem dX5_says_16 : decode cX5_says 16 = .ok (.bipush 9, 2) := by decide +kernel
theorem dX5_says_18 : decode cX5_says 18 = .ok (.if_icmp .gt 9, 3) := by decide +kernel
theorem dX5_says_21 : decode cX5_says 21 = .ok (.iload_n 3, 1) := by decide +kernel
theorem dX5_says_22 : decode cX5_says 22 = .ok (.bipush 9, 2) := by decide +kernel
theorem dX5_says_24 : decode cX5_says 24 = .ok (.if_icmp .le 10, 3) := by decide +kernel
theorem dX5_says_27 : decode cX5_says 27 = .ok (.aload_n 0, 1) := by decide +kernel
theorem dX5_says_28 : decode cX5_says 28 = .ok (.bipush (-6), 2) := by decide +kernel
theorem dX5_says_30 : decode cX5_says 30 = .ok (.invokevirtual 95, 3) := by decide +kernel
theorem dX5_says_33 : decode cX5_says 33 = .ok (.lreturn, 1) := by decide +kernel
theorem dX5_says_34 : decode cX5_says 34 = .ok (.iload_n 1, 1) := by decide +kernel
theorem dX5_says_35 : decode cX5_says 35 = .ok (.invokestatic 91, 3) := by decide +kernel
theorem dX5_says_38 : decode cX5_says 38 = .ok (.ifCond .ne 19, 3) := by decide +kernel
theorem dX5_says_41 : decode cX5_says 41 = .ok (.iload 4, 2) := by decide +kernel
theorem dX5_says_43 : decode cX5_says 43 = .ok (.invokestatic 91, 3) := by decide +kernel
theorem dX5_says_46 : decode cX5_says 46 = .ok (.ifCond .ne 11, 3) := by decide +kernel
theorem dX5_says_49 : decode cX5_says 49 = .ok (.iload 5, 2) := by decide +kernel
theorem dX5_says_51 : decode cX5_says 51 = .ok (.invokestatic 91, 3) := by decide +kernel
theorem dX5_says_54 : decode cX5_says 54 = .ok (.ifCond .eq 10, 3) := by decide +kernel
theorem dX5_says_57 : decode cX5_says 57 = .ok (.aload_n 0, 1) := by decide +kernel
theorem dX5_says_58 : decode cX5_says 58 = .ok (.bipush (-2), 2) := by decide +kernel
theorem dX5_says_60 : decode cX5_says 60 = .ok (.invokevirtual 95, 3) := by decide +kernel
theorem dX5_says_63 : decode cX5_says 63 = .ok (.lreturn, 1) := by decide +kernel
theorem dX5_says_64 : decode cX5_says 64 = .ok (.aload_n 0, 1) := by decide +kernel
theorem dX5_says_65 : decode cX5_says 65 = .ok (.invokevirtual 99, 3) := by decide +kernel
theorem dX5_says_68 : decode cX5_says 68 = .ok (.astore 6, 2) := by decide +kernel
theorem dX5_says_70 : decode cX5_says 70 = .ok (.iload_n 2, 1) := by decide +kernel
theorem dX5_says_71 : decode cX5_says 71 = .ok (.iload_n 1, 1) := by decide +kernel
theorem dX5_says_72 : decode cX5_says 72 = .ok (.iadd, 1) := by decide +kernel
theorem dX5_says_73 : decode cX5_says 73 = .ok (.istore 7, 2) := by decide +kernel
theorem dX5_says_75 : decode cX5_says 75 = .ok (.iload_n 3, 1) := by decide +kernel
theorem dX5_says_76 : decode cX5_says 76 = .ok (.iconst 1, 1) := by decide +kernel
theorem dX5_says_77 : decode cX5_says 77 = .ok (.iadd, 1) := by decide +kernel
theorem dX5_says_78 : decode cX5_says 78 = .ok (.iload_n 1, 1) := by decide +kernel
theorem dX5_says_79 : decode cX5_says 79 = .ok (.isub, 1) := by decide +kernel
theorem dX5_says_80 : decode cX5_says 80 = .ok (.istore 8, 2) := by decide +kernel
theorem dX5_says_82 : decode cX5_says 82 = .ok (.aload 6, 2) := by decide +kernel
theorem dX5_says_84 : decode cX5_says 84 = .ok (.iload 7, 2) := by decide +kernel
theorem dX5_says_86 : decode cX5_says 86 = .ok (.iload 8, 2) := by decide +kernel
theorem dX5_says_88 : decode cX5_says 88 = .ok (.invokevirtual 115, 3) := by decide +kernel
theorem dX5_says_91 : decode cX5_says 91 = .ok (.iload_n 1, 1) := by decide +kernel
theorem dX5_says_92 : decode cX5_says 92 = .ok (.iconst 1, 1) := by decide +kernel
theorem dX5_says_93 : decode cX5_says 93 = .ok (.if_icmp .ne 8, 3) := by decide +kernel
theorem dX5_says_96 : decode cX5_says 96 = .ok (.iload 7, 2) := by decide +kernel
theorem dX5_says_98 : decode cX5_says 98 = .ok (.goto 5, 3) := by decide +kernel
theorem dX5_says_101 : decode cX5_says 101 = .ok (.iload 8, 2) := by decide +kernel
theorem dX5_says_103 : decode cX5_says 103 = .ok (.i2l, 1) := by decide +kernel
theorem dX5_says_104 : decode cX5_says 104 = .ok (.lmul, 1) := by decide +kernel
theorem dX5_says_105 : decode cX5_says 105 = .ok (.lstore 9, 2) := by decide +kernel
theorem dX5_says_107 : decode cX5_says 107 = .ok (.iload 4, 2) := by decide +kernel
theorem dX5_says_109 : decode cX5_says 109 = .ok (.ifCond .ne 18, 3) := by decide +kernel
theorem dX5_says_112 : decode cX5_says 112 = .ok (.lload 9, 2) := by decide +kernel
theorem dX5_says_114 : decode cX5_says 114 = .ok (.aload 6, 2) := by decide +kernel
theorem dX5_says_116 : decode cX5_says 116 = .ok (.iconst 0, 1) := by decide +kernel
theorem dX5_says_117 : decode cX5_says 117 = .ok (.iconst 0, 1) := by decide +kernel
theorem dX5_says_118 : decode cX5_says 118 = .ok (.invokevirtual 103, 3) := by decide +kernel
theorem dX5_says_121 : decode cX5_says 121 = .ok (.iload 5, 2) := by decide +kernel
theorem dX5_says_123 : decode cX5_says 123 = .ok (.invokestatic 109, 3) := by decide +kernel
theorem dX5_says_126 : decode cX5_says 126 = .ok (.lreturn, 1) := by decide +kernel
theorem dX5_says_127 : decode cX5_says 127 = .ok (.aload 6, 2) := by decide +kernel
theorem dX5_says_129 : decode cX5_says 129 = .ok (.iload_n 1, 1) := by decide +kernel
theorem dX5_says_130 : decode cX5_says 130 = .ok (.iload 7, 2) := by decide +kernel
theorem dX5_says_132 : decode cX5_says 132 = .ok (.iload 8, 2) := by decide +kernel
theorem dX5_says_134 : decode cX5_says 134 = .ok (.invokevirtual 118, 3) := by decide +kernel
theorem dX5_says_137 : decode cX5_says 137 = .ok (.lload 9, 2) := by decide +kernel
theorem dX5_says_139 : decode cX5_says 139 = .ok (.iload 5, 2) := by decide +kernel
theorem dX5_says_141 : decode cX5_says 141 = .ok (.invokestatic 109, 3) := by decide +kernel
theorem dX5_says_144 : decode cX5_says 144 = .ok (.lreturn, 1) := by decide +kernel
set_option maxRecDepth 20000 in
theorem ggX5_trial_X5_refuseLong : GoodIn wsX5_trial wsX5_refuseLong := goodIn_r _ [8, 9, 10, 11, 12, 7, 13, 14, 96, 97, 98, 99, 100, 101, 102, 103, 104, 105] (by decide +kernel) (by decide +kernel)
set_option maxRecDepth 20000 in
theorem gX5_trial_X5_refuseLong : GoodIn wsX5_trial (wsV RX5 95 RX5 yX5_refuseLong wsX5_refuseLong) := goodIn_app (goodIn_of _ (by decide +kernel)) ggX5_trial_X5_refuseLong
set_option maxRecDepth 20000 in
theorem ggX5_trial_X5_isNoBit : GoodIn wsX5_trial wsX5_isNoBit := goodIn_r _ [17] (by decide +kernel) (by decide +kernel)
set_option maxRecDepth 20000 in
theorem gX5_trial_X5_isNoBit : GoodIn wsX5_trial (va_wsS RX5 91 yX5_isNoBit wsX5_isNoBit) := goodIn_app (goodIn_of _ (by decide +kernel)) ggX5_trial_X5_isNoBit
set_option maxRecDepth 20000 in
theorem ggX5_trial_X1_retell : GoodIn wsX5_trial wsX1_retell := goodIn_r _ [22, 23, 24, 25, 26, 27, 28, 29, 30, 31, 32, 33, 34, 35, 36, 37, 38, 39, 40, 41, 42, 43, 44, 45, 46, 47, 48, 49, 50, 51, 52, 53, 54, 55, 56, 57, 21, 58, 59, 60, 61, 62, 63, 7, 64, 65, 66, 67, 68, 69, 70, 71, 72, 73, 74, 75, 76, 77, 78, 114, 115, 116, 117, 118, 119, 120, 121, 122, 123] (by decide +kernel) (by decide +kernel)
set_option maxRecDepth 20000 in
theorem gX5_trial_X1_retell : GoodIn wsX5_trial (wsV RX5 128 RX1 yX1_retell wsX1_retell) := goodIn_app (goodIn_of _ (by decide +kernel)) ggX5_trial_X1_retell
set_option maxRecDepth 20000 in
theorem ggX5_trial_X1_sum : GoodIn wsX5_trial wsX1_sum := goodIn_r _ [82, 25, 83, 84, 85, 21, 86, 28, 59, 60, 61, 33, 62, 35, 52, 53, 54, 87, 88, 89, 114, 115, 116, 117, 118, 119, 120, 121] (by decide +kernel) (by decide +kernel)
set_option maxRecDepth 20000 in
theorem gX5_trial_X1_sum : GoodIn wsX5_trial (wsV RX5 103 RX1 yX1_sum wsX1_sum) := goodIn_app (goodIn_of _ (by decide +kernel)) ggX5_trial_X1_sum
set_option maxRecDepth 20000 in
theorem ggX5_trial_X5_fraction : GoodIn wsX5_trial wsX5_fraction := goodIn_r _ [92, 93, 94, 7, 95] (by decide +kernel) (by decide +kernel)
set_option maxRecDepth 20000 in
theorem gX5_trial_X5_fraction : GoodIn wsX5_trial (va_wsS RX5 109 yX5_fraction wsX5_fraction) := goodIn_app (goodIn_of _ (by decide +kernel)) ggX5_trial_X5_fraction
theorem dX5_trial_0 : decode cX5_trial 0 = .ok (.iload_n 1, 1) := by decide +kernel
theorem dX5_trial_1 : decode cX5_trial 1 = .ok (.iconst 1, 1) := by decide +kernel
theorem dX5_trial_2 : decode cX5_trial 2 = .ok (.if_icmp .lt 8, 3) := by decide +kernel
theorem dX5_trial_5 : decode cX5_trial 5 = .ok (.iload_n 2, 1) := by decide +kernel
theorem dX5_trial_6 : decode cX5_trial 6 = .ok (.iconst 1, 1) := by decide +kernel
theorem dX5_trial_7 : decode cX5_trial 7 = .ok (.if_icmp .ge 10, 3) := by decide +kernel
theorem dX5_trial_10 : decode cX5_trial 10 = .ok (.aload_n 0, 1) := by decide +kernel
theorem dX5_trial_11 : decode cX5_trial 11 = .ok (.bipush (-4), 2) := by decide +kernel
theorem dX5_trial_13 : decode cX5_trial 13 = .ok (.invokevirtual 95, 3) := by decide +kernel
theorem dX5_trial_16 : decode cX5_trial 16 = .ok (.lreturn, 1) := by decide +kernel
theorem dX5_trial_17 : decode cX5_trial 17 = .ok (.iload_n 1, 1) := by decide +kernel
theorem dX5_trial_18 : decode cX5_trial 18 = .ok (.bipush 10, 2) := by decide +kernel
theorem dX5_trial_20 : decode cX5_trial 20 = .ok (.if_icmp .gt 9, 3) := by decide +kernel
theorem dX5_trial_23 : decode cX5_trial 23 = .ok (.iload_n 2, 1) := by decide +kernel
theorem dX5_trial_24 : decode cX5_trial 24 = .ok (.bipush 9, 2) := by decide +kernel
theorem dX5_trial_26 : decode cX5_trial 26 = .ok (.if_icmp .le 10, 3) := by decide +kernel
theorem dX5_trial_29 : decode cX5_trial 29 = .ok (.aload_n 0, 1) := by decide +kernel
theorem dX5_trial_30 : decode cX5_trial 30 = .ok (.bipush (-6), 2) := by decide +kernel
theorem dX5_trial_32 : decode cX5_trial 32 = .ok (.invokevirtual 95, 3) := by decide +kernel
theorem dX5_trial_35 : decode cX5_trial 35 = .ok (.lreturn, 1) := by decide +kernel
theorem dX5_trial_36 : decode cX5_trial 36 = .ok (.iload_n 3, 1) := by decide +kernel
theorem dX5_trial_37 : decode cX5_trial 37 = .ok (.invokestatic 91, 3) := by decide +kernel
theorem dX5_trial_40 : decode cX5_trial 40 = .ok (.ifCond .eq 10, 3) := by decide +kernel
theorem dX5_trial_43 : decode cX5_trial 43 = .ok (.aload_n 0, 1) := by decide +kernel
theorem dX5_trial_44 : decode cX5_trial 44 = .ok (.bipush (-2), 2) := by decide +kernel
theorem dX5_trial_46 : decode cX5_trial 46 = .ok (.invokevirtual 95, 3) := by decide +kernel
theorem dX5_trial_49 : decode cX5_trial 49 = .ok (.lreturn, 1) := by decide +kernel
theorem dX5_trial_50 : decode cX5_trial 50 = .ok (.aload_n 0, 1) := by decide +kernel
theorem dX5_trial_51 : decode cX5_trial 51 = .ok (.getfield 45, 3) := by decide +kernel
theorem dX5_trial_54 : decode cX5_trial 54 = .ok (.iconst 2, 1) := by decide +kernel
theorem dX5_trial_55 : decode cX5_trial 55 = .ok (.iload_n 2, 1) := by decide +kernel
theorem dX5_trial_56 : decode cX5_trial 56 = .ok (.iload_n 1, 1) := by decide +kernel
theorem dX5_trial_57 : decode cX5_trial 57 = .ok (.aload_n 0, 1) := by decide +kernel
theorem dX5_trial_58 : decode cX5_trial 58 = .ok (.getfield 10, 3) := by decide +kernel
theorem dX5_trial_61 : decode cX5_trial 61 = .ok (.getfield 122, 3) := by decide +kernel
theorem dX5_trial_64 : decode cX5_trial 64 = .ok (.aload_n 0, 1) := by decide +kernel
theorem dX5_trial_65 : decode cX5_trial 65 = .ok (.getfield 10, 3) := by decide +kernel
theorem dX5_trial_68 : decode cX5_trial 68 = .ok (.getfield 125, 3) := by decide +kernel
theorem dX5_trial_71 : decode cX5_trial 71 = .ok (.invokevirtual 128, 3) := by decide +kernel
theorem dX5_trial_74 : decode cX5_trial 74 = .ok (.aload_n 0, 1) := by decide +kernel
theorem dX5_trial_75 : decode cX5_trial 75 = .ok (.getfield 45, 3) := by decide +kernel
theorem dX5_trial_78 : decode cX5_trial 78 = .ok (.bipush 10, 2) := by decide +kernel
theorem dX5_trial_80 : decode cX5_trial 80 = .ok (.iload_n 2, 1) := by decide +kernel
theorem dX5_trial_81 : decode cX5_trial 81 = .ok (.invokevirtual 103, 3) := by decide +kernel
theorem dX5_trial_84 : decode cX5_trial 84 = .ok (.ldc2_w 107, 3) := by decide +kernel
theorem dX5_trial_87 : decode cX5_trial 87 = .ok (.iload_n 3, 1) := by decide +kernel
theorem dX5_trial_88 : decode cX5_trial 88 = .ok (.invokestatic 109, 3) := by decide +kernel
theorem dX5_trial_91 : decode cX5_trial 91 = .ok (.lreturn, 1) := by decide +kernel
set_option maxRecDepth 20000 in
theorem ggX5_row_X5_isNoBit : GoodIn wsX5_row wsX5_isNoBit := goodIn_r _ [6] (by decide +kernel) (by decide +kernel)
set_option maxRecDepth 20000 in
theorem gX5_row_X5_isNoBit : GoodIn wsX5_row (va_wsS RX5 91 yX5_isNoBit wsX5_isNoBit) := goodIn_app (goodIn_of _ (by decide +kernel)) ggX5_row_X5_isNoBit
set_option maxRecDepth 20000 in
theorem ggX5_row_X5_refuse : GoodIn wsX5_row wsX5_refuse := goodIn_r _ [10, 11, 12, 13, 14, 15, 16, 17, 18, 19, 20, 21] (by decide +kernel) (by decide +kernel)
set_option maxRecDepth 20000 in
theorem gX5_row_X5_refuse : GoodIn wsX5_row (wsV RX5 49 RX5 yX5_refuse wsX5_refuse) := goodIn_app (goodIn_of _ (by decide +kernel)) ggX5_row_X5_refuse
theorem dX5_row_0 : decode cX5_row 0 = .ok (.iload_n 1, 1) := by decide +kernel
theorem dX5_row_1 : decode cX5_row 1 = .ok (.invokestatic 91, 3) := by decide +kernel
theorem dX5_row_4 : decode cX5_row 4 = .ok (.ifCond .eq 10, 3) := by decide +kernel
theorem dX5_row_7 : decode cX5_row 7 = .ok (.aload_n 0, 1) := by decide +kernel
theorem dX5_row_8 : decode cX5_row 8 = .ok (.bipush (-2), 2) := by decide +kernel
theorem dX5_row_10 : decode cX5_row 10 = .ok (.invokevirtual 49, 3) := by decide +kernel
theorem dX5_row_13 : decode cX5_row 13 = .ok (.ireturn, 1) := by decide +kernel
theorem dX5_row_14 : decode cX5_row 14 = .ok (.aload_n 0, 1) := by decide +kernel
theorem dX5_row_15 : decode cX5_row 15 = .ok (.getfield 132, 3) := by decide +kernel
theorem dX5_row_18 : decode cX5_row 18 = .ok (.bipush 10, 2) := by decide +kernel
theorem dX5_row_20 : decode cX5_row 20 = .ok (.if_icmp .lt 10, 3) := by decide +kernel
theorem dX5_row_23 : decode cX5_row 23 = .ok (.aload_n 0, 1) := by decide +kernel
theorem dX5_row_24 : decode cX5_row 24 = .ok (.bipush (-6), 2) := by decide +kernel
theorem dX5_row_26 : decode cX5_row 26 = .ok (.invokevirtual 49, 3) := by decide +kernel
theorem dX5_row_29 : decode cX5_row 29 = .ok (.ireturn, 1) := by decide +kernel
theorem dX5_row_30 : decode cX5_row 30 = .ok (.aload_n 0, 1) := by decide +kernel
theorem dX5_row_31 : decode cX5_row 31 = .ok (.dup, 1) := by decide +kernel
theorem dX5_row_32 : decode cX5_row 32 = .ok (.getfield 135, 3) := by decide +kernel
theorem dX5_row_35 : decode cX5_row 35 = .ok (.iload_n 1, 1) := by decide +kernel
theorem dX5_row_36 : decode cX5_row 36 = .ok (.aload_n 0, 1) := by decide +kernel
theorem dX5_row_37 : decode cX5_row 37 = .ok (.getfield 132, 3) := by decide +kernel
theorem dX5_row_40 : decode cX5_row 40 = .ok (.ishl, 1) := by decide +kernel
theorem dX5_row_41 : decode cX5_row 41 = .ok (.ior, 1) := by decide +kernel
theorem dX5_row_42 : decode cX5_row 42 = .ok (.putfield 135, 3) := by decide +kernel
theorem dX5_row_45 : decode cX5_row 45 = .ok (.aload_n 0, 1) := by decide +kernel
theorem dX5_row_46 : decode cX5_row 46 = .ok (.dup, 1) := by decide +kernel
theorem dX5_row_47 : decode cX5_row 47 = .ok (.getfield 132, 3) := by decide +kernel
theorem dX5_row_50 : decode cX5_row 50 = .ok (.iconst 1, 1) := by decide +kernel
theorem dX5_row_51 : decode cX5_row 51 = .ok (.iadd, 1) := by decide +kernel
theorem dX5_row_52 : decode cX5_row 52 = .ok (.putfield 132, 3) := by decide +kernel
theorem dX5_row_55 : decode cX5_row 55 = .ok (.aload_n 0, 1) := by decide +kernel
theorem dX5_row_56 : decode cX5_row 56 = .ok (.getfield 132, 3) := by decide +kernel
theorem dX5_row_59 : decode cX5_row 59 = .ok (.ireturn, 1) := by decide +kernel
set_option maxRecDepth 20000 in
theorem ggX5_gone_X5_isNoBit : GoodIn wsX5_gone wsX5_isNoBit := goodIn_r _ [5] (by decide +kernel) (by decide +kernel)
set_option maxRecDepth 20000 in
theorem gX5_gone_X5_isNoBit : GoodIn wsX5_gone (va_wsS RX5 91 yX5_isNoBit wsX5_isNoBit) := goodIn_app (goodIn_of _ (by decide +kernel)) ggX5_gone_X5_isNoBit
set_option maxRecDepth 20000 in
theorem ggX5_gone_X5_refuseLong : GoodIn wsX5_gone wsX5_refuseLong := goodIn_r _ [9, 10, 11, 12, 13, 4, 14, 15, 59, 60, 61, 62, 63, 64, 65, 66, 67, 68] (by decide +kernel) (by decide +kernel)
set_option maxRecDepth 20000 in
theorem gX5_gone_X5_refuseLong : GoodIn wsX5_gone (wsV RX5 95 RX5 yX5_refuseLong wsX5_refuseLong) := goodIn_app (goodIn_of _ (by decide +kernel)) ggX5_gone_X5_refuseLong
set_option maxRecDepth 20000 in
theorem ggX5_gone_X5_lastInTwelfths : GoodIn wsX5_gone wsX5_lastInTwelfths := goodIn_r _ [19, 20, 21, 22, 23, 24, 25, 26, 27, 28, 29, 30, 4, 31, 32, 33, 34, 35, 36, 37, 38, 39, 40, 41, 42, 43, 44, 45, 46, 47, 48, 49, 50, 51, 52, 59, 60, 61, 62, 63, 64, 65, 66, 67, 68, 69, 70, 71, 72, 73, 74, 75, 76] (by decide +kernel) (by decide +kernel)
set_option maxRecDepth 20000 in
theorem gX5_gone_X5_lastInTwelfths : GoodIn wsX5_gone (wsV RX5 138 RX5 yX5_lastInTwelfths wsX5_lastInTwelfths) := goodIn_app (goodIn_of _ (by decide +kernel)) ggX5_gone_X5_lastInTwelfths
set_option maxRecDepth 20000 in
theorem ggX5_gone_X5_fraction : GoodIn wsX5_gone wsX5_fraction := goodIn_r _ [55, 56, 57, 4, 58] (by decide +kernel) (by decide +kernel)
set_option maxRecDepth 20000 in
theorem gX5_gone_X5_fraction : GoodIn wsX5_gone (va_wsS RX5 109 yX5_fraction wsX5_fraction) := goodIn_app (goodIn_of _ (by decide +kernel)) ggX5_gone_X5_fraction
theorem dX5_gone_0 : decode cX5_gone 0 = .ok (.iload_n 1, 1) := by decide +kernel
theorem dX5_gone_1 : decode cX5_gone 1 = .ok (.invokestatic 91, 3) := by decide +kernel
theorem dX5_gone_4 : decode cX5_gone 4 = .ok (.ifCond .eq 10, 3) := by decide +kernel
theorem dX5_gone_7 : decode cX5_gone 7 = .ok (.aload_n 0, 1) := by decide +kernel
theorem dX5_gone_8 : decode cX5_gone 8 = .ok (.bipush (-2), 2) := by decide +kernel
theorem dX5_gone_10 : decode cX5_gone 10 = .ok (.invokevirtual 95, 3) := by decide +kernel
theorem dX5_gone_13 : decode cX5_gone 13 = .ok (.lreturn, 1) := by decide +kernel
theorem dX5_gone_14 : decode cX5_gone 14 = .ok (.aload_n 0, 1) := by decide +kernel
theorem dX5_gone_15 : decode cX5_gone 15 = .ok (.invokevirtual 138, 3) := by decide +kernel
theorem dX5_gone_18 : decode cX5_gone 18 = .ok (.i2l, 1) := by decide +kernel
theorem dX5_gone_19 : decode cX5_gone 19 = .ok (.ldc2_w 141, 3) := by decide +kernel
theorem dX5_gone_22 : decode cX5_gone 22 = .ok (.iload_n 1, 1) := by decide +kernel
theorem dX5_gone_23 : decode cX5_gone 23 = .ok (.invokestatic 109, 3) := by decide +kernel
theorem dX5_gone_26 : decode cX5_gone 26 = .ok (.lreturn, 1) := by decide +kernel
set_option maxRecDepth 20000 in
theorem ggX5_shift_X5_isNoBit : GoodIn wsX5_shift wsX5_isNoBit := goodIn_r _ [4] (by decide +kernel) (by decide +kernel)
set_option maxRecDepth 20000 in
theorem gX5_shift_X5_isNoBit : GoodIn wsX5_shift (va_wsS RX5 91 yX5_isNoBit wsX5_isNoBit) := goodIn_app (goodIn_of _ (by decide +kernel)) ggX5_shift_X5_isNoBit
set_option maxRecDepth 20000 in
theorem ggX5_shift_X5_refuse : GoodIn wsX5_shift wsX5_refuse := goodIn_r _ [8, 9, 96, 97, 98, 99, 100, 101, 102, 103, 104, 105] (by decide +kernel) (by decide +kernel)
set_option maxRecDepth 20000 in
theorem gX5_shift_X5_refuse : GoodIn wsX5_shift (wsV RX5 49 RX5 yX5_refuse wsX5_refuse) := goodIn_app (goodIn_of _ (by decide +kernel)) ggX5_shift_X5_refuse
set_option maxRecDepth 20000 in
theorem ggX5_shift_X5_compareAll : GoodIn wsX5_shift wsX5_compareAll := goodIn_r _ [13, 14, 15, 16, 3, 17, 18, 19, 20, 21, 22, 23, 24, 25, 26, 27, 28, 29, 30, 31, 32, 33, 34, 35, 36, 37, 38, 39, 40, 41, 42, 43, 44, 45, 46, 47, 48, 49, 50, 51, 52, 53, 54, 55, 56, 57, 58, 59, 60, 61, 62, 63, 64, 65, 66, 67, 68, 69, 70, 71, 72, 73, 74, 75, 76, 77, 78, 79, 80, 81, 82, 83, 84, 85, 86, 87, 88, 89, 90, 91, 92, 93, 94, 95, 96, 97, 98, 99, 100, 101, 102, 103, 104, 105, 106, 107, 108, 109, 110, 111, 112, 113, 114, 115, 116, 117, 118, 119, 120, 121, 122, 123] (by decide +kernel) (by decide +kernel)
set_option maxRecDepth 20000 in
theorem gX5_shift_X5_compareAll : GoodIn wsX5_shift (wsV RX5 143 RX5 yX5_compareAll wsX5_compareAll) := goodIn_app (goodIn_of _ (by decide +kernel)) ggX5_shift_X5_compareAll
theorem dX5_shift_0 : decode cX5_shift 0 = .ok (.iload_n 1, 1) := by decide +kernel
theorem dX5_shift_1 : decode cX5_shift 1 = .ok (.invokestatic 91, 3) := by decide +kernel
theorem dX5_shift_4 : decode cX5_shift 4 = .ok (.ifCond .eq 10, 3) := by decide +kernel
theorem dX5_shift_7 : decode cX5_shift 7 = .ok (.aload_n 0, 1) := by decide +kernel
theorem dX5_shift_8 : decode cX5_shift 8 = .ok (.bipush (-2), 2) := by decide +kernel
theorem dX5_shift_10 : decode cX5_shift 10 = .ok (.invokevirtual 49, 3) := by decide +kernel
theorem dX5_shift_13 : decode cX5_shift 13 = .ok (.ireturn, 1) := by decide +kernel
theorem dX5_shift_14 : decode cX5_shift 14 = .ok (.iconst 0, 1) := by decide +kernel
theorem dX5_shift_15 : decode cX5_shift 15 = .ok (.istore_n 2, 1) := by decide +kernel
theorem dX5_shift_16 : decode cX5_shift 16 = .ok (.iconst 1, 1) := by decide +kernel
theorem dX5_shift_17 : decode cX5_shift 17 = .ok (.istore_n 3, 1) := by decide +kernel
theorem dX5_shift_18 : decode cX5_shift 18 = .ok (.iload_n 3, 1) := by decide +kernel
theorem dX5_shift_19 : decode cX5_shift 19 = .ok (.bipush 6, 2) := by decide +kernel
theorem dX5_shift_21 : decode cX5_shift 21 = .ok (.if_icmp .ge 36, 3) := by decide +kernel
theorem dX5_shift_24 : decode cX5_shift 24 = .ok (.aload_n 0, 1) := by decide +kernel
theorem dX5_shift_25 : decode cX5_shift 25 = .ok (.iload_n 3, 1) := by decide +kernel
theorem dX5_shift_26 : decode cX5_shift 26 = .ok (.iload_n 2, 1) := by decide +kernel
theorem dX5_shift_27 : decode cX5_shift 27 = .ok (.invokevirtual 143, 3) := by decide +kernel
theorem dX5_shift_30 : decode cX5_shift 30 = .ok (.istore 4, 2) := by decide +kernel
theorem dX5_shift_32 : decode cX5_shift 32 = .ok (.iload_n 1, 1) := by decide +kernel
theorem dX5_shift_33 : decode cX5_shift 33 = .ok (.ifCond .ne 11, 3) := by decide +kernel
theorem dX5_shift_36 : decode cX5_shift 36 = .ok (.iload 4, 2) := by decide +kernel
theorem dX5_shift_38 : decode cX5_shift 38 = .ok (.ifCond .le 13, 3) := by decide +kernel
theorem dX5_shift_41 : decode cX5_shift 41 = .ok (.goto 8, 3) := by decide +kernel
theorem dX5_shift_44 : decode cX5_shift 44 = .ok (.iload 4, 2) := by decide +kernel
theorem dX5_shift_46 : decode cX5_shift 46 = .ok (.ifCond .ge 5, 3) := by decide +kernel
theorem dX5_shift_49 : decode cX5_shift 49 = .ok (.iload_n 3, 1) := by decide +kernel
theorem dX5_shift_50 : decode cX5_shift 50 = .ok (.istore_n 2, 1) := by decide +kernel
theorem dX5_shift_51 : decode cX5_shift 51 = .ok (.iinc 3 1, 3) := by decide +kernel
theorem dX5_shift_54 : decode cX5_shift 54 = .ok (.goto (-36), 3) := by decide +kernel
theorem dX5_shift_57 : decode cX5_shift 57 = .ok (.iload_n 2, 1) := by decide +kernel
theorem dX5_shift_58 : decode cX5_shift 58 = .ok (.ireturn, 1) := by decide +kernel
set_option maxRecDepth 20000 in
theorem ggX5_fits_X5_isNoBit : GoodIn wsX5_fits wsX5_isNoBit := goodIn_r _ [5] (by decide +kernel) (by decide +kernel)
set_option maxRecDepth 20000 in
theorem gX5_fits_X5_isNoBit : GoodIn wsX5_fits (va_wsS RX5 91 yX5_isNoBit wsX5_isNoBit) := goodIn_app (goodIn_of _ (by decide +kernel)) ggX5_fits_X5_isNoBit
set_option maxRecDepth 20000 in
theorem ggX5_fits_X5_refuse : GoodIn wsX5_fits wsX5_refuse := goodIn_r _ [9, 10, 39, 40, 41, 42, 43, 44, 45, 46, 47, 48] (by decide +kernel) (by decide +kernel)
set_option maxRecDepth 20000 in
theorem gX5_fits_X5_refuse : GoodIn wsX5_fits (wsV RX5 49 RX5 yX5_refuse wsX5_refuse) := goodIn_app (goodIn_of _ (by decide +kernel)) ggX5_fits_X5_refuse
set_option maxRecDepth 20000 in
theorem ggX5_fits_X3_endsAllSeen : GoodIn wsX5_fits wsX3_endsAllSeen := goodIn_r _ [15, 16, 17, 18, 19, 14, 20, 21, 22, 23, 24, 25, 26, 27, 28, 29, 30, 31, 32, 33, 4, 34, 49, 50, 51, 52, 53, 54, 55, 56] (by decide +kernel) (by decide +kernel)
set_option maxRecDepth 20000 in
theorem gX5_fits_X3_endsAllSeen : GoodIn wsX5_fits (wsV RX5 147 RX3 yX3_endsAllSeen wsX3_endsAllSeen) := goodIn_app (goodIn_of _ (by decide +kernel)) ggX5_fits_X3_endsAllSeen
set_option maxRecDepth 20000 in
theorem ggX5_fits_X3_countStoppedAhead : GoodIn wsX5_fits wsX3_countStoppedAhead := goodIn_r _ [38, 16, 17, 18, 19, 14, 20, 21, 22, 23, 24, 25, 26, 27, 28, 29, 30, 31, 32, 33, 4, 34, 49, 50, 51, 52, 53, 54, 55, 56] (by decide +kernel) (by decide +kernel)
set_option maxRecDepth 20000 in
theorem gX5_fits_X3_countStoppedAhead : GoodIn wsX5_fits (wsV RX5 150 RX3 yX3_countStoppedAhead wsX3_countStoppedAhead) := goodIn_app (goodIn_of _ (by decide +kernel)) ggX5_fits_X3_countStoppedAhead
theorem dX5_fits_0 : decode cX5_fits 0 = .ok (.iload_n 1, 1) := by decide +kernel
theorem dX5_fits_1 : decode cX5_fits 1 = .ok (.invokestatic 91, 3) := by decide +kernel
theorem dX5_fits_4 : decode cX5_fits 4 = .ok (.ifCond .eq 10, 3) := by decide +kernel
theorem dX5_fits_7 : decode cX5_fits 7 = .ok (.aload_n 0, 1) := by decide +kernel
theorem dX5_fits_8 : decode cX5_fits 8 = .ok (.bipush (-2), 2) := by decide +kernel
theorem dX5_fits_10 : decode cX5_fits 10 = .ok (.invokevirtual 49, 3) := by decide +kernel
theorem dX5_fits_13 : decode cX5_fits 13 = .ok (.ireturn, 1) := by decide +kernel
theorem dX5_fits_14 : decode cX5_fits 14 = .ok (.iconst 0, 1) := by decide +kernel
theorem dX5_fits_15 : decode cX5_fits 15 = .ok (.istore_n 2, 1) := by decide +kernel
theorem dX5_fits_16 : decode cX5_fits 16 = .ok (.iconst 0, 1) := by decide +kernel
theorem dX5_fits_17 : decode cX5_fits 17 = .ok (.istore_n 3, 1) := by decide +kernel
theorem dX5_fits_18 : decode cX5_fits 18 = .ok (.iload_n 3, 1) := by decide +kernel
theorem dX5_fits_19 : decode cX5_fits 19 = .ok (.bipush 6, 2) := by decide +kernel
theorem dX5_fits_21 : decode cX5_fits 21 = .ok (.if_icmp .ge 53, 3) := by decide +kernel
theorem dX5_fits_24 : decode cX5_fits 24 = .ok (.iload_n 1, 1) := by decide +kernel
theorem dX5_fits_25 : decode cX5_fits 25 = .ok (.ifCond .ne 14, 3) := by decide +kernel
theorem dX5_fits_28 : decode cX5_fits 28 = .ok (.aload_n 0, 1) := by decide +kernel
theorem dX5_fits_29 : decode cX5_fits 29 = .ok (.getfield 10, 3) := by decide +kernel
theorem dX5_fits_32 : decode cX5_fits 32 = .ok (.iload_n 3, 1) := by decide +kernel
theorem dX5_fits_33 : decode cX5_fits 33 = .ok (.invokevirtual 147, 3) := by decide +kernel
theorem dX5_fits_36 : decode cX5_fits 36 = .ok (.goto 19, 3) := by decide +kernel
theorem dX5_fits_39 : decode cX5_fits 39 = .ok (.aload_n 0, 1) := by decide +kernel
theorem dX5_fits_40 : decode cX5_fits 40 = .ok (.getfield 10, 3) := by decide +kernel
theorem dX5_fits_43 : decode cX5_fits 43 = .ok (.iload_n 3, 1) := by decide +kernel
theorem dX5_fits_44 : decode cX5_fits 44 = .ok (.invokevirtual 150, 3) := by decide +kernel
theorem dX5_fits_47 : decode cX5_fits 47 = .ok (.ifCond .ne 7, 3) := by decide +kernel
theorem dX5_fits_50 : decode cX5_fits 50 = .ok (.iconst 1, 1) := by decide +kernel
theorem dX5_fits_51 : decode cX5_fits 51 = .ok (.goto 4, 3) := by decide +kernel
theorem dX5_fits_54 : decode cX5_fits 54 = .ok (.iconst 0, 1) := by decide +kernel
theorem dX5_fits_55 : decode cX5_fits 55 = .ok (.istore 4, 2) := by decide +kernel
theorem dX5_fits_57 : decode cX5_fits 57 = .ok (.iload 4, 2) := by decide +kernel
theorem dX5_fits_59 : decode cX5_fits 59 = .ok (.ifCond .eq 9, 3) := by decide +kernel
theorem dX5_fits_62 : decode cX5_fits 62 = .ok (.iload_n 2, 1) := by decide +kernel
theorem dX5_fits_63 : decode cX5_fits 63 = .ok (.iconst 1, 1) := by decide +kernel
theorem dX5_fits_64 : decode cX5_fits 64 = .ok (.iload_n 3, 1) := by decide +kernel
theorem dX5_fits_65 : decode cX5_fits 65 = .ok (.ishl, 1) := by decide +kernel
theorem dX5_fits_66 : decode cX5_fits 66 = .ok (.ior, 1) := by decide +kernel
theorem dX5_fits_67 : decode cX5_fits 67 = .ok (.istore_n 2, 1) := by decide +kernel
theorem dX5_fits_68 : decode cX5_fits 68 = .ok (.iinc 3 1, 3) := by decide +kernel
theorem dX5_fits_71 : decode cX5_fits 71 = .ok (.goto (-53), 3) := by decide +kernel
theorem dX5_fits_74 : decode cX5_fits 74 = .ok (.iload_n 2, 1) := by decide +kernel
theorem dX5_fits_75 : decode cX5_fits 75 = .ok (.ireturn, 1) := by decide +kernel
set_option maxRecDepth 20000 in
theorem ggX5_judge_X3_stopPlace : GoodIn wsX5_judge wsX3_stopPlace := goodIn_r _ [8, 9, 10, 11, 12, 13, 24, 25, 26, 27, 28, 29, 30, 31] (by decide +kernel) (by decide +kernel)
set_option maxRecDepth 20000 in
theorem gX5_judge_X3_stopPlace : GoodIn wsX5_judge (wsV RX5 153 RX3 yX3_stopPlace wsX3_stopPlace) := goodIn_app (goodIn_of _ (by decide +kernel)) ggX5_judge_X3_stopPlace
theorem dX5_judge_0 : decode cX5_judge 0 = .ok (.aload_n 0, 1) := by decide +kernel
theorem dX5_judge_1 : decode cX5_judge 1 = .ok (.getfield 10, 3) := by decide +kernel
theorem dX5_judge_4 : decode cX5_judge 4 = .ok (.aload_n 0, 1) := by decide +kernel
theorem dX5_judge_5 : decode cX5_judge 5 = .ok (.getfield 10, 3) := by decide +kernel
theorem dX5_judge_8 : decode cX5_judge 8 = .ok (.getfield 68, 3) := by decide +kernel
theorem dX5_judge_11 : decode cX5_judge 11 = .ok (.aload_n 0, 1) := by decide +kernel
theorem dX5_judge_12 : decode cX5_judge 12 = .ok (.getfield 132, 3) := by decide +kernel
theorem dX5_judge_15 : decode cX5_judge 15 = .ok (.aload_n 0, 1) := by decide +kernel
theorem dX5_judge_16 : decode cX5_judge 16 = .ok (.getfield 135, 3) := by decide +kernel
theorem dX5_judge_19 : decode cX5_judge 19 = .ok (.invokevirtual 153, 3) := by decide +kernel
theorem dX5_judge_22 : decode cX5_judge 22 = .ok (.istore_n 1, 1) := by decide +kernel
theorem dX5_judge_23 : decode cX5_judge 23 = .ok (.aload_n 0, 1) := by decide +kernel
theorem dX5_judge_24 : decode cX5_judge 24 = .ok (.getfield 132, 3) := by decide +kernel
theorem dX5_judge_27 : decode cX5_judge 27 = .ok (.istore_n 2, 1) := by decide +kernel
theorem dX5_judge_28 : decode cX5_judge 28 = .ok (.aload_n 0, 1) := by decide +kernel
theorem dX5_judge_29 : decode cX5_judge 29 = .ok (.iconst 0, 1) := by decide +kernel
theorem dX5_judge_30 : decode cX5_judge 30 = .ok (.putfield 132, 3) := by decide +kernel
theorem dX5_judge_33 : decode cX5_judge 33 = .ok (.aload_n 0, 1) := by decide +kernel
theorem dX5_judge_34 : decode cX5_judge 34 = .ok (.iconst 0, 1) := by decide +kernel
theorem dX5_judge_35 : decode cX5_judge 35 = .ok (.putfield 135, 3) := by decide +kernel
theorem dX5_judge_38 : decode cX5_judge 38 = .ok (.iload_n 1, 1) := by decide +kernel
theorem dX5_judge_39 : decode cX5_judge 39 = .ok (.iload_n 2, 1) := by decide +kernel
theorem dX5_judge_40 : decode cX5_judge 40 = .ok (.if_icmp .lt 6, 3) := by decide +kernel
theorem dX5_judge_43 : decode cX5_judge 43 = .ok (.bipush (-9), 2) := by decide +kernel
theorem dX5_judge_45 : decode cX5_judge 45 = .ok (.ireturn, 1) := by decide +kernel
theorem dX5_judge_46 : decode cX5_judge 46 = .ok (.iload_n 1, 1) := by decide +kernel
theorem dX5_judge_47 : decode cX5_judge 47 = .ok (.iload_n 2, 1) := by decide +kernel
theorem dX5_judge_48 : decode cX5_judge 48 = .ok (.iconst 1, 1) := by decide +kernel
theorem dX5_judge_49 : decode cX5_judge 49 = .ok (.isub, 1) := by decide +kernel
theorem dX5_judge_50 : decode cX5_judge 50 = .ok (.if_icmp .ne 8, 3) := by decide +kernel
theorem dX5_judge_53 : decode cX5_judge 53 = .ok (.bipush 20, 2) := by decide +kernel
theorem dX5_judge_55 : decode cX5_judge 55 = .ok (.goto 4, 3) := by decide +kernel
theorem dX5_judge_58 : decode cX5_judge 58 = .ok (.iload_n 1, 1) := by decide +kernel
theorem dX5_judge_59 : decode cX5_judge 59 = .ok (.ireturn, 1) := by decide +kernel
set_option maxRecDepth 20000 in
theorem ggX5_seen_X5_refuse : GoodIn wsX5_seen wsX5_refuse := goodIn_r _ [6, 7, 22, 23, 24, 25, 26, 27, 28, 29, 30, 31] (by decide +kernel) (by decide +kernel)
set_option maxRecDepth 20000 in
theorem gX5_seen_X5_refuse : GoodIn wsX5_seen (wsV RX5 49 RX5 yX5_refuse wsX5_refuse) := goodIn_app (goodIn_of _ (by decide +kernel)) ggX5_seen_X5_refuse
set_option maxRecDepth 20000 in
theorem ggX5_seen_X5_isNoBit : GoodIn wsX5_seen wsX5_isNoBit := goodIn_r _ [10] (by decide +kernel) (by decide +kernel)
set_option maxRecDepth 20000 in
theorem gX5_seen_X5_isNoBit : GoodIn wsX5_seen (va_wsS RX5 91 yX5_isNoBit wsX5_isNoBit) := goodIn_app (goodIn_of _ (by decide +kernel)) ggX5_seen_X5_isNoBit
set_option maxRecDepth 20000 in
theorem ggX5_seen_X3_lengthOf : GoodIn wsX5_seen wsX3_lengthOf := goodIn_r _ [15, 16, 32, 33, 34, 35, 36, 37, 38, 39] (by decide +kernel) (by decide +kernel)
set_option maxRecDepth 20000 in
theorem gX5_seen_X3_lengthOf : GoodIn wsX5_seen (wsV RX5 159 RX3 yX3_lengthOf wsX3_lengthOf) := goodIn_app (goodIn_of _ (by decide +kernel)) ggX5_seen_X3_lengthOf
set_option maxRecDepth 20000 in
theorem ggX5_seen_X3_sortsOf : GoodIn wsX5_seen wsX3_sortsOf := goodIn_r _ [20, 21, 32, 33, 34, 35, 36, 37, 38, 39] (by decide +kernel) (by decide +kernel)
set_option maxRecDepth 20000 in
theorem gX5_seen_X3_sortsOf : GoodIn wsX5_seen (wsV RX5 162 RX3 yX3_sortsOf wsX3_sortsOf) := goodIn_app (goodIn_of _ (by decide +kernel)) ggX5_seen_X3_sortsOf
theorem dX5_seen_0 : decode cX5_seen 0 = .ok (.iload_n 1, 1) := by decide +kernel
theorem dX5_seen_1 : decode cX5_seen 1 = .ok (.ifCond .ge 10, 3) := by decide +kernel
theorem dX5_seen_4 : decode cX5_seen 4 = .ok (.aload_n 0, 1) := by decide +kernel
theorem dX5_seen_5 : decode cX5_seen 5 = .ok (.bipush (-4), 2) := by decide +kernel
theorem dX5_seen_7 : decode cX5_seen 7 = .ok (.invokevirtual 49, 3) := by decide +kernel
theorem dX5_seen_10 : decode cX5_seen 10 = .ok (.ireturn, 1) := by decide +kernel
theorem dX5_seen_11 : decode cX5_seen 11 = .ok (.iload_n 2, 1) := by decide +kernel
theorem dX5_seen_12 : decode cX5_seen 12 = .ok (.invokestatic 91, 3) := by decide +kernel
theorem dX5_seen_15 : decode cX5_seen 15 = .ok (.ifCond .eq 10, 3) := by decide +kernel
theorem dX5_seen_18 : decode cX5_seen 18 = .ok (.aload_n 0, 1) := by decide +kernel
theorem dX5_seen_19 : decode cX5_seen 19 = .ok (.bipush (-2), 2) := by decide +kernel
theorem dX5_seen_21 : decode cX5_seen 21 = .ok (.invokevirtual 49, 3) := by decide +kernel
theorem dX5_seen_24 : decode cX5_seen 24 = .ok (.ireturn, 1) := by decide +kernel
theorem dX5_seen_25 : decode cX5_seen 25 = .ok (.iload_n 1, 1) := by decide +kernel
theorem dX5_seen_26 : decode cX5_seen 26 = .ok (.aload_n 0, 1) := by decide +kernel
theorem dX5_seen_27 : decode cX5_seen 27 = .ok (.getfield 10, 3) := by decide +kernel
theorem dX5_seen_30 : decode cX5_seen 30 = .ok (.getfield 157, 3) := by decide +kernel
theorem dX5_seen_33 : decode cX5_seen 33 = .ok (.if_icmp .lt 6, 3) := by decide +kernel
theorem dX5_seen_36 : decode cX5_seen 36 = .ok (.bipush (-9), 2) := by decide +kernel
theorem dX5_seen_38 : decode cX5_seen 38 = .ok (.ireturn, 1) := by decide +kernel
theorem dX5_seen_39 : decode cX5_seen 39 = .ok (.iload_n 2, 1) := by decide +kernel
theorem dX5_seen_40 : decode cX5_seen 40 = .ok (.ifCond .ne 14, 3) := by decide +kernel
theorem dX5_seen_43 : decode cX5_seen 43 = .ok (.aload_n 0, 1) := by decide +kernel
theorem dX5_seen_44 : decode cX5_seen 44 = .ok (.getfield 10, 3) := by decide +kernel
theorem dX5_seen_47 : decode cX5_seen 47 = .ok (.iload_n 1, 1) := by decide +kernel
theorem dX5_seen_48 : decode cX5_seen 48 = .ok (.invokevirtual 159, 3) := by decide +kernel
theorem dX5_seen_51 : decode cX5_seen 51 = .ok (.goto 11, 3) := by decide +kernel
theorem dX5_seen_54 : decode cX5_seen 54 = .ok (.aload_n 0, 1) := by decide +kernel
theorem dX5_seen_55 : decode cX5_seen 55 = .ok (.getfield 10, 3) := by decide +kernel
theorem dX5_seen_58 : decode cX5_seen 58 = .ok (.iload_n 1, 1) := by decide +kernel
theorem dX5_seen_59 : decode cX5_seen 59 = .ok (.invokevirtual 162, 3) := by decide +kernel
theorem dX5_seen_62 : decode cX5_seen 62 = .ok (.ireturn, 1) := by decide +kernel
set_option maxRecDepth 20000 in
theorem ggX5_cheats_X3_countStoppedAhead : GoodIn wsX5_cheats wsX3_countStoppedAhead := goodIn_r _ [6, 7, 8, 9, 10, 5, 11, 12, 13, 14, 15, 16, 17, 18, 19, 20, 21, 22, 23, 24, 25, 26, 37, 38, 39, 40, 41, 42, 43, 44] (by decide +kernel) (by decide +kernel)
set_option maxRecDepth 20000 in
theorem gX5_cheats_X3_countStoppedAhead : GoodIn wsX5_cheats (wsV RX5 150 RX3 yX3_countStoppedAhead wsX3_countStoppedAhead) := goodIn_app (goodIn_of _ (by decide +kernel)) ggX5_cheats_X3_countStoppedAhead
theorem dX5_cheats_0 : decode cX5_cheats 0 = .ok (.aload_n 0, 1) := by decide +kernel
theorem dX5_cheats_1 : decode cX5_cheats 1 = .ok (.getfield 10, 3) := by decide +kernel
theorem dX5_cheats_4 : decode cX5_cheats 4 = .ok (.aload_n 0, 1) := by decide +kernel
theorem dX5_cheats_5 : decode cX5_cheats 5 = .ok (.getfield 10, 3) := by decide +kernel
theorem dX5_cheats_8 : decode cX5_cheats 8 = .ok (.getfield 68, 3) := by decide +kernel
theorem dX5_cheats_11 : decode cX5_cheats 11 = .ok (.invokevirtual 150, 3) := by decide +kernel
theorem dX5_cheats_14 : decode cX5_cheats 14 = .ok (.ireturn, 1) := by decide +kernel
set_option maxRecDepth 20000 in
theorem ggX5_lots_X5_refuse : GoodIn wsX5_lots wsX5_refuse := goodIn_r _ [5, 6, 31, 32, 33, 34, 35, 36, 37, 38, 39, 40] (by decide +kernel) (by decide +kernel)
set_option maxRecDepth 20000 in
theorem gX5_lots_X5_refuse : GoodIn wsX5_lots (wsV RX5 49 RX5 yX5_refuse wsX5_refuse) := goodIn_app (goodIn_of _ (by decide +kernel)) ggX5_lots_X5_refuse
set_option maxRecDepth 20000 in
theorem ggX5_lots_X5_isNoBit : GoodIn wsX5_lots wsX5_isNoBit := goodIn_r _ [9] (by decide +kernel) (by decide +kernel)
set_option maxRecDepth 20000 in
theorem gX5_lots_X5_isNoBit : GoodIn wsX5_lots (va_wsS RX5 91 yX5_isNoBit wsX5_isNoBit) := goodIn_app (goodIn_of _ (by decide +kernel)) ggX5_lots_X5_isNoBit
set_option maxRecDepth 20000 in
theorem ggX5_lots_X5_countLots : GoodIn wsX5_lots wsX5_countLots := goodIn_r _ [13, 14, 15, 16, 17, 18, 19, 4, 20, 21, 22, 23, 24, 25, 26, 27, 28, 29, 30, 31, 32, 33, 34, 35, 36, 37, 38, 39, 40, 41, 42, 43, 44, 45, 46, 47, 48] (by decide +kernel) (by decide +kernel)
set_option maxRecDepth 20000 in
theorem gX5_lots_X5_countLots : GoodIn wsX5_lots (wsV RX5 165 RX5 yX5_countLots wsX5_countLots) := goodIn_app (goodIn_of _ (by decide +kernel)) ggX5_lots_X5_countLots
theorem dX5_lots_0 : decode cX5_lots 0 = .ok (.iload_n 1, 1) := by decide +kernel
theorem dX5_lots_1 : decode cX5_lots 1 = .ok (.iconst 1, 1) := by decide +kernel
theorem dX5_lots_2 : decode cX5_lots 2 = .ok (.if_icmp .ge 10, 3) := by decide +kernel
theorem dX5_lots_5 : decode cX5_lots 5 = .ok (.aload_n 0, 1) := by decide +kernel
theorem dX5_lots_6 : decode cX5_lots 6 = .ok (.bipush (-4), 2) := by decide +kernel
theorem dX5_lots_8 : decode cX5_lots 8 = .ok (.invokevirtual 49, 3) := by decide +kernel
theorem dX5_lots_11 : decode cX5_lots 11 = .ok (.ireturn, 1) := by decide +kernel
theorem dX5_lots_12 : decode cX5_lots 12 = .ok (.iload_n 1, 1) := by decide +kernel
theorem dX5_lots_13 : decode cX5_lots 13 = .ok (.bipush 40, 2) := by decide +kernel
theorem dX5_lots_15 : decode cX5_lots 15 = .ok (.if_icmp .le 10, 3) := by decide +kernel
theorem dX5_lots_18 : decode cX5_lots 18 = .ok (.aload_n 0, 1) := by decide +kernel
theorem dX5_lots_19 : decode cX5_lots 19 = .ok (.bipush (-6), 2) := by decide +kernel
theorem dX5_lots_21 : decode cX5_lots 21 = .ok (.invokevirtual 49, 3) := by decide +kernel
theorem dX5_lots_24 : decode cX5_lots 24 = .ok (.ireturn, 1) := by decide +kernel
theorem dX5_lots_25 : decode cX5_lots 25 = .ok (.iload_n 3, 1) := by decide +kernel
theorem dX5_lots_26 : decode cX5_lots 26 = .ok (.invokestatic 91, 3) := by decide +kernel
theorem dX5_lots_29 : decode cX5_lots 29 = .ok (.ifCond .eq 10, 3) := by decide +kernel
theorem dX5_lots_32 : decode cX5_lots 32 = .ok (.aload_n 0, 1) := by decide +kernel
theorem dX5_lots_33 : decode cX5_lots 33 = .ok (.bipush (-2), 2) := by decide +kernel
theorem dX5_lots_35 : decode cX5_lots 35 = .ok (.invokevirtual 49, 3) := by decide +kernel
theorem dX5_lots_38 : decode cX5_lots 38 = .ok (.ireturn, 1) := by decide +kernel
theorem dX5_lots_39 : decode cX5_lots 39 = .ok (.aload_n 0, 1) := by decide +kernel
theorem dX5_lots_40 : decode cX5_lots 40 = .ok (.iload_n 1, 1) := by decide +kernel
theorem dX5_lots_41 : decode cX5_lots 41 = .ok (.iload_n 2, 1) := by decide +kernel
theorem dX5_lots_42 : decode cX5_lots 42 = .ok (.iload_n 3, 1) := by decide +kernel
theorem dX5_lots_43 : decode cX5_lots 43 = .ok (.invokevirtual 165, 3) := by decide +kernel
theorem dX5_lots_46 : decode cX5_lots 46 = .ok (.ireturn, 1) := by decide +kernel
set_option maxRecDepth 20000 in
theorem ggX5_image_X3_copy : GoodIn wsX5_image wsX3_copy := goodIn_r _ [8, 9, 10, 11, 12, 13, 14, 15, 16, 17, 18, 19, 7, 20, 21, 22, 23, 24, 35, 36, 37, 38, 39, 40, 41, 42] (by decide +kernel) (by decide +kernel)
set_option maxRecDepth 20000 in
theorem gX5_image_X3_copy : GoodIn wsX5_image (wsV RX5 168 RX3 yX3_copy wsX3_copy) := goodIn_app (goodIn_of _ (by decide +kernel)) ggX5_image_X3_copy
theorem dX5_image_0 : decode cX5_image 0 = .ok (.aload_n 0, 1) := by decide +kernel
theorem dX5_image_1 : decode cX5_image 1 = .ok (.getfield 19, 3) := by decide +kernel
theorem dX5_image_4 : decode cX5_image 4 = .ok (.aload_n 0, 1) := by decide +kernel
theorem dX5_image_5 : decode cX5_image 5 = .ok (.getfield 10, 3) := by decide +kernel
theorem dX5_image_8 : decode cX5_image 8 = .ok (.invokevirtual 168, 3) := by decide +kernel
theorem dX5_image_11 : decode cX5_image 11 = .ok (.aload_n 0, 1) := by decide +kernel
theorem dX5_image_12 : decode cX5_image 12 = .ok (.iconst 1, 1) := by decide +kernel
theorem dX5_image_13 : decode cX5_image 13 = .ok (.putfield 172, 3) := by decide +kernel
theorem dX5_image_16 : decode cX5_image 16 = .ok (.aload_n 0, 1) := by decide +kernel
theorem dX5_image_17 : decode cX5_image 17 = .ok (.getfield 19, 3) := by decide +kernel
theorem dX5_image_20 : decode cX5_image 20 = .ok (.getfield 157, 3) := by decide +kernel
