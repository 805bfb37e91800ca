theorem dX5_image_23 : decode cX5_image 23 = .ok (.ireturn, 1) := by decide +kernel
set_option maxRecDepth 20000 in
theorem ggX5_on_X5_refuse : GoodIn wsX5_on wsX5_refuse := goodIn_r _ [8, 9, 31, 32, 33, 34, 35, 36, 37, 38, 39, 40] (by decide +kernel) (by decide +kernel)
set_option maxRecDepth 20000 in
theorem gX5_on_X5_refuse : GoodIn wsX5_on (wsV RX5 49 RX5 yX5_refuse wsX5_refuse) := goodIn_app (goodIn_of _ (by decide +kernel)) ggX5_on_X5_refuse
set_option maxRecDepth 20000 in
theorem ggX5_on_X3_copy : GoodIn wsX5_on wsX3_copy := goodIn_r _ [14, 15, 16, 17, 18, 19, 20, 21, 22, 23, 24, 25, 13, 26, 27, 28, 29, 30, 41, 42, 43, 44, 45, 46, 47, 48] (by decide +kernel) (by decide +kernel)
set_option maxRecDepth 20000 in
theorem gX5_on_X3_copy : GoodIn wsX5_on (wsV RX5 168 RX3 yX3_copy wsX3_copy) := goodIn_app (goodIn_of _ (by decide +kernel)) ggX5_on_X3_copy
theorem dX5_on_0 : decode cX5_on 0 = .ok (.aload_n 0, 1) := by decide +kernel
theorem dX5_on_1 : decode cX5_on 1 = .ok (.getfield 172, 3) := by decide +kernel
theorem dX5_on_4 : decode cX5_on 4 = .ok (.ifCond .ne 10, 3) := by decide +kernel
theorem dX5_on_7 : decode cX5_on 7 = .ok (.aload_n 0, 1) := by decide +kernel
theorem dX5_on_8 : decode cX5_on 8 = .ok (.bipush (-3), 2) := by decide +kernel
theorem dX5_on_10 : decode cX5_on 10 = .ok (.invokevirtual 49, 3) := by decide +kernel
theorem dX5_on_13 : decode cX5_on 13 = .ok (.ireturn, 1) := by decide +kernel
theorem dX5_on_14 : decode cX5_on 14 = .ok (.aload_n 0, 1) := by decide +kernel
theorem dX5_on_15 : decode cX5_on 15 = .ok (.getfield 10, 3) := by decide +kernel
theorem dX5_on_18 : decode cX5_on 18 = .ok (.aload_n 0, 1) := by decide +kernel
theorem dX5_on_19 : decode cX5_on 19 = .ok (.getfield 19, 3) := by decide +kernel
theorem dX5_on_22 : decode cX5_on 22 = .ok (.invokevirtual 168, 3) := by decide +kernel
theorem dX5_on_25 : decode cX5_on 25 = .ok (.aload_n 0, 1) := by decide +kernel
theorem dX5_on_26 : decode cX5_on 26 = .ok (.getfield 10, 3) := by decide +kernel
theorem dX5_on_29 : decode cX5_on 29 = .ok (.getfield 157, 3) := by decide +kernel
theorem dX5_on_32 : decode cX5_on 32 = .ok (.ireturn, 1) := by decide +kernel
set_option maxRecDepth 20000 in
theorem ggX5_count_X3_number : GoodIn wsX5_count wsX3_number := goodIn_r _ [8, 9, 10, 11, 28, 29, 30, 31, 32, 33, 34, 35] (by decide +kernel) (by decide +kernel)
set_option maxRecDepth 20000 in
theorem gX5_count_X3_number : GoodIn wsX5_count (wsV RX5 80 RX3 yX3_number wsX3_number) := goodIn_app (goodIn_of _ (by decide +kernel)) ggX5_count_X3_number
set_option maxRecDepth 20000 in
theorem ggX5_count_X5_refusalsAt : GoodIn wsX5_count wsX5_refusalsAt := goodIn_r _ [16, 17, 18, 19, 20, 21, 22, 23, 24, 25, 26, 27] (by decide +kernel) (by decide +kernel)
set_option maxRecDepth 20000 in
theorem gX5_count_X5_refusalsAt : GoodIn wsX5_count (wsV RX5 176 RX5 yX5_refusalsAt wsX5_refusalsAt) := goodIn_app (goodIn_of _ (by decide +kernel)) ggX5_count_X5_refusalsAt
theorem dX5_count_0 : decode cX5_count 0 = .ok (.iload_n 1, 1) := by decide +kernel
theorem dX5_count_1 : decode cX5_count 1 = .ok (.tableswitch 93 0 7 #[47, 47, 47, 56, 64, 72, 80, 85], 47) := by decide +kernel
theorem dX5_count_48 : decode cX5_count 48 = .ok (.aload_n 0, 1) := by decide +kernel
theorem dX5_count_49 : decode cX5_count 49 = .ok (.getfield 10, 3) := by decide +kernel
theorem dX5_count_52 : decode cX5_count 52 = .ok (.iload_n 1, 1) := by decide +kernel
theorem dX5_count_53 : decode cX5_count 53 = .ok (.invokevirtual 80, 3) := by decide +kernel
theorem dX5_count_56 : decode cX5_count 56 = .ok (.ireturn, 1) := by decide +kernel
theorem dX5_count_57 : decode cX5_count 57 = .ok (.aload_n 0, 1) := by decide +kernel
theorem dX5_count_58 : decode cX5_count 58 = .ok (.getfield 10, 3) := by decide +kernel
theorem dX5_count_61 : decode cX5_count 61 = .ok (.getfield 68, 3) := by decide +kernel
theorem dX5_count_64 : decode cX5_count 64 = .ok (.ireturn, 1) := by decide +kernel
theorem dX5_count_65 : decode cX5_count 65 = .ok (.aload_n 0, 1) := by decide +kernel
theorem dX5_count_66 : decode cX5_count 66 = .ok (.getfield 10, 3) := by decide +kernel
theorem dX5_count_69 : decode cX5_count 69 = .ok (.getfield 71, 3) := by decide +kernel
theorem dX5_count_72 : decode cX5_count 72 = .ok (.ireturn, 1) := by decide +kernel
theorem dX5_count_73 : decode cX5_count 73 = .ok (.aload_n 0, 1) := by decide +kernel
theorem dX5_count_74 : decode cX5_count 74 = .ok (.getfield 10, 3) := by decide +kernel
theorem dX5_count_77 : decode cX5_count 77 = .ok (.getfield 157, 3) := by decide +kernel
theorem dX5_count_80 : decode cX5_count 80 = .ok (.ireturn, 1) := by decide +kernel
theorem dX5_count_81 : decode cX5_count 81 = .ok (.aload_n 0, 1) := by decide +kernel
theorem dX5_count_82 : decode cX5_count 82 = .ok (.getfield 132, 3) := by decide +kernel
theorem dX5_count_85 : decode cX5_count 85 = .ok (.ireturn, 1) := by decide +kernel
theorem dX5_count_86 : decode cX5_count 86 = .ok (.aload_n 0, 1) := by decide +kernel
theorem dX5_count_87 : decode cX5_count 87 = .ok (.getfield 25, 3) := by decide +kernel
theorem dX5_count_90 : decode cX5_count 90 = .ok (.getfield 53, 3) := by decide +kernel
theorem dX5_count_93 : decode cX5_count 93 = .ok (.ireturn, 1) := by decide +kernel
theorem dX5_count_94 : decode cX5_count 94 = .ok (.iload_n 1, 1) := by decide +kernel
theorem dX5_count_95 : decode cX5_count 95 = .ok (.bipush 11, 2) := by decide +kernel
theorem dX5_count_97 : decode cX5_count 97 = .ok (.if_icmp .lt 14, 3) := by decide +kernel
theorem dX5_count_100 : decode cX5_count 100 = .ok (.aload_n 0, 1) := by decide +kernel
theorem dX5_count_101 : decode cX5_count 101 = .ok (.iload_n 1, 1) := by decide +kernel
theorem dX5_count_102 : decode cX5_count 102 = .ok (.bipush 11, 2) := by decide +kernel
theorem dX5_count_104 : decode cX5_count 104 = .ok (.isub, 1) := by decide +kernel
theorem dX5_count_105 : decode cX5_count 105 = .ok (.invokevirtual 176, 3) := by decide +kernel
theorem dX5_count_108 : decode cX5_count 108 = .ok (.goto 5, 3) := by decide +kernel
theorem dX5_count_111 : decode cX5_count 111 = .ok (.bipush (-9), 2) := by decide +kernel
theorem dX5_count_113 : decode cX5_count 113 = .ok (.ireturn, 1) := by decide +kernel
theorem dX5_refusalsAt_0 : decode cX5_refusalsAt 0 = .ok (.iload_n 1, 1) := by decide +kernel
theorem dX5_refusalsAt_1 : decode cX5_refusalsAt 1 = .ok (.ifCond .lt 21, 3) := by decide +kernel
theorem dX5_refusalsAt_4 : decode cX5_refusalsAt 4 = .ok (.iload_n 1, 1) := by decide +kernel
theorem dX5_refusalsAt_5 : decode cX5_refusalsAt 5 = .ok (.aload_n 0, 1) := by decide +kernel
theorem dX5_refusalsAt_6 : decode cX5_refusalsAt 6 = .ok (.getfield 29, 3) := by decide +kernel
theorem dX5_refusalsAt_9 : decode cX5_refusalsAt 9 = .ok (.arraylength, 1) := by decide +kernel
theorem dX5_refusalsAt_10 : decode cX5_refusalsAt 10 = .ok (.if_icmp .ge 12, 3) := by decide +kernel
theorem dX5_refusalsAt_13 : decode cX5_refusalsAt 13 = .ok (.aload_n 0, 1) := by decide +kernel
theorem dX5_refusalsAt_14 : decode cX5_refusalsAt 14 = .ok (.getfield 29, 3) := by decide +kernel
theorem dX5_refusalsAt_17 : decode cX5_refusalsAt 17 = .ok (.iload_n 1, 1) := by decide +kernel
theorem dX5_refusalsAt_18 : decode cX5_refusalsAt 18 = .ok (.iaload, 1) := by decide +kernel
theorem dX5_refusalsAt_19 : decode cX5_refusalsAt 19 = .ok (.goto 5, 3) := by decide +kernel
theorem dX5_refusalsAt_22 : decode cX5_refusalsAt 22 = .ok (.bipush (-9), 2) := by decide +kernel
theorem dX5_refusalsAt_24 : decode cX5_refusalsAt 24 = .ok (.ireturn, 1) := by decide +kernel
theorem dX5_refuse_0 : decode cX5_refuse 0 = .ok (.iconst (-1), 1) := by decide +kernel
theorem dX5_refuse_1 : decode cX5_refuse 1 = .ok (.iload_n 1, 1) := by decide +kernel
theorem dX5_refuse_2 : decode cX5_refuse 2 = .ok (.isub, 1) := by decide +kernel
theorem dX5_refuse_3 : decode cX5_refuse 3 = .ok (.istore_n 2, 1) := by decide +kernel
theorem dX5_refuse_4 : decode cX5_refuse 4 = .ok (.iload_n 2, 1) := by decide +kernel
theorem dX5_refuse_5 : decode cX5_refuse 5 = .ok (.ifCond .lt 22, 3) := by decide +kernel
theorem dX5_refuse_8 : decode cX5_refuse 8 = .ok (.iload_n 2, 1) := by decide +kernel
theorem dX5_refuse_9 : decode cX5_refuse 9 = .ok (.aload_n 0, 1) := by decide +kernel
theorem dX5_refuse_10 : decode cX5_refuse 10 = .ok (.getfield 29, 3) := by decide +kernel
theorem dX5_refuse_13 : decode cX5_refuse 13 = .ok (.arraylength, 1) := by decide +kernel
theorem dX5_refuse_14 : decode cX5_refuse 14 = .ok (.if_icmp .ge 13, 3) := by decide +kernel
theorem dX5_refuse_17 : decode cX5_refuse 17 = .ok (.aload_n 0, 1) := by decide +kernel
theorem dX5_refuse_18 : decode cX5_refuse 18 = .ok (.getfield 29, 3) := by decide +kernel
theorem dX5_refuse_21 : decode cX5_refuse 21 = .ok (.iload_n 2, 1) := by decide +kernel
theorem dX5_refuse_22 : decode cX5_refuse 22 = .ok (.dup2, 1) := by decide +kernel
theorem dX5_refuse_23 : decode cX5_refuse 23 = .ok (.iaload, 1) := by decide +kernel
theorem dX5_refuse_24 : decode cX5_refuse 24 = .ok (.iconst 1, 1) := by decide +kernel
theorem dX5_refuse_25 : decode cX5_refuse 25 = .ok (.iadd, 1) := by decide +kernel
theorem dX5_refuse_26 : decode cX5_refuse 26 = .ok (.iastore, 1) := by decide +kernel
theorem dX5_refuse_27 : decode cX5_refuse 27 = .ok (.iload_n 1, 1) := by decide +kernel
theorem dX5_refuse_28 : decode cX5_refuse 28 = .ok (.ireturn, 1) := by decide +kernel
set_option maxRecDepth 20000 in
theorem ggX5_refuseLong_X5_refuse : GoodIn wsX5_refuseLong wsX5_refuse := goodIn_r _ [6, 7, 8, 9, 10, 11, 12, 13, 14, 15, 16, 17] (by decide +kernel) (by decide +kernel)
set_option maxRecDepth 20000 in
theorem gX5_refuseLong_X5_refuse : GoodIn wsX5_refuseLong (wsV RX5 49 RX5 yX5_refuse wsX5_refuse) := goodIn_app (goodIn_of _ (by decide +kernel)) ggX5_refuseLong_X5_refuse
theorem dX5_refuseLong_0 : decode cX5_refuseLong 0 = .ok (.ldc2_w 179, 3) := by decide +kernel
theorem dX5_refuseLong_3 : decode cX5_refuseLong 3 = .ok (.aload_n 0, 1) := by decide +kernel
theorem dX5_refuseLong_4 : decode cX5_refuseLong 4 = .ok (.iload_n 1, 1) := by decide +kernel
theorem dX5_refuseLong_5 : decode cX5_refuseLong 5 = .ok (.invokevirtual 49, 3) := by decide +kernel
theorem dX5_refuseLong_8 : decode cX5_refuseLong 8 = .ok (.i2l, 1) := by decide +kernel
theorem dX5_refuseLong_9 : decode cX5_refuseLong 9 = .ok (.lsub, 1) := by decide +kernel
theorem dX5_refuseLong_10 : decode cX5_refuseLong 10 = .ok (.lreturn, 1) := by decide +kernel
theorem dX5_isNoBit_0 : decode cX5_isNoBit 0 = .ok (.iload_n 0, 1) := by decide +kernel
theorem dX5_isNoBit_1 : decode cX5_isNoBit 1 = .ok (.ifCond .lt 8, 3) := by decide +kernel
theorem dX5_isNoBit_4 : decode cX5_isNoBit 4 = .ok (.iload_n 0, 1) := by decide +kernel
theorem dX5_isNoBit_5 : decode cX5_isNoBit 5 = .ok (.iconst 1, 1) := by decide +kernel
theorem dX5_isNoBit_6 : decode cX5_isNoBit 6 = .ok (.if_icmp .le 7, 3) := by decide +kernel
theorem dX5_isNoBit_9 : decode cX5_isNoBit 9 = .ok (.iconst 1, 1) := by decide +kernel
theorem dX5_isNoBit_10 : decode cX5_isNoBit 10 = .ok (.goto 4, 3) := by decide +kernel
theorem dX5_isNoBit_13 : decode cX5_isNoBit 13 = .ok (.iconst 0, 1) := by decide +kernel
theorem dX5_isNoBit_14 : decode cX5_isNoBit 14 = .ok (.ireturn, 1) := by decide +kernel
set_option maxRecDepth 20000 in
theorem ggX5_tellText_X3_copy : GoodIn wsX5_tellText wsX3_copy := goodIn_r _ [8, 9, 10, 11, 12, 13, 14, 15, 16, 17, 18, 19, 7, 20, 21, 22, 23, 24, 87, 88, 89, 90, 91, 92, 93, 94] (by decide +kernel) (by decide +kernel)
set_option maxRecDepth 20000 in
theorem gX5_tellText_X3_copy : GoodIn wsX5_tellText (wsV RX5 168 RX3 yX3_copy wsX3_copy) := goodIn_app (goodIn_of _ (by decide +kernel)) ggX5_tellText_X3_copy
set_option maxRecDepth 20000 in
theorem ggX5_tellText_X2_endOfStatement : GoodIn wsX5_tellText wsX2_endOfStatement := goodIn_r _ [29, 30, 31, 32, 28, 33, 34, 35, 36, 37, 38, 39, 40, 41, 42, 43, 44, 45, 46, 85, 86] (by decide +kernel) (by decide +kernel)
set_option maxRecDepth 20000 in
theorem gX5_tellText_X2_endOfStatement : GoodIn wsX5_tellText (wsV RX5 181 RX2 yX2_endOfStatement wsX2_endOfStatement) := goodIn_app (goodIn_of _ (by decide +kernel)) ggX5_tellText_X2_endOfStatement
set_option maxRecDepth 20000 in
theorem ggX5_tellText_X3_take : GoodIn wsX5_tellText wsX3_take := goodIn_r _ [50, 51, 31, 32, 28, 33, 34, 35, 52, 37, 38, 39, 30, 53, 54, 55, 56, 57, 58, 59, 7, 60, 9, 10, 61, 62, 63, 64, 13, 12, 11, 65, 66, 67, 68, 69, 70, 71, 72, 73, 74, 14, 15, 16, 85, 86, 87, 88, 89, 90, 91, 92, 93, 94] (by decide +kernel) (by decide +kernel)
set_option maxRecDepth 20000 in
theorem gX5_tellText_X3_take : GoodIn wsX5_tellText (wsV RX5 184 RX3 yX3_take wsX3_take) := goodIn_app (goodIn_of _ (by decide +kernel)) ggX5_tellText_X3_take
theorem dX5_tellText_0 : decode cX5_tellText 0 = .ok (.aload_n 0, 1) := by decide +kernel
theorem dX5_tellText_1 : decode cX5_tellText 1 = .ok (.getfield 16, 3) := by decide +kernel
theorem dX5_tellText_4 : decode cX5_tellText 4 = .ok (.aload_n 0, 1) := by decide +kernel
theorem dX5_tellText_5 : decode cX5_tellText 5 = .ok (.getfield 10, 3) := by decide +kernel
theorem dX5_tellText_8 : decode cX5_tellText 8 = .ok (.invokevirtual 168, 3) := by decide +kernel
theorem dX5_tellText_11 : decode cX5_tellText 11 = .ok (.iconst 0, 1) := by decide +kernel
theorem dX5_tellText_12 : decode cX5_tellText 12 = .ok (.istore_n 1, 1) := by decide +kernel
theorem dX5_tellText_13 : decode cX5_tellText 13 = .ok (.iconst 0, 1) := by decide +kernel
theorem dX5_tellText_14 : decode cX5_tellText 14 = .ok (.istore_n 2, 1) := by decide +kernel
theorem dX5_tellText_15 : decode cX5_tellText 15 = .ok (.iload_n 1, 1) := by decide +kernel
theorem dX5_tellText_16 : decode cX5_tellText 16 = .ok (.aload_n 0, 1) := by decide +kernel
theorem dX5_tellText_17 : decode cX5_tellText 17 = .ok (.getfield 25, 3) := by decide +kernel
theorem dX5_tellText_20 : decode cX5_tellText 20 = .ok (.getfield 53, 3) := by decide +kernel
theorem dX5_tellText_23 : decode cX5_tellText 23 = .ok (.if_icmp .ge 48, 3) := by decide +kernel
theorem dX5_tellText_26 : decode cX5_tellText 26 = .ok (.iload_n 2, 1) := by decide +kernel
theorem dX5_tellText_27 : decode cX5_tellText 27 = .ok (.bipush 64, 2) := by decide +kernel
theorem dX5_tellText_29 : decode cX5_tellText 29 = .ok (.if_icmp .ge 42, 3) := by decide +kernel
theorem dX5_tellText_32 : decode cX5_tellText 32 = .ok (.aload_n 0, 1) := by decide +kernel
theorem dX5_tellText_33 : decode cX5_tellText 33 = .ok (.getfield 25, 3) := by decide +kernel
theorem dX5_tellText_36 : decode cX5_tellText 36 = .ok (.iload_n 1, 1) := by decide +kernel
theorem dX5_tellText_37 : decode cX5_tellText 37 = .ok (.invokevirtual 181, 3) := by decide +kernel
theorem dX5_tellText_40 : decode cX5_tellText 40 = .ok (.istore_n 3, 1) := by decide +kernel
theorem dX5_tellText_41 : decode cX5_tellText 41 = .ok (.aload_n 0, 1) := by decide +kernel
theorem dX5_tellText_42 : decode cX5_tellText 42 = .ok (.getfield 16, 3) := by decide +kernel
theorem dX5_tellText_45 : decode cX5_tellText 45 = .ok (.aload_n 0, 1) := by decide +kernel
theorem dX5_tellText_46 : decode cX5_tellText 46 = .ok (.getfield 25, 3) := by decide +kernel
theorem dX5_tellText_49 : decode cX5_tellText 49 = .ok (.iload_n 1, 1) := by decide +kernel
theorem dX5_tellText_50 : decode cX5_tellText 50 = .ok (.iload_n 3, 1) := by decide +kernel
theorem dX5_tellText_51 : decode cX5_tellText 51 = .ok (.invokevirtual 184, 3) := by decide +kernel
theorem dX5_tellText_54 : decode cX5_tellText 54 = .ok (.ifCond .ne 9, 3) := by decide +kernel
theorem dX5_tellText_57 : decode cX5_tellText 57 = .ok (.sipush (-2000), 3) := by decide +kernel
theorem dX5_tellText_60 : decode cX5_tellText 60 = .ok (.iload_n 1, 1) := by decide +kernel
theorem dX5_tellText_61 : decode cX5_tellText 61 = .ok (.isub, 1) := by decide +kernel
theorem dX5_tellText_62 : decode cX5_tellText 62 = .ok (.ireturn, 1) := by decide +kernel
theorem dX5_tellText_63 : decode cX5_tellText 63 = .ok (.iload_n 3, 1) := by decide +kernel
theorem dX5_tellText_64 : decode cX5_tellText 64 = .ok (.istore_n 1, 1) := by decide +kernel
theorem dX5_tellText_65 : decode cX5_tellText 65 = .ok (.iinc 2 1, 3) := by decide +kernel
theorem dX5_tellText_68 : decode cX5_tellText 68 = .ok (.goto (-53), 3) := by decide +kernel
theorem dX5_tellText_71 : decode cX5_tellText 71 = .ok (.aload_n 0, 1) := by decide +kernel
theorem dX5_tellText_72 : decode cX5_tellText 72 = .ok (.getfield 10, 3) := by decide +kernel
theorem dX5_tellText_75 : decode cX5_tellText 75 = .ok (.aload_n 0, 1) := by decide +kernel
theorem dX5_tellText_76 : decode cX5_tellText 76 = .ok (.getfield 16, 3) := by decide +kernel
theorem dX5_tellText_79 : decode cX5_tellText 79 = .ok (.invokevirtual 168, 3) := by decide +kernel
theorem dX5_tellText_82 : decode cX5_tellText 82 = .ok (.iload_n 2, 1) := by decide +kernel
theorem dX5_tellText_83 : decode cX5_tellText 83 = .ok (.ireturn, 1) := by decide +kernel
set_option maxRecDepth 20000 in
theorem ggX5_tallyNow_X5_tallyOf : GoodIn wsX5_tallyNow wsX5_tallyOf := goodIn_r _ [6, 7, 8, 1, 9, 10, 11, 12, 13, 14, 15, 16, 17, 18, 19, 20, 21, 22, 23, 24, 25, 26, 27, 28, 29, 30, 31, 32, 33, 34, 35, 36, 37, 38, 39, 40, 41, 42, 43, 44, 45, 46, 47, 48, 49, 50, 51, 52, 53, 54, 5, 55, 56, 57, 58, 59, 60, 61, 62, 63, 64, 65, 66, 67, 68, 69, 70, 71, 72, 73, 74, 75, 76, 77, 78, 79, 80, 81, 82, 83, 84, 85, 86, 87, 88, 89, 90, 91, 92, 93, 94, 95, 96, 97] (by decide +kernel) (by decide +kernel)
set_option maxRecDepth 20000 in
theorem gX5_tallyNow_X5_tallyOf : GoodIn wsX5_tallyNow (wsV RX5 188 RX5 yX5_tallyOf wsX5_tallyOf) := goodIn_app (goodIn_of _ (by decide +kernel)) ggX5_tallyNow_X5_tallyOf
theorem dX5_tallyNow_0 : decode cX5_tallyNow 0 = .ok (.aload_n 0, 1) := by decide +kernel
theorem dX5_tallyNow_1 : decode cX5_tallyNow 1 = .ok (.aload_n 0, 1) := by decide +kernel
theorem dX5_tallyNow_2 : decode cX5_tallyNow 2 = .ok (.getfield 10, 3) := by decide +kernel
theorem dX5_tallyNow_5 : decode cX5_tallyNow 5 = .ok (.getfield 68, 3) := by decide +kernel
theorem dX5_tallyNow_8 : decode cX5_tallyNow 8 = .ok (.invokevirtual 188, 3) := by decide +kernel
theorem dX5_tallyNow_11 : decode cX5_tallyNow 11 = .ok (.areturn, 1) := by decide +kernel
set_option maxRecDepth 20000 in
theorem ggX5_tallyOf_X1_retell : GoodIn wsX5_tallyOf wsX1_retell := goodIn_r _ [8, 9, 10, 11, 12, 13, 14, 15, 16, 17, 18, 19, 20, 21, 22, 23, 24, 25, 26, 27, 28, 29, 30, 31, 32, 33, 34, 35, 36, 37, 38, 39, 40, 41, 42, 43, 7, 44, 45, 46, 47, 48, 49, 50, 51, 52, 53, 54, 55, 56, 57, 58, 59, 60, 61, 62, 63, 64, 65, 84, 85, 86, 87, 88, 89, 90, 91, 92, 93] (by decide +kernel) (by decide +kernel)
set_option maxRecDepth 20000 in
theorem gX5_tallyOf_X1_retell : GoodIn wsX5_tallyOf (wsV RX5 128 RX1 yX1_retell wsX1_retell) := goodIn_app (goodIn_of _ (by decide +kernel)) ggX5_tallyOf_X1_retell
theorem dX5_tallyOf_0 : decode cX5_tallyOf 0 = .ok (.iload_n 1, 1) := by decide +kernel
theorem dX5_tallyOf_1 : decode cX5_tallyOf 1 = .ok (.ifCond .lt 21, 3) := by decide +kernel
theorem dX5_tallyOf_4 : decode cX5_tallyOf 4 = .ok (.iload_n 1, 1) := by decide +kernel
theorem dX5_tallyOf_5 : decode cX5_tallyOf 5 = .ok (.aload_n 0, 1) := by decide +kernel
theorem dX5_tallyOf_6 : decode cX5_tallyOf 6 = .ok (.getfield 35, 3) := by decide +kernel
theorem dX5_tallyOf_9 : decode cX5_tallyOf 9 = .ok (.arraylength, 1) := by decide +kernel
theorem dX5_tallyOf_10 : decode cX5_tallyOf 10 = .ok (.if_icmp .ge 12, 3) := by decide +kernel
theorem dX5_tallyOf_13 : decode cX5_tallyOf 13 = .ok (.aload_n 0, 1) := by decide +kernel
theorem dX5_tallyOf_14 : decode cX5_tallyOf 14 = .ok (.getfield 35, 3) := by decide +kernel
theorem dX5_tallyOf_17 : decode cX5_tallyOf 17 = .ok (.iload_n 1, 1) := by decide +kernel
theorem dX5_tallyOf_18 : decode cX5_tallyOf 18 = .ok (.aaload, 1) := by decide +kernel
theorem dX5_tallyOf_19 : decode cX5_tallyOf 19 = .ok (.goto 4, 3) := by decide +kernel
theorem dX5_tallyOf_22 : decode cX5_tallyOf 22 = .ok (.aconst_null, 1) := by decide +kernel
theorem dX5_tallyOf_23 : decode cX5_tallyOf 23 = .ok (.astore_n 2, 1) := by decide +kernel
theorem dX5_tallyOf_24 : decode cX5_tallyOf 24 = .ok (.aload_n 2, 1) := by decide +kernel
theorem dX5_tallyOf_25 : decode cX5_tallyOf 25 = .ok (.ifnonnull 8, 3) := by decide +kernel
theorem dX5_tallyOf_28 : decode cX5_tallyOf 28 = .ok (.aload_n 0, 1) := by decide +kernel
theorem dX5_tallyOf_29 : decode cX5_tallyOf 29 = .ok (.getfield 45, 3) := by decide +kernel
theorem dX5_tallyOf_32 : decode cX5_tallyOf 32 = .ok (.astore_n 2, 1) := by decide +kernel
theorem dX5_tallyOf_33 : decode cX5_tallyOf 33 = .ok (.aload_n 2, 1) := by decide +kernel
theorem dX5_tallyOf_34 : decode cX5_tallyOf 34 = .ok (.iload_n 1, 1) := by decide +kernel
theorem dX5_tallyOf_35 : decode cX5_tallyOf 35 = .ok (.aload_n 0, 1) := by decide +kernel
theorem dX5_tallyOf_36 : decode cX5_tallyOf 36 = .ok (.getfield 10, 3) := by decide +kernel
theorem dX5_tallyOf_39 : decode cX5_tallyOf 39 = .ok (.getfield 71, 3) := by decide +kernel
theorem dX5_tallyOf_42 : decode cX5_tallyOf 42 = .ok (.aload_n 0, 1) := by decide +kernel
theorem dX5_tallyOf_43 : decode cX5_tallyOf 43 = .ok (.getfield 10, 3) := by decide +kernel
theorem dX5_tallyOf_46 : decode cX5_tallyOf 46 = .ok (.getfield 192, 3) := by decide +kernel
theorem dX5_tallyOf_49 : decode cX5_tallyOf 49 = .ok (.aload_n 0, 1) := by decide +kernel
theorem dX5_tallyOf_50 : decode cX5_tallyOf 50 = .ok (.getfield 10, 3) := by decide +kernel
theorem dX5_tallyOf_53 : decode cX5_tallyOf 53 = .ok (.getfield 122, 3) := by decide +kernel
theorem dX5_tallyOf_56 : decode cX5_tallyOf 56 = .ok (.aload_n 0, 1) := by decide +kernel
theorem dX5_tallyOf_57 : decode cX5_tallyOf 57 = .ok (.getfield 10, 3) := by decide +kernel
theorem dX5_tallyOf_60 : decode cX5_tallyOf 60 = .ok (.getfield 125, 3) := by decide +kernel
theorem dX5_tallyOf_63 : decode cX5_tallyOf 63 = .ok (.invokevirtual 128, 3) := by decide +kernel
theorem dX5_tallyOf_66 : decode cX5_tallyOf 66 = .ok (.aload_n 2, 1) := by decide +kernel
theorem dX5_tallyOf_67 : decode cX5_tallyOf 67 = .ok (.areturn, 1) := by decide +kernel
set_option maxRecDepth 20000 in
theorem ggX5_compareAll_X5_tallyOf : GoodIn wsX5_compareAll wsX5_tallyOf := goodIn_r _ [5, 6, 7, 8, 9, 10, 11, 12, 13, 14, 15, 16, 17, 18, 19, 20, 21, 22, 23, 24, 25, 26, 27, 28, 29, 30, 31, 32, 33, 34, 35, 36, 37, 38, 39, 40, 41, 42, 43, 44, 45, 46, 47, 48, 49, 50, 51, 52, 53, 54, 4, 55, 56, 57, 58, 59, 60, 61, 62, 63, 64, 65, 66, 67, 68, 69, 84, 85, 86, 87, 88, 89, 90, 91, 92, 93, 94, 95, 96, 97, 98, 99, 100, 101, 102, 103, 104, 105, 106, 107, 108, 109, 110, 111] (by decide +kernel) (by decide +kernel)
set_option maxRecDepth 20000 in
theorem gX5_compareAll_X5_tallyOf : GoodIn wsX5_compareAll (wsV RX5 188 RX5 yX5_tallyOf wsX5_tallyOf) := goodIn_app (goodIn_of _ (by decide +kernel)) ggX5_compareAll_X5_tallyOf
set_option maxRecDepth 20000 in
theorem ggX5_compareAll_X1_sum : GoodIn wsX5_compareAll wsX1_sum := goodIn_r _ [73, 16, 74, 75, 76, 12, 77, 19, 50, 51, 52, 24, 53, 26, 43, 44, 45, 78, 79, 80, 102, 103, 104, 105, 106, 107, 108, 109] (by decide +kernel) (by decide +kernel)
set_option maxRecDepth 20000 in
theorem gX5_compareAll_X1_sum : GoodIn wsX5_compareAll (wsV RX5 103 RX1 yX1_sum wsX1_sum) := goodIn_app (goodIn_of _ (by decide +kernel)) ggX5_compareAll_X1_sum
set_option maxRecDepth 20000 in
theorem ggX5_compareAll_X5_compareFractions : GoodIn wsX5_compareAll wsX5_compareFractions := goodIn_r _ [83] (by decide +kernel) (by decide +kernel)
set_option maxRecDepth 20000 in
theorem gX5_compareAll_X5_compareFractions : GoodIn wsX5_compareAll (va_wsS RX5 195 yX5_compareFractions wsX5_compareFractions) := goodIn_app (goodIn_of _ (by decide +kernel)) ggX5_compareAll_X5_compareFractions
theorem dX5_compareAll_0 : decode cX5_compareAll 0 = .ok (.aload_n 0, 1) := by decide +kernel
theorem dX5_compareAll_1 : decode cX5_compareAll 1 = .ok (.iload_n 1, 1) := by decide +kernel
theorem dX5_compareAll_2 : decode cX5_compareAll 2 = .ok (.invokevirtual 188, 3) := by decide +kernel
theorem dX5_compareAll_5 : decode cX5_compareAll 5 = .ok (.astore_n 3, 1) := by decide +kernel
theorem dX5_compareAll_6 : decode cX5_compareAll 6 = .ok (.aload_n 0, 1) := by decide +kernel
theorem dX5_compareAll_7 : decode cX5_compareAll 7 = .ok (.iload_n 2, 1) := by decide +kernel
theorem dX5_compareAll_8 : decode cX5_compareAll 8 = .ok (.invokevirtual 188, 3) := by decide +kernel
theorem dX5_compareAll_11 : decode cX5_compareAll 11 = .ok (.astore 4, 2) := by decide +kernel
theorem dX5_compareAll_13 : decode cX5_compareAll 13 = .ok (.aload_n 3, 1) := by decide +kernel
theorem dX5_compareAll_14 : decode cX5_compareAll 14 = .ok (.iconst 1, 1) := by decide +kernel
theorem dX5_compareAll_15 : decode cX5_compareAll 15 = .ok (.iconst 0, 1) := by decide +kernel
theorem dX5_compareAll_16 : decode cX5_compareAll 16 = .ok (.invokevirtual 103, 3) := by decide +kernel
theorem dX5_compareAll_19 : decode cX5_compareAll 19 = .ok (.aload_n 3, 1) := by decide +kernel
theorem dX5_compareAll_20 : decode cX5_compareAll 20 = .ok (.iconst 0, 1) := by decide +kernel
theorem dX5_compareAll_21 : decode cX5_compareAll 21 = .ok (.iconst 0, 1) := by decide +kernel
theorem dX5_compareAll_22 : decode cX5_compareAll 22 = .ok (.invokevirtual 103, 3) := by decide +kernel
theorem dX5_compareAll_25 : decode cX5_compareAll 25 = .ok (.aload 4, 2) := by decide +kernel
theorem dX5_compareAll_27 : decode cX5_compareAll 27 = .ok (.iconst 1, 1) := by decide +kernel
theorem dX5_compareAll_28 : decode cX5_compareAll 28 = .ok (.iconst 0, 1) := by decide +kernel
theorem dX5_compareAll_29 : decode cX5_compareAll 29 = .ok (.invokevirtual 103, 3) := by decide +kernel
theorem dX5_compareAll_32 : decode cX5_compareAll 32 = .ok (.aload 4, 2) := by decide +kernel
theorem dX5_compareAll_34 : decode cX5_compareAll 34 = .ok (.iconst 0, 1) := by decide +kernel
theorem dX5_compareAll_35 : decode cX5_compareAll 35 = .ok (.iconst 0, 1) := by decide +kernel
theorem dX5_compareAll_36 : decode cX5_compareAll 36 = .ok (.invokevirtual 103, 3) := by decide +kernel
theorem dX5_compareAll_39 : decode cX5_compareAll 39 = .ok (.invokestatic 195, 3) := by decide +kernel
theorem dX5_compareAll_42 : decode cX5_compareAll 42 = .ok (.ireturn, 1) := by decide +kernel
set_option maxRecDepth 20000 in
theorem ggX5_lastInTwelfths_X3_stopPlace : GoodIn wsX5_lastInTwelfths wsX3_stopPlace := goodIn_r _ [8, 9, 10, 11, 12, 13, 45, 46, 47, 48, 49, 50, 51, 52] (by decide +kernel) (by decide +kernel)
set_option maxRecDepth 20000 in
theorem gX5_lastInTwelfths_X3_stopPlace : GoodIn wsX5_lastInTwelfths (wsV RX5 153 RX3 yX3_stopPlace wsX3_stopPlace) := goodIn_app (goodIn_of _ (by decide +kernel)) ggX5_lastInTwelfths_X3_stopPlace
set_option maxRecDepth 20000 in
theorem ggX5_lastInTwelfths_J6_bitCount_0f7a4 : GoodIn wsX5_lastInTwelfths wsJ6_bitCount_0f7a4 := goodIn_r _ [17, 18, 19, 20] (by decide +kernel) (by decide +kernel)
set_option maxRecDepth 20000 in
theorem gX5_lastInTwelfths_J6_bitCount_0f7a4 : GoodIn wsX5_lastInTwelfths (va_wsS RX5 199 yJ6_bitCount_0f7a4 wsJ6_bitCount_0f7a4) := goodIn_app (goodIn_of _ (by decide +kernel)) ggX5_lastInTwelfths_J6_bitCount_0f7a4
set_option maxRecDepth 20000 in
theorem ggX5_lastInTwelfths_X5_latestOnes : GoodIn wsX5_lastInTwelfths wsX5_latestOnes := goodIn_r _ [23] (by decide +kernel) (by decide +kernel)
set_option maxRecDepth 20000 in
theorem gX5_lastInTwelfths_X5_latestOnes : GoodIn wsX5_lastInTwelfths (va_wsS RX5 204 yX5_latestOnes wsX5_latestOnes) := goodIn_app (goodIn_of _ (by decide +kernel)) ggX5_lastInTwelfths_X5_latestOnes
set_option maxRecDepth 20000 in
theorem ggX5_lastInTwelfths_X5_chanceOfOne : GoodIn wsX5_lastInTwelfths wsX5_chanceOfOne := goodIn_r _ [26, 27, 28, 29, 30, 31, 32, 33] (by decide +kernel) (by decide +kernel)
set_option maxRecDepth 20000 in
theorem gX5_lastInTwelfths_X5_chanceOfOne : GoodIn wsX5_lastInTwelfths (va_wsS RX5 207 yX5_chanceOfOne wsX5_chanceOfOne) := goodIn_app (goodIn_of _ (by decide +kernel)) ggX5_lastInTwelfths_X5_chanceOfOne
set_option maxRecDepth 20000 in
theorem ggX5_lastInTwelfths_X5_lawStops : GoodIn wsX5_lastInTwelfths wsX5_lawStops := goodIn_r _ [13] (by decide +kernel) (by decide +kernel)
set_option maxRecDepth 20000 in
theorem gX5_lastInTwelfths_X5_lawStops : GoodIn wsX5_lastInTwelfths (va_wsS RX5 87 yX5_lawStops wsX5_lawStops) := goodIn_app (goodIn_of _ (by decide +kernel)) ggX5_lastInTwelfths_X5_lawStops
theorem dX5_lastInTwelfths_0 : decode cX5_lastInTwelfths 0 = .ok (.aload_n 0, 1) := by decide +kernel
theorem dX5_lastInTwelfths_1 : decode cX5_lastInTwelfths 1 = .ok (.getfield 10, 3) := by decide +kernel
theorem dX5_lastInTwelfths_4 : decode cX5_lastInTwelfths 4 = .ok (.aload_n 0, 1) := by decide +kernel
theorem dX5_lastInTwelfths_5 : decode cX5_lastInTwelfths 5 = .ok (.getfield 10, 3) := by decide +kernel
theorem dX5_lastInTwelfths_8 : decode cX5_lastInTwelfths 8 = .ok (.getfield 68, 3) := by decide +kernel
theorem dX5_lastInTwelfths_11 : decode cX5_lastInTwelfths 11 = .ok (.aload_n 0, 1) := by decide +kernel
theorem dX5_lastInTwelfths_12 : decode cX5_lastInTwelfths 12 = .ok (.getfield 132, 3) := by decide +kernel
theorem dX5_lastInTwelfths_15 : decode cX5_lastInTwelfths 15 = .ok (.aload_n 0, 1) := by decide +kernel
theorem dX5_lastInTwelfths_16 : decode cX5_lastInTwelfths 16 = .ok (.getfield 135, 3) := by decide +kernel
theorem dX5_lastInTwelfths_19 : decode cX5_lastInTwelfths 19 = .ok (.invokevirtual 153, 3) := by decide +kernel
theorem dX5_lastInTwelfths_22 : decode cX5_lastInTwelfths 22 = .ok (.aload_n 0, 1) := by decide +kernel
theorem dX5_lastInTwelfths_23 : decode cX5_lastInTwelfths 23 = .ok (.getfield 132, 3) := by decide +kernel
theorem dX5_lastInTwelfths_26 : decode cX5_lastInTwelfths 26 = .ok (.if_icmp .ge 5, 3) := by decide +kernel
theorem dX5_lastInTwelfths_29 : decode cX5_lastInTwelfths 29 = .ok (.iconst 0, 1) := by decide +kernel
theorem dX5_lastInTwelfths_30 : decode cX5_lastInTwelfths 30 = .ok (.ireturn, 1) := by decide +kernel
theorem dX5_lastInTwelfths_31 : decode cX5_lastInTwelfths 31 = .ok (.aload_n 0, 1) := by decide +kernel
theorem dX5_lastInTwelfths_32 : decode cX5_lastInTwelfths 32 = .ok (.getfield 132, 3) := by decide +kernel
theorem dX5_lastInTwelfths_35 : decode cX5_lastInTwelfths 35 = .ok (.iconst 1, 1) := by decide +kernel
theorem dX5_lastInTwelfths_36 : decode cX5_lastInTwelfths 36 = .ok (.iadd, 1) := by decide +kernel
theorem dX5_lastInTwelfths_37 : decode cX5_lastInTwelfths 37 = .ok (.aload_n 0, 1) := by decide +kernel
theorem dX5_lastInTwelfths_38 : decode cX5_lastInTwelfths 38 = .ok (.getfield 10, 3) := by decide +kernel
theorem dX5_lastInTwelfths_41 : decode cX5_lastInTwelfths 41 = .ok (.getfield 192, 3) := by decide +kernel
theorem dX5_lastInTwelfths_44 : decode cX5_lastInTwelfths 44 = .ok (.if_icmp .lt 6, 3) := by decide +kernel
theorem dX5_lastInTwelfths_47 : decode cX5_lastInTwelfths 47 = .ok (.bipush 12, 2) := by decide +kernel
theorem dX5_lastInTwelfths_49 : decode cX5_lastInTwelfths 49 = .ok (.ireturn, 1) := by decide +kernel
theorem dX5_lastInTwelfths_50 : decode cX5_lastInTwelfths 50 = .ok (.aload_n 0, 1) := by decide +kernel
theorem dX5_lastInTwelfths_51 : decode cX5_lastInTwelfths 51 = .ok (.getfield 135, 3) := by decide +kernel
theorem dX5_lastInTwelfths_54 : decode cX5_lastInTwelfths 54 = .ok (.invokestatic 199, 3) := by decide +kernel
theorem dX5_lastInTwelfths_57 : decode cX5_lastInTwelfths 57 = .ok (.istore_n 1, 1) := by decide +kernel
theorem dX5_lastInTwelfths_58 : decode cX5_lastInTwelfths 58 = .ok (.aload_n 0, 1) := by decide +kernel
theorem dX5_lastInTwelfths_59 : decode cX5_lastInTwelfths 59 = .ok (.getfield 132, 3) := by decide +kernel
theorem dX5_lastInTwelfths_62 : decode cX5_lastInTwelfths 62 = .ok (.iload_n 1, 1) := by decide +kernel
theorem dX5_lastInTwelfths_63 : decode cX5_lastInTwelfths 63 = .ok (.isub, 1) := by decide +kernel
theorem dX5_lastInTwelfths_64 : decode cX5_lastInTwelfths 64 = .ok (.istore_n 2, 1) := by decide +kernel
theorem dX5_lastInTwelfths_65 : decode cX5_lastInTwelfths 65 = .ok (.aload_n 0, 1) := by decide +kernel
theorem dX5_lastInTwelfths_66 : decode cX5_lastInTwelfths 66 = .ok (.getfield 132, 3) := by decide +kernel
theorem dX5_lastInTwelfths_69 : decode cX5_lastInTwelfths 69 = .ok (.aload_n 0, 1) := by decide +kernel
theorem dX5_lastInTwelfths_70 : decode cX5_lastInTwelfths 70 = .ok (.getfield 135, 3) := by decide +kernel
theorem dX5_lastInTwelfths_73 : decode cX5_lastInTwelfths 73 = .ok (.invokestatic 204, 3) := by decide +kernel
theorem dX5_lastInTwelfths_76 : decode cX5_lastInTwelfths 76 = .ok (.istore_n 3, 1) := by decide +kernel
theorem dX5_lastInTwelfths_77 : decode cX5_lastInTwelfths 77 = .ok (.aload_n 0, 1) := by decide +kernel
theorem dX5_lastInTwelfths_78 : decode cX5_lastInTwelfths 78 = .ok (.getfield 10, 3) := by decide +kernel
theorem dX5_lastInTwelfths_81 : decode cX5_lastInTwelfths 81 = .ok (.getfield 122, 3) := by decide +kernel
theorem dX5_lastInTwelfths_84 : decode cX5_lastInTwelfths 84 = .ok (.aload_n 0, 1) := by decide +kernel
theorem dX5_lastInTwelfths_85 : decode cX5_lastInTwelfths 85 = .ok (.getfield 10, 3) := by decide +kernel
theorem dX5_lastInTwelfths_88 : decode cX5_lastInTwelfths 88 = .ok (.getfield 125, 3) := by decide +kernel
theorem dX5_lastInTwelfths_91 : decode cX5_lastInTwelfths 91 = .ok (.aload_n 0, 1) := by decide +kernel
theorem dX5_lastInTwelfths_92 : decode cX5_lastInTwelfths 92 = .ok (.getfield 132, 3) := by decide +kernel
theorem dX5_lastInTwelfths_95 : decode cX5_lastInTwelfths 95 = .ok (.iload_n 3, 1) := by decide +kernel
theorem dX5_lastInTwelfths_96 : decode cX5_lastInTwelfths 96 = .ok (.invokestatic 207, 3) := by decide +kernel
theorem dX5_lastInTwelfths_99 : decode cX5_lastInTwelfths 99 = .ok (.istore 4, 2) := by decide +kernel
theorem dX5_lastInTwelfths_101 : decode cX5_lastInTwelfths 101 = .ok (.iconst 0, 1) := by decide +kernel
theorem dX5_lastInTwelfths_102 : decode cX5_lastInTwelfths 102 = .ok (.istore 5, 2) := by decide +kernel
theorem dX5_lastInTwelfths_104 : decode cX5_lastInTwelfths 104 = .ok (.aload_n 0, 1) := by decide +kernel
theorem dX5_lastInTwelfths_105 : decode cX5_lastInTwelfths 105 = .ok (.getfield 10, 3) := by decide +kernel
theorem dX5_lastInTwelfths_108 : decode cX5_lastInTwelfths 108 = .ok (.getfield 68, 3) := by decide +kernel
theorem dX5_lastInTwelfths_111 : decode cX5_lastInTwelfths 111 = .ok (.aload_n 0, 1) := by decide +kernel
theorem dX5_lastInTwelfths_112 : decode cX5_lastInTwelfths 112 = .ok (.getfield 10, 3) := by decide +kernel
theorem dX5_lastInTwelfths_115 : decode cX5_lastInTwelfths 115 = .ok (.getfield 71, 3) := by decide +kernel
theorem dX5_lastInTwelfths_118 : decode cX5_lastInTwelfths 118 = .ok (.iload_n 1, 1) := by decide +kernel
theorem dX5_lastInTwelfths_119 : decode cX5_lastInTwelfths 119 = .ok (.iconst 1, 1) := by decide +kernel
theorem dX5_lastInTwelfths_120 : decode cX5_lastInTwelfths 120 = .ok (.iadd, 1) := by decide +kernel
theorem dX5_lastInTwelfths_121 : decode cX5_lastInTwelfths 121 = .ok (.iload_n 2, 1) := by decide +kernel
theorem dX5_lastInTwelfths_122 : decode cX5_lastInTwelfths 122 = .ok (.iload_n 3, 1) := by decide +kernel
theorem dX5_lastInTwelfths_123 : decode cX5_lastInTwelfths 123 = .ok (.iconst 1, 1) := by decide +kernel
theorem dX5_lastInTwelfths_124 : decode cX5_lastInTwelfths 124 = .ok (.iadd, 1) := by decide +kernel
theorem dX5_lastInTwelfths_125 : decode cX5_lastInTwelfths 125 = .ok (.invokestatic 87, 3) := by decide +kernel
theorem dX5_lastInTwelfths_128 : decode cX5_lastInTwelfths 128 = .ok (.ifCond .eq 10, 3) := by decide +kernel
theorem dX5_lastInTwelfths_131 : decode cX5_lastInTwelfths 131 = .ok (.iload 5, 2) := by decide +kernel
theorem dX5_lastInTwelfths_133 : decode cX5_lastInTwelfths 133 = .ok (.iload 4, 2) := by decide +kernel
theorem dX5_lastInTwelfths_135 : decode cX5_lastInTwelfths 135 = .ok (.iadd, 1) := by decide +kernel
theorem dX5_lastInTwelfths_136 : decode cX5_lastInTwelfths 136 = .ok (.istore 5, 2) := by decide +kernel
theorem dX5_lastInTwelfths_138 : decode cX5_lastInTwelfths 138 = .ok (.aload_n 0, 1) := by decide +kernel
theorem dX5_lastInTwelfths_139 : decode cX5_lastInTwelfths 139 = .ok (.getfield 10, 3) := by decide +kernel
theorem dX5_lastInTwelfths_142 : decode cX5_lastInTwelfths 142 = .ok (.getfield 68, 3) := by decide +kernel
theorem dX5_lastInTwelfths_145 : decode cX5_lastInTwelfths 145 = .ok (.aload_n 0, 1) := by decide +kernel
theorem dX5_lastInTwelfths_146 : decode cX5_lastInTwelfths 146 = .ok (.getfield 10, 3) := by decide +kernel
theorem dX5_lastInTwelfths_149 : decode cX5_lastInTwelfths 149 = .ok (.getfield 71, 3) := by decide +kernel
theorem dX5_lastInTwelfths_152 : decode cX5_lastInTwelfths 152 = .ok (.iload_n 1, 1) := by decide +kernel
theorem dX5_lastInTwelfths_153 : decode cX5_lastInTwelfths 153 = .ok (.iload_n 2, 1) := by decide +kernel
theorem dX5_lastInTwelfths_154 : decode cX5_lastInTwelfths 154 = .ok (.iconst 1, 1) := by decide +kernel
theorem dX5_lastInTwelfths_155 : decode cX5_lastInTwelfths 155 = .ok (.iadd, 1) := by decide +kernel
theorem dX5_lastInTwelfths_156 : decode cX5_lastInTwelfths 156 = .ok (.iconst 0, 1) := by decide +kernel
theorem dX5_lastInTwelfths_157 : decode cX5_lastInTwelfths 157 = .ok (.invokestatic 87, 3) := by decide +kernel
theorem dX5_lastInTwelfths_160 : decode cX5_lastInTwelfths 160 = .ok (.ifCond .eq 13, 3) := by decide +kernel
theorem dX5_lastInTwelfths_163 : decode cX5_lastInTwelfths 163 = .ok (.iload 5, 2) := by decide +kernel
theorem dX5_lastInTwelfths_165 : decode cX5_lastInTwelfths 165 = .ok (.bipush 12, 2) := by decide +kernel
theorem dX5_lastInTwelfths_167 : decode cX5_lastInTwelfths 167 = .ok (.iload 4, 2) := by decide +kernel
theorem dX5_lastInTwelfths_169 : decode cX5_lastInTwelfths 169 = .ok (.isub, 1) := by decide +kernel
theorem dX5_lastInTwelfths_170 : decode cX5_lastInTwelfths 170 = .ok (.iadd, 1) := by decide +kernel
theorem dX5_lastInTwelfths_171 : decode cX5_lastInTwelfths 171 = .ok (.istore 5, 2) := by decide +kernel
theorem dX5_lastInTwelfths_173 : decode cX5_lastInTwelfths 173 = .ok (.iload 5, 2) := by decide +kernel
theorem dX5_lastInTwelfths_175 : decode cX5_lastInTwelfths 175 = .ok (.ireturn, 1) := by decide +kernel
set_option maxRecDepth 20000 in
theorem ggX5_countLots_X5_chanceOfOne : GoodIn wsX5_countLots wsX5_chanceOfOne := goodIn_r _ [8, 9, 10, 11, 12, 13, 14, 15] (by decide +kernel) (by decide +kernel)
set_option maxRecDepth 20000 in
theorem gX5_countLots_X5_chanceOfOne : GoodIn wsX5_countLots (va_wsS RX5 207 yX5_chanceOfOne wsX5_chanceOfOne) := goodIn_app (goodIn_of _ (by decide +kernel)) ggX5_countLots_X5_chanceOfOne
set_option maxRecDepth 20000 in
theorem ggX5_countLots_X5_lawStops : GoodIn wsX5_countLots wsX5_lawStops := goodIn_r _ [18] (by decide +kernel) (by decide +kernel)
set_option maxRecDepth 20000 in
theorem gX5_countLots_X5_lawStops : GoodIn wsX5_countLots (va_wsS RX5 87 yX5_lawStops wsX5_lawStops) := goodIn_app (goodIn_of _ (by decide +kernel)) ggX5_countLots_X5_lawStops
theorem dX5_countLots_0 : decode cX5_countLots 0 = .ok (.iload_n 2, 1) := by decide +kernel
theorem dX5_countLots_1 : decode cX5_countLots 1 = .ok (.istore 4, 2) := by decide +kernel
theorem dX5_countLots_3 : decode cX5_countLots 3 = .ok (.iconst 0, 1) := by decide +kernel
theorem dX5_countLots_4 : decode cX5_countLots 4 = .ok (.istore 5, 2) := by decide +kernel
theorem dX5_countLots_6 : decode cX5_countLots 6 = .ok (.iconst 0, 1) := by decide +kernel
theorem dX5_countLots_7 : decode cX5_countLots 7 = .ok (.istore 6, 2) := by decide +kernel
theorem dX5_countLots_9 : decode cX5_countLots 9 = .ok (.iload 6, 2) := by decide +kernel
theorem dX5_countLots_11 : decode cX5_countLots 11 = .ok (.iload_n 1, 1) := by decide +kernel
theorem dX5_countLots_12 : decode cX5_countLots 12 = .ok (.if_icmp .ge 179, 3) := by decide +kernel
theorem dX5_countLots_15 : decode cX5_countLots 15 = .ok (.iconst 0, 1) := by decide +kernel
theorem dX5_countLots_16 : decode cX5_countLots 16 = .ok (.istore 7, 2) := by decide +kernel
theorem dX5_countLots_18 : decode cX5_countLots 18 = .ok (.iconst 0, 1) := by decide +kernel
theorem dX5_countLots_19 : decode cX5_countLots 19 = .ok (.istore 8, 2) := by decide +kernel
theorem dX5_countLots_21 : decode cX5_countLots 21 = .ok (.iconst 0, 1) := by decide +kernel
theorem dX5_countLots_22 : decode cX5_countLots 22 = .ok (.istore 9, 2) := by decide +kernel
theorem dX5_countLots_24 : decode cX5_countLots 24 = .ok (.iconst 0, 1) := by decide +kernel
theorem dX5_countLots_25 : decode cX5_countLots 25 = .ok (.istore 10, 2) := by decide +kernel
theorem dX5_countLots_27 : decode cX5_countLots 27 = .ok (.iload 9, 2) := by decide +kernel
theorem dX5_countLots_29 : decode cX5_countLots 29 = .ok (.aload_n 0, 1) := by decide +kernel
theorem dX5_countLots_30 : decode cX5_countLots 30 = .ok (.getfield 10, 3) := by decide +kernel
theorem dX5_countLots_33 : decode cX5_countLots 33 = .ok (.getfield 192, 3) := by decide +kernel
theorem dX5_countLots_36 : decode cX5_countLots 36 = .ok (.if_icmp .ge 129, 3) := by decide +kernel
theorem dX5_countLots_39 : decode cX5_countLots 39 = .ok (.iload 10, 2) := by decide +kernel
theorem dX5_countLots_41 : decode cX5_countLots 41 = .ok (.ifCond .ne 124, 3) := by decide +kernel
theorem dX5_countLots_44 : decode cX5_countLots 44 = .ok (.iload 4, 2) := by decide +kernel
theorem dX5_countLots_46 : decode cX5_countLots 46 = .ok (.ldc 211, 2) := by decide +kernel
theorem dX5_countLots_48 : decode cX5_countLots 48 = .ok (.imul, 1) := by decide +kernel
theorem dX5_countLots_49 : decode cX5_countLots 49 = .ok (.ldc 212, 2) := by decide +kernel
theorem dX5_countLots_51 : decode cX5_countLots 51 = .ok (.iadd, 1) := by decide +kernel
theorem dX5_countLots_52 : decode cX5_countLots 52 = .ok (.istore 4, 2) := by decide +kernel
theorem dX5_countLots_54 : decode cX5_countLots 54 = .ok (.iload 4, 2) := by decide +kernel
theorem dX5_countLots_56 : decode cX5_countLots 56 = .ok (.ldc 213, 2) := by decide +kernel
theorem dX5_countLots_58 : decode cX5_countLots 58 = .ok (.iand, 1) := by decide +kernel
theorem dX5_countLots_59 : decode cX5_countLots 59 = .ok (.sipush 256, 3) := by decide +kernel
theorem dX5_countLots_62 : decode cX5_countLots 62 = .ok (.idiv, 1) := by decide +kernel
theorem dX5_countLots_63 : decode cX5_countLots 63 = .ok (.bipush 12, 2) := by decide +kernel
theorem dX5_countLots_65 : decode cX5_countLots 65 = .ok (.irem, 1) := by decide +kernel
theorem dX5_countLots_66 : decode cX5_countLots 66 = .ok (.istore 11, 2) := by decide +kernel
theorem dX5_countLots_68 : decode cX5_countLots 68 = .ok (.iload 11, 2) := by decide +kernel
theorem dX5_countLots_70 : decode cX5_countLots 70 = .ok (.aload_n 0, 1) := by decide +kernel
theorem dX5_countLots_71 : decode cX5_countLots 71 = .ok (.getfield 10, 3) := by decide +kernel
theorem dX5_countLots_74 : decode cX5_countLots 74 = .ok (.getfield 122, 3) := by decide +kernel
theorem dX5_countLots_77 : decode cX5_countLots 77 = .ok (.aload_n 0, 1) := by decide +kernel
theorem dX5_countLots_78 : decode cX5_countLots 78 = .ok (.getfield 10, 3) := by decide +kernel
theorem dX5_countLots_81 : decode cX5_countLots 81 = .ok (.getfield 125, 3) := by decide +kernel
theorem dX5_countLots_84 : decode cX5_countLots 84 = .ok (.iload 9, 2) := by decide +kernel
theorem dX5_countLots_86 : decode cX5_countLots 86 = .ok (.iload 8, 2) := by decide +kernel
theorem dX5_countLots_88 : decode cX5_countLots 88 = .ok (.invokestatic 207, 3) := by decide +kernel
theorem dX5_countLots_91 : decode cX5_countLots 91 = .ok (.if_icmp .ge 7, 3) := by decide +kernel
theorem dX5_countLots_94 : decode cX5_countLots 94 = .ok (.iconst 1, 1) := by decide +kernel
theorem dX5_countLots_95 : decode cX5_countLots 95 = .ok (.goto 4, 3) := by decide +kernel
theorem dX5_countLots_98 : decode cX5_countLots 98 = .ok (.iconst 0, 1) := by decide +kernel
theorem dX5_countLots_99 : decode cX5_countLots 99 = .ok (.istore 12, 2) := by decide +kernel
theorem dX5_countLots_101 : decode cX5_countLots 101 = .ok (.iinc 9 1, 3) := by decide +kernel
theorem dX5_countLots_104 : decode cX5_countLots 104 = .ok (.iload 7, 2) := by decide +kernel
theorem dX5_countLots_106 : decode cX5_countLots 106 = .ok (.iload 12, 2) := by decide +kernel
theorem dX5_countLots_108 : decode cX5_countLots 108 = .ok (.ifCond .eq 7, 3) := by decide +kernel
theorem dX5_countLots_111 : decode cX5_countLots 111 = .ok (.iconst 1, 1) := by decide +kernel
theorem dX5_countLots_112 : decode cX5_countLots 112 = .ok (.goto 4, 3) := by decide +kernel
theorem dX5_countLots_115 : decode cX5_countLots 115 = .ok (.iconst 0, 1) := by decide +kernel
theorem dX5_countLots_116 : decode cX5_countLots 116 = .ok (.iadd, 1) := by decide +kernel
theorem dX5_countLots_117 : decode cX5_countLots 117 = .ok (.istore 7, 2) := by decide +kernel
theorem dX5_countLots_119 : decode cX5_countLots 119 = .ok (.iload 12, 2) := by decide +kernel
theorem dX5_countLots_121 : decode cX5_countLots 121 = .ok (.ifCond .eq 10, 3) := by decide +kernel
theorem dX5_countLots_124 : decode cX5_countLots 124 = .ok (.iload 8, 2) := by decide +kernel
theorem dX5_countLots_126 : decode cX5_countLots 126 = .ok (.iconst 1, 1) := by decide +kernel
theorem dX5_countLots_127 : decode cX5_countLots 127 = .ok (.iadd, 1) := by decide +kernel
theorem dX5_countLots_128 : decode cX5_countLots 128 = .ok (.goto 4, 3) := by decide +kernel
theorem dX5_countLots_131 : decode cX5_countLots 131 = .ok (.iconst 0, 1) := by decide +kernel
theorem dX5_countLots_132 : decode cX5_countLots 132 = .ok (.istore 8, 2) := by decide +kernel
theorem dX5_countLots_134 : decode cX5_countLots 134 = .ok (.aload_n 0, 1) := by decide +kernel
theorem dX5_countLots_135 : decode cX5_countLots 135 = .ok (.getfield 10, 3) := by decide +kernel
theorem dX5_countLots_138 : decode cX5_countLots 138 = .ok (.getfield 68, 3) := by decide +kernel
theorem dX5_countLots_141 : decode cX5_countLots 141 = .ok (.aload_n 0, 1) := by decide +kernel
theorem dX5_countLots_142 : decode cX5_countLots 142 = .ok (.getfield 10, 3) := by decide +kernel
theorem dX5_countLots_145 : decode cX5_countLots 145 = .ok (.getfield 71, 3) := by decide +kernel
theorem dX5_countLots_148 : decode cX5_countLots 148 = .ok (.iload 7, 2) := by decide +kernel
theorem dX5_countLots_150 : decode cX5_countLots 150 = .ok (.iload 9, 2) := by decide +kernel
theorem dX5_countLots_152 : decode cX5_countLots 152 = .ok (.iload 7, 2) := by decide +kernel
theorem dX5_countLots_154 : decode cX5_countLots 154 = .ok (.isub, 1) := by decide +kernel
theorem dX5_countLots_155 : decode cX5_countLots 155 = .ok (.iload 8, 2) := by decide +kernel
theorem dX5_countLots_157 : decode cX5_countLots 157 = .ok (.invokestatic 87, 3) := by decide +kernel
theorem dX5_countLots_160 : decode cX5_countLots 160 = .ok (.istore 10, 2) := by decide +kernel
theorem dX5_countLots_162 : decode cX5_countLots 162 = .ok (.goto (-135), 3) := by decide +kernel
theorem dX5_countLots_165 : decode cX5_countLots 165 = .ok (.iload 5, 2) := by decide +kernel
theorem dX5_countLots_167 : decode cX5_countLots 167 = .ok (.iload_n 3, 1) := by decide +kernel
theorem dX5_countLots_168 : decode cX5_countLots 168 = .ok (.iconst 1, 1) := by decide +kernel
theorem dX5_countLots_169 : decode cX5_countLots 169 = .ok (.if_icmp .ne 8, 3) := by decide +kernel
theorem dX5_countLots_172 : decode cX5_countLots 172 = .ok (.iload 7, 2) := by decide +kernel
theorem dX5_countLots_174 : decode cX5_countLots 174 = .ok (.goto 8, 3) := by decide +kernel
theorem dX5_countLots_177 : decode cX5_countLots 177 = .ok (.iload 9, 2) := by decide +kernel
theorem dX5_countLots_179 : decode cX5_countLots 179 = .ok (.iload 7, 2) := by decide +kernel
theorem dX5_countLots_181 : decode cX5_countLots 181 = .ok (.isub, 1) := by decide +kernel
theorem dX5_countLots_182 : decode cX5_countLots 182 = .ok (.iadd, 1) := by decide +kernel
theorem dX5_countLots_183 : decode cX5_countLots 183 = .ok (.istore 5, 2) := by decide +kernel
theorem dX5_countLots_185 : decode cX5_countLots 185 = .ok (.iinc 6 1, 3) := by decide +kernel
theorem dX5_countLots_188 : decode cX5_countLots 188 = .ok (.goto (-179), 3) := by decide +kernel
theorem dX5_countLots_191 : decode cX5_countLots 191 = .ok (.iload 5, 2) := by decide +kernel
theorem dX5_countLots_193 : decode cX5_countLots 193 = .ok (.ireturn, 1) := by decide +kernel
theorem dX5_latestOnes_0 : decode cX5_latestOnes 0 = .ok (.iconst 0, 1) := by decide +kernel
theorem dX5_latestOnes_1 : decode cX5_latestOnes 1 = .ok (.istore_n 2, 1) := by decide +kernel
theorem dX5_latestOnes_2 : decode cX5_latestOnes 2 = .ok (.iconst 0, 1) := by decide +kernel
theorem dX5_latestOnes_3 : decode cX5_latestOnes 3 = .ok (.istore_n 3, 1) := by decide +kernel
theorem dX5_latestOnes_4 : decode cX5_latestOnes 4 = .ok (.iload_n 3, 1) := by decide +kernel
theorem dX5_latestOnes_5 : decode cX5_latestOnes 5 = .ok (.iload_n 0, 1) := by decide +kernel
theorem dX5_latestOnes_6 : decode cX5_latestOnes 6 = .ok (.if_icmp .ge 26, 3) := by decide +kernel
theorem dX5_latestOnes_9 : decode cX5_latestOnes 9 = .ok (.iload_n 1, 1) := by decide +kernel
theorem dX5_latestOnes_10 : decode cX5_latestOnes 10 = .ok (.iload_n 3, 1) := by decide +kernel
theorem dX5_latestOnes_11 : decode cX5_latestOnes 11 = .ok (.ishr, 1) := by decide +kernel
theorem dX5_latestOnes_12 : decode cX5_latestOnes 12 = .ok (.iconst 1, 1) := by decide +kernel
theorem dX5_latestOnes_13 : decode cX5_latestOnes 13 = .ok (.iand, 1) := by decide +kernel
theorem dX5_latestOnes_14 : decode cX5_latestOnes 14 = .ok (.iconst 1, 1) := by decide +kernel
theorem dX5_latestOnes_15 : decode cX5_latestOnes 15 = .ok (.if_icmp .ne 9, 3) := by decide +kernel
theorem dX5_latestOnes_18 : decode cX5_latestOnes 18 = .ok (.iload_n 2, 1) := by decide +kernel
theorem dX5_latestOnes_19 : decode cX5_latestOnes 19 = .ok (.iconst 1, 1) := by decide +kernel
theorem dX5_latestOnes_20 : decode cX5_latestOnes 20 = .ok (.iadd, 1) := by decide +kernel
theorem dX5_latestOnes_21 : decode cX5_latestOnes 21 = .ok (.goto 4, 3) := by decide +kernel
theorem dX5_latestOnes_24 : decode cX5_latestOnes 24 = .ok (.iconst 0, 1) := by decide +kernel
theorem dX5_latestOnes_25 : decode cX5_latestOnes 25 = .ok (.istore_n 2, 1) := by decide +kernel
theorem dX5_latestOnes_26 : decode cX5_latestOnes 26 = .ok (.iinc 3 1, 3) := by decide +kernel
theorem dX5_latestOnes_29 : decode cX5_latestOnes 29 = .ok (.goto (-25), 3) := by decide +kernel
theorem dX5_latestOnes_32 : decode cX5_latestOnes 32 = .ok (.iload_n 2, 1) := by decide +kernel
theorem dX5_latestOnes_33 : decode cX5_latestOnes 33 = .ok (.ireturn, 1) := by decide +kernel
theorem dX5_lawStops_0 : decode cX5_lawStops 0 = .ok (.iload_n 0, 1) := by decide +kernel
theorem dX5_lawStops_1 : decode cX5_lawStops 1 = .ok (.tableswitch 111 0 5 #[39, 50, 61, 74, 85, 97], 39) := by decide +kernel
theorem dX5_lawStops_40 : decode cX5_lawStops 40 = .ok (.iload 4, 2) := by decide +kernel
theorem dX5_lawStops_42 : decode cX5_lawStops 42 = .ok (.ifCond .le 7, 3) := by decide +kernel
theorem dX5_lawStops_45 : decode cX5_lawStops 45 = .ok (.iconst 1, 1) := by decide +kernel
theorem dX5_lawStops_46 : decode cX5_lawStops 46 = .ok (.goto 4, 3) := by decide +kernel
theorem dX5_lawStops_49 : decode cX5_lawStops 49 = .ok (.iconst 0, 1) := by decide +kernel
theorem dX5_lawStops_50 : decode cX5_lawStops 50 = .ok (.ireturn, 1) := by decide +kernel
theorem dX5_lawStops_51 : decode cX5_lawStops 51 = .ok (.iload_n 2, 1) := by decide +kernel
theorem dX5_lawStops_52 : decode cX5_lawStops 52 = .ok (.iload_n 1, 1) := by decide +kernel
theorem dX5_lawStops_53 : decode cX5_lawStops 53 = .ok (.if_icmp .lt 7, 3) := by decide +kernel
theorem dX5_lawStops_56 : decode cX5_lawStops 56 = .ok (.iconst 1, 1) := by decide +kernel
theorem dX5_lawStops_57 : decode cX5_lawStops 57 = .ok (.goto 4, 3) := by decide +kernel
theorem dX5_lawStops_60 : decode cX5_lawStops 60 = .ok (.iconst 0, 1) := by decide +kernel
theorem dX5_lawStops_61 : decode cX5_lawStops 61 = .ok (.ireturn, 1) := by decide +kernel
theorem dX5_lawStops_62 : decode cX5_lawStops 62 = .ok (.iload_n 2, 1) := by decide +kernel
theorem dX5_lawStops_63 : decode cX5_lawStops 63 = .ok (.iload_n 3, 1) := by decide +kernel
theorem dX5_lawStops_64 : decode cX5_lawStops 64 = .ok (.isub, 1) := by decide +kernel
theorem dX5_lawStops_65 : decode cX5_lawStops 65 = .ok (.iload_n 1, 1) := by decide +kernel
theorem dX5_lawStops_66 : decode cX5_lawStops 66 = .ok (.if_icmp .ne 7, 3) := by decide +kernel
theorem dX5_lawStops_69 : decode cX5_lawStops 69 = .ok (.iconst 1, 1) := by decide +kernel
theorem dX5_lawStops_70 : decode cX5_lawStops 70 = .ok (.goto 4, 3) := by decide +kernel
theorem dX5_lawStops_73 : decode cX5_lawStops 73 = .ok (.iconst 0, 1) := by decide +kernel
theorem dX5_lawStops_74 : decode cX5_lawStops 74 = .ok (.ireturn, 1) := by decide +kernel
theorem dX5_lawStops_75 : decode cX5_lawStops 75 = .ok (.iload_n 2, 1) := by decide +kernel
theorem dX5_lawStops_76 : decode cX5_lawStops 76 = .ok (.iload_n 3, 1) := by decide +kernel
theorem dX5_lawStops_77 : decode cX5_lawStops 77 = .ok (.if_icmp .ne 7, 3) := by decide +kernel
theorem dX5_lawStops_80 : decode cX5_lawStops 80 = .ok (.iconst 1, 1) := by decide +kernel
theorem dX5_lawStops_81 : decode cX5_lawStops 81 = .ok (.goto 4, 3) := by decide +kernel
theorem dX5_lawStops_84 : decode cX5_lawStops 84 = .ok (.iconst 0, 1) := by decide +kernel
theorem dX5_lawStops_85 : decode cX5_lawStops 85 = .ok (.ireturn, 1) := by decide +kernel
theorem dX5_lawStops_86 : decode cX5_lawStops 86 = .ok (.iload 4, 2) := by decide +kernel
theorem dX5_lawStops_88 : decode cX5_lawStops 88 = .ok (.iload_n 1, 1) := by decide +kernel
theorem dX5_lawStops_89 : decode cX5_lawStops 89 = .ok (.if_icmp .lt 7, 3) := by decide +kernel
theorem dX5_lawStops_92 : decode cX5_lawStops 92 = .ok (.iconst 1, 1) := by decide +kernel
theorem dX5_lawStops_93 : decode cX5_lawStops 93 = .ok (.goto 4, 3) := by decide +kernel
theorem dX5_lawStops_96 : decode cX5_lawStops 96 = .ok (.iconst 0, 1) := by decide +kernel
theorem dX5_lawStops_97 : decode cX5_lawStops 97 = .ok (.ireturn, 1) := by decide +kernel
theorem dX5_lawStops_98 : decode cX5_lawStops 98 = .ok (.iload_n 2, 1) := by decide +kernel
theorem dX5_lawStops_99 : decode cX5_lawStops 99 = .ok (.ifCond .le 11, 3) := by decide +kernel
theorem dX5_lawStops_102 : decode cX5_lawStops 102 = .ok (.iload_n 3, 1) := by decide +kernel
theorem dX5_lawStops_103 : decode cX5_lawStops 103 = .ok (.ifCond .le 7, 3) := by decide +kernel
theorem dX5_lawStops_106 : decode cX5_lawStops 106 = .ok (.iconst 1, 1) := by decide +kernel
theorem dX5_lawStops_107 : decode cX5_lawStops 107 = .ok (.goto 4, 3) := by decide +kernel
theorem dX5_lawStops_110 : decode cX5_lawStops 110 = .ok (.iconst 0, 1) := by decide +kernel
theorem dX5_lawStops_111 : decode cX5_lawStops 111 = .ok (.ireturn, 1) := by decide +kernel
theorem dX5_lawStops_112 : decode cX5_lawStops 112 = .ok (.iconst 1, 1) := by decide +kernel
theorem dX5_lawStops_113 : decode cX5_lawStops 113 = .ok (.ireturn, 1) := by decide +kernel
theorem dX5_chanceOfOne_0 : decode cX5_chanceOfOne 0 = .ok (.iload_n 2, 1) := by decide +kernel
theorem dX5_chanceOfOne_1 : decode cX5_chanceOfOne 1 = .ok (.ifCond .ne 5, 3) := by decide +kernel
theorem dX5_chanceOfOne_4 : decode cX5_chanceOfOne 4 = .ok (.iload_n 0, 1) := by decide +kernel
theorem dX5_chanceOfOne_5 : decode cX5_chanceOfOne 5 = .ok (.ireturn, 1) := by decide +kernel
theorem dX5_chanceOfOne_6 : decode cX5_chanceOfOne 6 = .ok (.iload_n 3, 1) := by decide +kernel
theorem dX5_chanceOfOne_7 : decode cX5_chanceOfOne 7 = .ok (.ifCond .le 9, 3) := by decide +kernel
theorem dX5_chanceOfOne_10 : decode cX5_chanceOfOne 10 = .ok (.iload_n 0, 1) := by decide +kernel
theorem dX5_chanceOfOne_11 : decode cX5_chanceOfOne 11 = .ok (.iload_n 1, 1) := by decide +kernel
theorem dX5_chanceOfOne_12 : decode cX5_chanceOfOne 12 = .ok (.iadd, 1) := by decide +kernel
theorem dX5_chanceOfOne_13 : decode cX5_chanceOfOne 13 = .ok (.goto 6, 3) := by decide +kernel
theorem dX5_chanceOfOne_16 : decode cX5_chanceOfOne 16 = .ok (.iload_n 0, 1) := by decide +kernel
theorem dX5_chanceOfOne_17 : decode cX5_chanceOfOne 17 = .ok (.iload_n 1, 1) := by decide +kernel
theorem dX5_chanceOfOne_18 : decode cX5_chanceOfOne 18 = .ok (.isub, 1) := by decide +kernel
theorem dX5_chanceOfOne_19 : decode cX5_chanceOfOne 19 = .ok (.istore 4, 2) := by decide +kernel
theorem dX5_chanceOfOne_21 : decode cX5_chanceOfOne 21 = .ok (.iconst 0, 1) := by decide +kernel
theorem dX5_chanceOfOne_22 : decode cX5_chanceOfOne 22 = .ok (.bipush 12, 2) := by decide +kernel
theorem dX5_chanceOfOne_24 : decode cX5_chanceOfOne 24 = .ok (.iload 4, 2) := by decide +kernel
theorem dX5_chanceOfOne_26 : decode cX5_chanceOfOne 26 = .ok (.invokestatic 214, 3) := by decide +kernel
theorem dX5_chanceOfOne_29 : decode cX5_chanceOfOne 29 = .ok (.invokestatic 219, 3) := by decide +kernel
theorem dX5_chanceOfOne_32 : decode cX5_chanceOfOne 32 = .ok (.ireturn, 1) := by decide +kernel
set_option maxRecDepth 20000 in
theorem ggX5_fraction_X5_greatestDivisor : GoodIn wsX5_fraction wsX5_greatestDivisor := goodIn_r _ [4] (by decide +kernel) (by decide +kernel)
set_option maxRecDepth 20000 in
theorem gX5_fraction_X5_greatestDivisor : GoodIn wsX5_fraction (va_wsS RX5 222 yX5_greatestDivisor wsX5_greatestDivisor) := goodIn_app (goodIn_of _ (by decide +kernel)) ggX5_fraction_X5_greatestDivisor
theorem dX5_fraction_0 : decode cX5_fraction 0 = .ok (.lload_n 0, 1) := by decide +kernel
theorem dX5_fraction_1 : decode cX5_fraction 1 = .ok (.lload_n 2, 1) := by decide +kernel
theorem dX5_fraction_2 : decode cX5_fraction 2 = .ok (.invokestatic 222, 3) := by decide +kernel
theorem dX5_fraction_5 : decode cX5_fraction 5 = .ok (.lstore 5, 2) := by decide +kernel
theorem dX5_fraction_7 : decode cX5_fraction 7 = .ok (.lload_n 0, 1) := by decide +kernel
theorem dX5_fraction_8 : decode cX5_fraction 8 = .ok (.lconst 0, 1) := by decide +kernel
theorem dX5_fraction_9 : decode cX5_fraction 9 = .ok (.lcmp, 1) := by decide +kernel
theorem dX5_fraction_10 : decode cX5_fraction 10 = .ok (.ifCond .eq 16, 3) := by decide +kernel
theorem dX5_fraction_13 : decode cX5_fraction 13 = .ok (.lload_n 2, 1) := by decide +kernel
theorem dX5_fraction_14 : decode cX5_fraction 14 = .ok (.lconst 0, 1) := by decide +kernel
theorem dX5_fraction_15 : decode cX5_fraction 15 = .ok (.lcmp, 1) := by decide +kernel
theorem dX5_fraction_16 : decode cX5_fraction 16 = .ok (.ifCond .eq 10, 3) := by decide +kernel
theorem dX5_fraction_19 : decode cX5_fraction 19 = .ok (.lload 5, 2) := by decide +kernel
theorem dX5_fraction_21 : decode cX5_fraction 21 = .ok (.lconst 0, 1) := by decide +kernel
theorem dX5_fraction_22 : decode cX5_fraction 22 = .ok (.lcmp, 1) := by decide +kernel
theorem dX5_fraction_23 : decode cX5_fraction 23 = .ok (.ifCond .ne 14, 3) := by decide +kernel
theorem dX5_fraction_26 : decode cX5_fraction 26 = .ok (.iload 4, 2) := by decide +kernel
theorem dX5_fraction_28 : decode cX5_fraction 28 = .ok (.ifCond .ne 7, 3) := by decide +kernel
theorem dX5_fraction_31 : decode cX5_fraction 31 = .ok (.lconst 0, 1) := by decide +kernel
theorem dX5_fraction_32 : decode cX5_fraction 32 = .ok (.goto 4, 3) := by decide +kernel
theorem dX5_fraction_35 : decode cX5_fraction 35 = .ok (.lconst 1, 1) := by decide +kernel
theorem dX5_fraction_36 : decode cX5_fraction 36 = .ok (.lreturn, 1) := by decide +kernel
theorem dX5_fraction_37 : decode cX5_fraction 37 = .ok (.iload 4, 2) := by decide +kernel
theorem dX5_fraction_39 : decode cX5_fraction 39 = .ok (.ifCond .ne 7, 3) := by decide +kernel
theorem dX5_fraction_42 : decode cX5_fraction 42 = .ok (.lload_n 0, 1) := by decide +kernel
theorem dX5_fraction_43 : decode cX5_fraction 43 = .ok (.goto 4, 3) := by decide +kernel
theorem dX5_fraction_46 : decode cX5_fraction 46 = .ok (.lload_n 2, 1) := by decide +kernel
theorem dX5_fraction_47 : decode cX5_fraction 47 = .ok (.lload 5, 2) := by decide +kernel
theorem dX5_fraction_49 : decode cX5_fraction 49 = .ok (.ldiv, 1) := by decide +kernel
theorem dX5_fraction_50 : decode cX5_fraction 50 = .ok (.lreturn, 1) := by decide +kernel
theorem dX5_greatestDivisor_0 : decode cX5_greatestDivisor 0 = .ok (.lload_n 0, 1) := by decide +kernel
theorem dX5_greatestDivisor_1 : decode cX5_greatestDivisor 1 = .ok (.lstore 4, 2) := by decide +kernel
theorem dX5_greatestDivisor_3 : decode cX5_greatestDivisor 3 = .ok (.lload_n 2, 1) := by decide +kernel
theorem dX5_greatestDivisor_4 : decode cX5_greatestDivisor 4 = .ok (.lstore 6, 2) := by decide +kernel
theorem dX5_greatestDivisor_6 : decode cX5_greatestDivisor 6 = .ok (.iconst 0, 1) := by decide +kernel
theorem dX5_greatestDivisor_7 : decode cX5_greatestDivisor 7 = .ok (.istore 8, 2) := by decide +kernel
theorem dX5_greatestDivisor_9 : decode cX5_greatestDivisor 9 = .ok (.iload 8, 2) := by decide +kernel
theorem dX5_greatestDivisor_11 : decode cX5_greatestDivisor 11 = .ok (.sipush 200, 3) := by decide +kernel
theorem dX5_greatestDivisor_14 : decode cX5_greatestDivisor 14 = .ok (.if_icmp .ge 31, 3) := by decide +kernel
theorem dX5_greatestDivisor_17 : decode cX5_greatestDivisor 17 = .ok (.lload 6, 2) := by decide +kernel
theorem dX5_greatestDivisor_19 : decode cX5_greatestDivisor 19 = .ok (.lconst 0, 1) := by decide +kernel
theorem dX5_greatestDivisor_20 : decode cX5_greatestDivisor 20 = .ok (.lcmp, 1) := by decide +kernel
theorem dX5_greatestDivisor_21 : decode cX5_greatestDivisor 21 = .ok (.ifCond .eq 24, 3) := by decide +kernel
theorem dX5_greatestDivisor_24 : decode cX5_greatestDivisor 24 = .ok (.lload 4, 2) := by decide +kernel
theorem dX5_greatestDivisor_26 : decode cX5_greatestDivisor 26 = .ok (.lload 6, 2) := by decide +kernel
theorem dX5_greatestDivisor_28 : decode cX5_greatestDivisor 28 = .ok (.lrem, 1) := by decide +kernel
theorem dX5_greatestDivisor_29 : decode cX5_greatestDivisor 29 = .ok (.lstore 9, 2) := by decide +kernel
theorem dX5_greatestDivisor_31 : decode cX5_greatestDivisor 31 = .ok (.lload 6, 2) := by decide +kernel
theorem dX5_greatestDivisor_33 : decode cX5_greatestDivisor 33 = .ok (.lstore 4, 2) := by decide +kernel
theorem dX5_greatestDivisor_35 : decode cX5_greatestDivisor 35 = .ok (.lload 9, 2) := by decide +kernel
theorem dX5_greatestDivisor_37 : decode cX5_greatestDivisor 37 = .ok (.lstore 6, 2) := by decide +kernel
theorem dX5_greatestDivisor_39 : decode cX5_greatestDivisor 39 = .ok (.iinc 8 1, 3) := by decide +kernel
theorem dX5_greatestDivisor_42 : decode cX5_greatestDivisor 42 = .ok (.goto (-33), 3) := by decide +kernel
theorem dX5_greatestDivisor_45 : decode cX5_greatestDivisor 45 = .ok (.lload 4, 2) := by decide +kernel
theorem dX5_greatestDivisor_47 : decode cX5_greatestDivisor 47 = .ok (.lreturn, 1) := by decide +kernel
theorem dX5_compareFractions_0 : decode cX5_compareFractions 0 = .ok (.lload_n 0, 1) := by decide +kernel
theorem dX5_compareFractions_1 : decode cX5_compareFractions 1 = .ok (.lstore 8, 2) := by decide +kernel
theorem dX5_compareFractions_3 : decode cX5_compareFractions 3 = .ok (.lload_n 2, 1) := by decide +kernel
theorem dX5_compareFractions_4 : decode cX5_compareFractions 4 = .ok (.lstore 10, 2) := by decide +kernel
theorem dX5_compareFractions_6 : decode cX5_compareFractions 6 = .ok (.lload 4, 2) := by decide +kernel
theorem dX5_compareFractions_8 : decode cX5_compareFractions 8 = .ok (.lstore 12, 2) := by decide +kernel
theorem dX5_compareFractions_10 : decode cX5_compareFractions 10 = .ok (.lload 6, 2) := by decide +kernel
theorem dX5_compareFractions_12 : decode cX5_compareFractions 12 = .ok (.lstore 14, 2) := by decide +kernel
theorem dX5_compareFractions_14 : decode cX5_compareFractions 14 = .ok (.iconst 0, 1) := by decide +kernel
theorem dX5_compareFractions_15 : decode cX5_compareFractions 15 = .ok (.istore 16, 2) := by decide +kernel
theorem dX5_compareFractions_17 : decode cX5_compareFractions 17 = .ok (.iload 16, 2) := by decide +kernel
theorem dX5_compareFractions_19 : decode cX5_compareFractions 19 = .ok (.sipush 200, 3) := by decide +kernel
theorem dX5_compareFractions_22 : decode cX5_compareFractions 22 = .ok (.if_icmp .ge 113, 3) := by decide +kernel
theorem dX5_compareFractions_25 : decode cX5_compareFractions 25 = .ok (.lload 10, 2) := by decide +kernel
theorem dX5_compareFractions_27 : decode cX5_compareFractions 27 = .ok (.lconst 0, 1) := by decide +kernel
theorem dX5_compareFractions_28 : decode cX5_compareFractions 28 = .ok (.lcmp, 1) := by decide +kernel
theorem dX5_compareFractions_29 : decode cX5_compareFractions 29 = .ok (.ifCond .eq 10, 3) := by decide +kernel
theorem dX5_compareFractions_32 : decode cX5_compareFractions 32 = .ok (.lload 14, 2) := by decide +kernel
theorem dX5_compareFractions_34 : decode cX5_compareFractions 34 = .ok (.lconst 0, 1) := by decide +kernel
theorem dX5_compareFractions_35 : decode cX5_compareFractions 35 = .ok (.lcmp, 1) := by decide +kernel
theorem dX5_compareFractions_36 : decode cX5_compareFractions 36 = .ok (.ifCond .ne 29, 3) := by decide +kernel
theorem dX5_compareFractions_39 : decode cX5_compareFractions 39 = .ok (.lload 10, 2) := by decide +kernel
theorem dX5_compareFractions_41 : decode cX5_compareFractions 41 = .ok (.lconst 0, 1) := by decide +kernel
theorem dX5_compareFractions_42 : decode cX5_compareFractions 42 = .ok (.lcmp, 1) := by decide +kernel
theorem dX5_compareFractions_43 : decode cX5_compareFractions 43 = .ok (.ifCond .ne 7, 3) := by decide +kernel
theorem dX5_compareFractions_46 : decode cX5_compareFractions 46 = .ok (.iconst 1, 1) := by decide +kernel
theorem dX5_compareFractions_47 : decode cX5_compareFractions 47 = .ok (.goto 4, 3) := by decide +kernel
theorem dX5_compareFractions_50 : decode cX5_compareFractions 50 = .ok (.iconst 0, 1) := by decide +kernel
theorem dX5_compareFractions_51 : decode cX5_compareFractions 51 = .ok (.lload 14, 2) := by decide +kernel
theorem dX5_compareFractions_53 : decode cX5_compareFractions 53 = .ok (.lconst 0, 1) := by decide +kernel
theorem dX5_compareFractions_54 : decode cX5_compareFractions 54 = .ok (.lcmp, 1) := by decide +kernel
theorem dX5_compareFractions_55 : decode cX5_compareFractions 55 = .ok (.ifCond .ne 7, 3) := by decide +kernel
theorem dX5_compareFractions_58 : decode cX5_compareFractions 58 = .ok (.iconst 1, 1) := by decide +kernel
theorem dX5_compareFractions_59 : decode cX5_compareFractions 59 = .ok (.goto 4, 3) := by decide +kernel
theorem dX5_compareFractions_62 : decode cX5_compareFractions 62 = .ok (.iconst 0, 1) := by decide +kernel
theorem dX5_compareFractions_63 : decode cX5_compareFractions 63 = .ok (.isub, 1) := by decide +kernel
theorem dX5_compareFractions_64 : decode cX5_compareFractions 64 = .ok (.ireturn, 1) := by decide +kernel
theorem dX5_compareFractions_65 : decode cX5_compareFractions 65 = .ok (.lload 8, 2) := by decide +kernel
theorem dX5_compareFractions_67 : decode cX5_compareFractions 67 = .ok (.lload 10, 2) := by decide +kernel
theorem dX5_compareFractions_69 : decode cX5_compareFractions 69 = .ok (.ldiv, 1) := by decide +kernel
theorem dX5_compareFractions_70 : decode cX5_compareFractions 70 = .ok (.lload 12, 2) := by decide +kernel
theorem dX5_compareFractions_72 : decode cX5_compareFractions 72 = .ok (.lload 14, 2) := by decide +kernel
theorem dX5_compareFractions_74 : decode cX5_compareFractions 74 = .ok (.ldiv, 1) := by decide +kernel
theorem dX5_compareFractions_75 : decode cX5_compareFractions 75 = .ok (.lcmp, 1) := by decide +kernel
theorem dX5_compareFractions_76 : decode cX5_compareFractions 76 = .ok (.ifCond .eq 23, 3) := by decide +kernel
theorem dX5_compareFractions_79 : decode cX5_compareFractions 79 = .ok (.lload 8, 2) := by decide +kernel
theorem dX5_compareFractions_81 : decode cX5_compareFractions 81 = .ok (.lload 10, 2) := by decide +kernel
theorem dX5_compareFractions_83 : decode cX5_compareFractions 83 = .ok (.ldiv, 1) := by decide +kernel
theorem dX5_compareFractions_84 : decode cX5_compareFractions 84 = .ok (.lload 12, 2) := by decide +kernel
theorem dX5_compareFractions_86 : decode cX5_compareFractions 86 = .ok (.lload 14, 2) := by decide +kernel
theorem dX5_compareFractions_88 : decode cX5_compareFractions 88 = .ok (.ldiv, 1) := by decide +kernel
theorem dX5_compareFractions_89 : decode cX5_compareFractions 89 = .ok (.lcmp, 1) := by decide +kernel
theorem dX5_compareFractions_90 : decode cX5_compareFractions 90 = .ok (.ifCond .le 7, 3) := by decide +kernel
theorem dX5_compareFractions_93 : decode cX5_compareFractions 93 = .ok (.iconst 1, 1) := by decide +kernel
theorem dX5_compareFractions_94 : decode cX5_compareFractions 94 = .ok (.goto 4, 3) := by decide +kernel
theorem dX5_compareFractions_97 : decode cX5_compareFractions 97 = .ok (.iconst (-1), 1) := by decide +kernel
theorem dX5_compareFractions_98 : decode cX5_compareFractions 98 = .ok (.ireturn, 1) := by decide +kernel
theorem dX5_compareFractions_99 : decode cX5_compareFractions 99 = .ok (.lload 8, 2) := by decide +kernel
theorem dX5_compareFractions_101 : decode cX5_compareFractions 101 = .ok (.lload 10, 2) := by decide +kernel
theorem dX5_compareFractions_103 : decode cX5_compareFractions 103 = .ok (.lrem, 1) := by decide +kernel
theorem dX5_compareFractions_104 : decode cX5_compareFractions 104 = .ok (.lstore 17, 2) := by decide +kernel
theorem dX5_compareFractions_106 : decode cX5_compareFractions 106 = .ok (.lload 12, 2) := by decide +kernel
theorem dX5_compareFractions_108 : decode cX5_compareFractions 108 = .ok (.lload 14, 2) := by decide +kernel
theorem dX5_compareFractions_110 : decode cX5_compareFractions 110 = .ok (.lrem, 1) := by decide +kernel
theorem dX5_compareFractions_111 : decode cX5_compareFractions 111 = .ok (.lstore 19, 2) := by decide +kernel
theorem dX5_compareFractions_113 : decode cX5_compareFractions 113 = .ok (.lload 14, 2) := by decide +kernel
theorem dX5_compareFractions_115 : decode cX5_compareFractions 115 = .ok (.lstore 8, 2) := by decide +kernel
theorem dX5_compareFractions_117 : decode cX5_compareFractions 117 = .ok (.lload 10, 2) := by decide +kernel
theorem dX5_compareFractions_119 : decode cX5_compareFractions 119 = .ok (.lstore 12, 2) := by decide +kernel
theorem dX5_compareFractions_121 : decode cX5_compareFractions 121 = .ok (.lload 19, 2) := by decide +kernel
theorem dX5_compareFractions_123 : decode cX5_compareFractions 123 = .ok (.lstore 10, 2) := by decide +kernel
theorem dX5_compareFractions_125 : decode cX5_compareFractions 125 = .ok (.lload 17, 2) := by decide +kernel
theorem dX5_compareFractions_127 : decode cX5_compareFractions 127 = .ok (.lstore 14, 2) := by decide +kernel
theorem dX5_compareFractions_129 : decode cX5_compareFractions 129 = .ok (.iinc 16 1, 3) := by decide +kernel
theorem dX5_compareFractions_132 : decode cX5_compareFractions 132 = .ok (.goto (-115), 3) := by decide +kernel
theorem dX5_compareFractions_135 : decode cX5_compareFractions 135 = .ok (.iconst 0, 1) := by decide +kernel
theorem dX5_compareFractions_136 : decode cX5_compareFractions 136 = .ok (.ireturn, 1) := by decide +kernel
